set_option maxHeartbeats 4000000 in
set_option maxRecDepth 100000 in
theorem kX1_arrive (l : Launch) (hfl : l.stackTraces = false) (D : va_G) (cI cZ cA : ClassId) (ax : Nat → Nat) (n : Nat) (B : Nat → Nat → Nat) (Q : Nat → Option Nat) (cn : Nat → Bool) (rt : Nat → Nat) (wd : Nat → Option Nat) (qf : Nat → Option Nat) (T : Nat → Nat → Nat) (sz : Nat) (d : Int32) (x : Int32) (y : Int32) (g : Int32) (hB : Bok n B) : vx_Met l yX1_arrive wsX1_arrive ({ frames := 6, cells := 1, slots := 6, locals := 82 }) (PcXM D [(cI, .int), (cZ, .boolean), (cA, .array .int)] (wX cI cZ cA ax n B Q cn rt wd qf T) sz [.ref (ax 0), .int (d), .int (x), .int (y), .int (g)]) (va_Qi (fun (r : Int32) (u9 : Unit) => r = (nI (s_arv n B d x y g)) ∧ s_arc n B d x y g = 0) (fun (u9 : Unit) t => AtW D [(cI, .int), (cZ, .boolean), (cA, .array .int)] (va_A (wX cI cZ cA ax n B Q cn rt wd qf T) sz) (wX cI cZ cA ax (s_arn n B d x y g) (s_arB n B d x y g) Q cn rt wd qf T) t) (va_A (wX cI cZ cA ax n B Q cn rt wd qf T) sz)) (XCf (fun E => (E = "java/lang/IllegalArgumentException" ∧ s_arc n B d x y g = 1) ∨ (E = "java/lang/IllegalStateException" ∧ s_arc n B d x y g = 2))) 1 6 (va_A (wX cI cZ cA ax n B Q cn rt wd qf T) sz) := by
  refine vx_ofW (cc := cX1_arrive) (maxL := 6) (ret := (some .int)) (by decide) rfl ?_
  intro p e s m args below meth c s₁ BL hml hno hv
  obtain ⟨rfl, hsz, hP, hK, hD0, hE⟩ := hv
  have hx := BL.exec
  have hb := BL.bytes
  have hr := BL.returns
  have hts := atoms_spec (ws := wsX1_arrive) BL.pre
  have hown : s.vm.findClass RX1 = some m.cls := findClass_of_methodNamed BL.named
  have hlocks := BL.notSynchronized
  have hin : ∀ w ∈ wsX10, w ∈ wsX1_arrive := by decide +kernel
  have hf_9 := hts (.fieldLink RX1 9 "TalkRebuilder" "mailCount" "I") (by decide +kernel)
  have hf_13 := hts (.fieldLink RX1 13 "TalkRebuilder" "dates" "[I") (by decide +kernel)
  have hf_17 := hts (.fieldLink RX1 17 "TalkRebuilder" "authors" "[I") (by decide +kernel)
  have hf_20 := hts (.fieldLink RX1 20 "TalkRebuilder" "subjects" "[I") (by decide +kernel)
  have hf_23 := hts (.fieldLink RX1 23 "TalkRebuilder" "answeredDates" "[I") (by decide +kernel)
  have hk_56 := hts (.classLink RX1 56 "java/lang/IllegalArgumentException") (by decide +kernel)
  have hi_56 := hts (.initialized "java/lang/IllegalArgumentException") (by decide +kernel)
  have hg_56 : ∀ w ∈ (vx_atS RX1 60 "java/lang/IllegalArgumentException" xN).filter goodWord, w.before _ s = true := fun w h => hts w (List.mem_cons_of_mem _ (List.mem_append_left _ (List.mem_append_left _ (List.mem_append_right _ h))))
  have hk_69 := hts (.classLink RX1 69 "java/lang/IllegalStateException") (by decide +kernel)
  have hi_69 := hts (.initialized "java/lang/IllegalStateException") (by decide +kernel)
  have hg_69 : ∀ w ∈ (vx_atS RX1 73 "java/lang/IllegalStateException" xN).filter goodWord, w.before _ s = true := fun w h => hts w (List.mem_cons_of_mem _ (List.mem_append_left _ (List.mem_append_right _ h)))
  have hl := lv_entry ([.ref (ax 0), .int (d), .int (x), .int (y), .int (g)]) (n := 6) (Nat.le_of_ble_eq_true rfl)
  rw [lg_entry_eq]
  generalize (lg_sl ([.ref (ax 0), .int (d), .int (x), .int (y), .int (g)]) ++ List.replicate (6 - (lg_sl ([.ref (ax 0), .int (d), .int (x), .int (y), .int (g)])).length) Slot.unset).toArray = ls at hl ⊢
  have hl : lv_has ls 6 [(0, .ref (ax 0)), (1, .int (d)), (2, .int (x)), (3, .int (y)), (4, .int (g))] := hl
  subst hsz
  have hD := hD0.self (sz := s.heap.size)
  generalize hAe : va_A (wX cI cZ cA ax n B Q cn rt wd qf T) s.heap.size = A at hD ⊢
  have hA : ∀ q : Nat, s.heap.size ≤ q → A q := fun q h => by rw [← hAe]; exact Or.inr h
  have hS : va_S A s.heap s.heap [] := va_S.rf
  have hP : va_P D vwCl (wX cI cZ cA ax n B Q cn rt wd qf T) s.heap := hP
  have hD : va_D A (wX cI cZ cA ax n B Q cn rt wd qf T) := hD
  have hn10 := hB.1
  refine lv_iload_n hx hb dX1_arrive_0 rfl (lv_at hl 1 rfl) ?_
  refine lv_iconst (v := (nI (1))) hx hb dX1_arrive_1 (by decide +kernel) ?_
  refine lv_bipush (v := (nI (99))) hx hb dX1_arrive_2 (by decide +kernel) ?_
  refine ro_S (As := [.int (d), .int (nI (1)), .int (nI (99))]) (v := (bI (s_in d (nI (1)) (nI (99))))) ⟨hx, hb, hml, hown, hts⟩ (kX1_isWithin l (d) (nI (1)) (nI (99)) ) (va_cwS 3 hts gX1_arrive_X1_isWithin rfl rfl rfl hsX1_isWithin ⟨Nat.le_of_ble_eq_true rfl, Nat.le_of_ble_eq_true rfl⟩) rfl hl.1 rfl (Nat.le_of_ble_eq_true rfl) dX1_arrive_4 ⟨Nat.le_of_ble_eq_true rfl, Nat.le_of_ble_eq_true rfl⟩ ?_
  refine y_eq (tgt := 41) hx hb dX1_arrive_7 (by decide) (fun c_1 => ?_) (fun c_1 => ?_)
  · exact x_thr hx hb hfl hown xf_IAE hk_56 hi_56 hg_56 xb_IAE (by decide +kernel) hE (is := 58) (text := "a number is out of range") (by decide +kernel) (hl.1.trans hml.symm) dX1_arrive_41 dX1_arrive_44 dX1_arrive_45 dX1_arrive_47 dX1_arrive_50 hno (Nat.le_of_ble_eq_true rfl) (Nat.le_of_ble_eq_true rfl) (Nat.le_of_ble_eq_true rfl) (Nat.le_of_ble_eq_true rfl) hlocks (by simp [s_arv, s_arc, c_1]) (Nat.le_of_ble_eq_true rfl) (Nat.le_of_ble_eq_true rfl)
  obtain ⟨k_d, hk_da, hk_db, rfl⟩ := s_in_n (by decide) c_1
  have hc_k_d : (nI k_d).toNatClampNeg = k_d := nI_clamp (by omega)
  refine lv_iload_n hx hb dX1_arrive_10 rfl (lv_at hl 2 rfl) ?_
  refine lv_iconst (v := (nI (0))) hx hb dX1_arrive_11 (by decide +kernel) ?_
  refine lv_iconst (v := (nI (5))) hx hb dX1_arrive_12 (by decide +kernel) ?_
  refine ro_S (As := [.int (x), .int (nI (0)), .int (nI (5))]) (v := (bI (s_in x (nI (0)) (nI (5))))) ⟨hx, hb, hml, hown, hts⟩ (kX1_isWithin l (x) (nI (0)) (nI (5)) ) (va_cwS 3 hts gX1_arrive_X1_isWithin rfl rfl rfl hsX1_isWithin ⟨Nat.le_of_ble_eq_true rfl, Nat.le_of_ble_eq_true rfl⟩) rfl hl.1 rfl (Nat.le_of_ble_eq_true rfl) dX1_arrive_13 ⟨Nat.le_of_ble_eq_true rfl, Nat.le_of_ble_eq_true rfl⟩ ?_
  refine y_eq (tgt := 41) hx hb dX1_arrive_16 (by decide) (fun c_2 => ?_) (fun c_2 => ?_)
  · exact x_thr hx hb hfl hown xf_IAE hk_56 hi_56 hg_56 xb_IAE (by decide +kernel) hE (is := 58) (text := "a number is out of range") (by decide +kernel) (hl.1.trans hml.symm) dX1_arrive_41 dX1_arrive_44 dX1_arrive_45 dX1_arrive_47 dX1_arrive_50 hno (Nat.le_of_ble_eq_true rfl) (Nat.le_of_ble_eq_true rfl) (Nat.le_of_ble_eq_true rfl) (Nat.le_of_ble_eq_true rfl) hlocks (by simp [s_arv, s_arc, c_1, hc_k_d, c_2]) (Nat.le_of_ble_eq_true rfl) (Nat.le_of_ble_eq_true rfl)
  obtain ⟨k_x, hk_xa, hk_xb, rfl⟩ := s_in_n (by decide) c_2
  have hc_k_x : (nI k_x).toNatClampNeg = k_x := nI_clamp (by omega)
  refine lv_iload_n hx hb dX1_arrive_19 rfl (lv_at hl 3 rfl) ?_
  refine lv_iconst (v := (nI (0))) hx hb dX1_arrive_20 (by decide +kernel) ?_
  refine lv_bipush (v := (nI (9))) hx hb dX1_arrive_21 (by decide +kernel) ?_
  refine ro_S (As := [.int (y), .int (nI (0)), .int (nI (9))]) (v := (bI (s_in y (nI (0)) (nI (9))))) ⟨hx, hb, hml, hown, hts⟩ (kX1_isWithin l (y) (nI (0)) (nI (9)) ) (va_cwS 3 hts gX1_arrive_X1_isWithin rfl rfl rfl hsX1_isWithin ⟨Nat.le_of_ble_eq_true rfl, Nat.le_of_ble_eq_true rfl⟩) rfl hl.1 rfl (Nat.le_of_ble_eq_true rfl) dX1_arrive_23 ⟨Nat.le_of_ble_eq_true rfl, Nat.le_of_ble_eq_true rfl⟩ ?_
  refine y_eq (tgt := 41) hx hb dX1_arrive_26 (by decide) (fun c_3 => ?_) (fun c_3 => ?_)
  · exact x_thr hx hb hfl hown xf_IAE hk_56 hi_56 hg_56 xb_IAE (by decide +kernel) hE (is := 58) (text := "a number is out of range") (by decide +kernel) (hl.1.trans hml.symm) dX1_arrive_41 dX1_arrive_44 dX1_arrive_45 dX1_arrive_47 dX1_arrive_50 hno (Nat.le_of_ble_eq_true rfl) (Nat.le_of_ble_eq_true rfl) (Nat.le_of_ble_eq_true rfl) (Nat.le_of_ble_eq_true rfl) hlocks (by simp [s_arv, s_arc, c_1, hc_k_d, c_2, hc_k_x, c_3]) (Nat.le_of_ble_eq_true rfl) (Nat.le_of_ble_eq_true rfl)
  obtain ⟨k_y, hk_ya, hk_yb, rfl⟩ := s_in_n (by decide) c_3
  have hc_k_y : (nI k_y).toNatClampNeg = k_y := nI_clamp (by omega)
  refine lv_iload hx hb dX1_arrive_29 (lv_at hl 4 rfl) ?_
  refine lv_iconst (v := (nI (0))) hx hb dX1_arrive_31 (by decide +kernel) ?_
  refine lv_iload_n hx hb dX1_arrive_32 rfl (lv_at hl 1 rfl) ?_
  refine lv_iconst (v := (nI (1))) hx hb dX1_arrive_33 (by decide +kernel) ?_
  refine lv_isub hx hb dX1_arrive_34 ?_
  refine n_top (y := (nI (k_d - 1))) (pk_sub (by omega)) ?_
  refine ro_S (As := [.int (g), .int (nI (0)), .int (nI (k_d - 1))]) (v := (bI (s_in g (nI (0)) (nI (k_d - 1))))) ⟨hx, hb, hml, hown, hts⟩ (kX1_isWithin l (g) (nI (0)) (nI (k_d - 1)) ) (va_cwS 3 hts gX1_arrive_X1_isWithin rfl rfl rfl hsX1_isWithin ⟨Nat.le_of_ble_eq_true rfl, Nat.le_of_ble_eq_true rfl⟩) rfl hl.1 rfl (Nat.le_of_ble_eq_true rfl) dX1_arrive_35 ⟨Nat.le_of_ble_eq_true rfl, Nat.le_of_ble_eq_true rfl⟩ ?_
  refine y_ne (tgt := 51) hx hb dX1_arrive_38 (by decide) (fun c_4 => ?_) (fun c_4 => ?_)
  · obtain ⟨k_g, hk_ga, hk_gb, rfl⟩ := s_in_n (by decide) c_4
    have hc_k_g : (nI k_g).toNatClampNeg = k_g := nI_clamp (by omega)
    refine lv_aload_n hx hb dX1_arrive_51 rfl (lv_at hl 0 rfl) ?_
    refine lv_iload_n hx hb dX1_arrive_52 rfl (lv_at hl 1 rfl) ?_
    refine ro_V (As := [.int (nI (k_d))]) (v := (oI (s_dated (B 0) k_d n))) ⟨hx, hb, hml, hown, hts⟩ (kX1_mailOfDate l D cI cZ cA ax n B Q cn rt wd qf T k_d hB (by omega)) (cwV 1 hts gX1_arrive_X1_mailOfDate rfl rfl rfl hdX1_mailOfDate ⟨Nat.le_of_ble_eq_true rfl, Nat.le_of_ble_eq_true rfl⟩) hK hP (ci := 3) rfl (q0 := 0) rfl rfl rfl hl.1 rfl (Nat.le_of_ble_eq_true rfl) dX1_arrive_53 ⟨Nat.le_of_ble_eq_true rfl, Nat.le_of_ble_eq_true rfl⟩ ?_
    refine lv_iconst (v := (oI (none))) hx hb dX1_arrive_56 (by decide +kernel) ?_
    refine o_eq (tgt := 70) hx hb (s_dated_b hn10) dX1_arrive_57 (by decide) (fun c_5 => ?_) (fun kc_5 c_5 => ?_)
    · refine lv_aload_n hx hb dX1_arrive_70 rfl (lv_at hl 0 rfl) ?_
      refine va_get (D := D) (ci := 3) (v := .int (nI (n))) (C := RX1) (T := TX1) (N := 12) hx hb hts hin hown hK hP 0 rfl rfl 0 (by decide) hf_9 (fun _ h9 => h9) rfl dX1_arrive_71 ?_
      refine lv_bipush (v := (nI (10))) hx hb dX1_arrive_74 (by decide +kernel) ?_
      refine n_lt (tgt := 89) hx hb (by omega) (by omega) dX1_arrive_76 (by decide) (fun c_6 => ?_) (fun c_6 => ?_)
      · have hnf : ¬ n = 10 := by omega
        refine lv_aload_n hx hb dX1_arrive_89 rfl (lv_at hl 0 rfl) ?_
        refine va_get (D := D) (ci := 3) (v := .int (nI (n))) (C := RX1) (T := TX1) (N := 12) hx hb hts hin hown hK hP 0 rfl rfl 0 (by decide) hf_9 (fun _ h9 => h9) rfl dX1_arrive_90 ?_
        refine lv_istore (lv' := [(5, .int (nI (n))), (0, .ref (ax 0)), (1, .int (nI (k_d))), (2, .int (nI (k_x))), (3, .int (nI (k_y))), (4, .int (nI (k_g)))]) hx hb dX1_arrive_93 hl (by decide) rfl (fun ls hl => ?_)
        refine lv_aload_n hx hb dX1_arrive_95 rfl (lv_at hl 1 rfl) ?_
        refine va_get (D := D) (ci := 3) (v := .ref (ax 1)) (C := RX1) (T := TX1) (N := 12) hx hb hts hin hown hK hP 0 rfl rfl 1 (by decide) hf_13 (fun _ h9 => h9) rfl dX1_arrive_96 ?_
        refine lv_iload hx hb dX1_arrive_99 (lv_at hl 0 rfl) ?_
        refine lv_iload_n hx hb dX1_arrive_101 rfl (lv_at hl 2 rfl) ?_
        refine r_iast hx hb hK hP hD hS 1 0 rfl rfl (i := n) (by omega) (by decide) dX1_arrive_102 (ws' := (wX cI cZ cA ax n (b_up B 0 n k_d) Q cn rt wd qf T)) (nI_upd _ _ _) rfl (fun H locs hP hD hS => ?_)
        refine lv_aload_n hx hb dX1_arrive_103 rfl (lv_at hl 1 rfl) ?_
        refine va_get (D := D) (ci := 3) (v := .ref (ax 2)) (C := RX1) (T := TX1) (N := 12) hx hb hts hin hown hK hP 0 rfl rfl 2 (by decide) hf_17 (fun _ h9 => h9) rfl dX1_arrive_104 ?_
        refine lv_iload hx hb dX1_arrive_107 (lv_at hl 0 rfl) ?_
        refine lv_iload_n hx hb dX1_arrive_109 rfl (lv_at hl 3 rfl) ?_
        refine r_iast hx hb hK hP hD hS 2 0 rfl rfl (i := n) (by omega) (by decide) dX1_arrive_110 (ws' := (wX cI cZ cA ax n (b_up (b_up B 0 n k_d) 1 n k_x) Q cn rt wd qf T)) (nI_upd _ _ _) rfl (fun H locs hP hD hS => ?_)
        refine lv_aload_n hx hb dX1_arrive_111 rfl (lv_at hl 1 rfl) ?_
        refine va_get (D := D) (ci := 3) (v := .ref (ax 3)) (C := RX1) (T := TX1) (N := 12) hx hb hts hin hown hK hP 0 rfl rfl 3 (by decide) hf_20 (fun _ h9 => h9) rfl dX1_arrive_112 ?_
        refine lv_iload hx hb dX1_arrive_115 (lv_at hl 0 rfl) ?_
        refine lv_iload_n hx hb dX1_arrive_117 rfl (lv_at hl 4 rfl) ?_
        refine r_iast hx hb hK hP hD hS 3 0 rfl rfl (i := n) (by omega) (by decide) dX1_arrive_118 (ws' := (wX cI cZ cA ax n (b_up (b_up (b_up B 0 n k_d) 1 n k_x) 2 n k_y) Q cn rt wd qf T)) (nI_upd _ _ _) rfl (fun H locs hP hD hS => ?_)
        refine lv_aload_n hx hb dX1_arrive_119 rfl (lv_at hl 1 rfl) ?_
        refine va_get (D := D) (ci := 3) (v := .ref (ax 4)) (C := RX1) (T := TX1) (N := 12) hx hb hts hin hown hK hP 0 rfl rfl 4 (by decide) hf_23 (fun _ h9 => h9) rfl dX1_arrive_120 ?_
        refine lv_iload hx hb dX1_arrive_123 (lv_at hl 0 rfl) ?_
        refine lv_iload hx hb dX1_arrive_125 (lv_at hl 5 rfl) ?_
        refine r_iast hx hb hK hP hD hS 4 0 rfl rfl (i := n) (by omega) (by decide) dX1_arrive_127 (ws' := (wX cI cZ cA ax n (b_up (b_up (b_up (b_up B 0 n k_d) 1 n k_x) 2 n k_y) 3 n k_g) Q cn rt wd qf T)) (nI_upd _ _ _) rfl (fun H locs hP hD hS => ?_)
        refine lv_aload_n hx hb dX1_arrive_128 rfl (lv_at hl 1 rfl) ?_
        refine lv_dup hx hb dX1_arrive_129 rfl ?_
        refine va_get (D := D) (ci := 3) (v := .int (nI (n))) (C := RX1) (T := TX1) (N := 12) hx hb hts hin hown hK hP 0 rfl rfl 0 (by decide) hf_9 (fun _ h9 => h9) rfl dX1_arrive_130 ?_
        refine lv_iconst (v := (nI (1))) hx hb dX1_arrive_133 (by decide +kernel) ?_
        refine lv_iadd hx hb dX1_arrive_134 ?_
        refine n_top (y := (nI (n + 1))) (nI_add _ _) ?_
        refine va_put (D := D) (ci := 3) (v := .int (nI (n + 1))) (ty := .int) (C := RX1) (T := TX1) (N := 12) hx hb hts hin tyX1 tyX1_ok nmX1 hown hK hP hD hS 0 rfl rfl 0 (by decide) hf_9 (fun _ h9 => h9) rfl (by decide +kernel) rfl rfl (Nat.le_of_ble_eq_true rfl) dX1_arrive_135 (fun H locs hP hD hS => ?_)
        have hP : va_P D vwCl (wX cI cZ cA ax (n + 1) (b_up (b_up (b_up (b_up B 0 n k_d) 1 n k_x) 2 n k_y) 3 n k_g) Q cn rt wd qf T) H := hP
        have hD : va_D A (wX cI cZ cA ax (n + 1) (b_up (b_up (b_up (b_up B 0 n k_d) 1 n k_x) 2 n k_y) 3 n k_g) Q cn rt wd qf T) := hD
        refine lv_iload hx hb dX1_arrive_138 (lv_at hl 0 rfl) ?_
        refine vx_ret ?_
        refine W.widen (k := 1) (n := 6) (Nat.le_of_ble_eq_true rfl) (Nat.le_of_ble_eq_true rfl) ?_
        have ew_7 : (n + 1) = (s_arn n B (nI k_d) (nI k_x) (nI k_y) (nI k_g)) := by first | rfl | (simp [oI_s, bI_t, bI_f, s_arn, s_arc, c_1, hc_k_d, c_2, hc_k_x, c_3, hc_k_y, c_4, hc_k_g, c_5, c_6, hnf, Nat.not_le.mpr c_6]; done) | (simp [oI_s, bI_t, bI_f, s_arn, s_arc, c_1, hc_k_d, c_2, hc_k_x, c_3, hc_k_y, c_4, hc_k_g, c_5, c_6, hnf, Nat.not_le.mpr c_6]; omega) | (simp only [s_arn, s_arc]; (repeat' split) <;> first | rfl | omega | (simp_all; done) | (simp_all; omega))
        have ew_8 : (b_up (b_up (b_up (b_up B 0 n k_d) 1 n k_x) 2 n k_y) 3 n k_g) = (s_arB n B (nI k_d) (nI k_x) (nI k_y) (nI k_g)) := by first | rfl | (simp [oI_s, bI_t, bI_f, s_arB, s_arc, c_1, hc_k_d, c_2, hc_k_x, c_3, hc_k_y, c_4, hc_k_g, c_5, c_6, hnf, Nat.not_le.mpr c_6]; done) | (simp [oI_s, bI_t, bI_f, s_arB, s_arc, c_1, hc_k_d, c_2, hc_k_x, c_3, hc_k_y, c_4, hc_k_g, c_5, c_6, hnf, Nat.not_le.mpr c_6]; omega) | (simp only [s_arB, s_arc]; (repeat' split) <;> first | rfl | omega | (simp_all; done) | (simp_all; omega))
        have hP : va_P D vwCl (wX cI cZ cA ax (s_arn n B (nI k_d) (nI k_x) (nI k_y) (nI k_g)) (s_arB n B (nI k_d) (nI k_x) (nI k_y) (nI k_g)) Q cn rt wd qf T) H := by rw [← ew_7, ← ew_8]; exact hP
        have hD : va_D A (wX cI cZ cA ax (s_arn n B (nI k_d) (nI k_x) (nI k_y) (nI k_g)) (s_arB n B (nI k_d) (nI k_x) (nI k_y) (nI k_g)) Q cn rt wd qf T) := by rw [← ew_7, ← ew_8]; exact hD
        exact W.iret (v := (nI (n))) hx hb hr (fun t ht hW => ⟨⟨_, (), rfl, ⟨(by first | rfl | (simp [oI_s, bI_t, bI_f, s_arv, s_arc, c_1, hc_k_d, c_2, hc_k_x, c_3, hc_k_y, c_4, hc_k_g, c_5, c_6, hnf, Nat.not_le.mpr c_6]; done) | (simp [oI_s, bI_t, bI_f, s_arv, s_arc, c_1, hc_k_d, c_2, hc_k_x, c_3, hc_k_y, c_4, hc_k_g, c_5, c_6, hnf, Nat.not_le.mpr c_6]; omega) | (simp only [s_arv, s_arc]; (repeat' split) <;> first | rfl | omega | (simp_all; done) | (simp_all; omega))), (by simp [s_arc, c_1, hc_k_d, c_2, hc_k_x, c_3, hc_k_y, c_4, hc_k_g, c_5, c_6, hnf])⟩, by rw [ht]; exact hP, va_K.moved hW.alike hK, hD⟩, hS.F ht⟩) hS.2.2 dX1_arrive_140
      have hnf : (n = 10) = True := eq_true (by omega)
      exact x_thr hx hb hfl hown xf_ISE hk_69 hi_69 hg_69 xb_ISE (by decide +kernel) hE (is := 71) (text := "the box is full") (by decide +kernel) (hl.1.trans hml.symm) dX1_arrive_79 dX1_arrive_82 dX1_arrive_83 dX1_arrive_85 dX1_arrive_88 hno (Nat.le_of_ble_eq_true rfl) (Nat.le_of_ble_eq_true rfl) (Nat.le_of_ble_eq_true rfl) (Nat.le_of_ble_eq_true rfl) hlocks (by simp [s_arv, s_arc, c_1, hc_k_d, c_2, hc_k_x, c_3, hc_k_y, c_4, hc_k_g, c_5, c_6, hnf]) (Nat.le_of_ble_eq_true rfl) (Nat.le_of_ble_eq_true rfl)
    exact x_thr hx hb hfl hown xf_IAE hk_56 hi_56 hg_56 xb_IAE (by decide +kernel) hE (is := 67) (text := "a mail has this date") (by decide +kernel) (hl.1.trans hml.symm) dX1_arrive_60 dX1_arrive_63 dX1_arrive_64 dX1_arrive_66 dX1_arrive_69 hno (Nat.le_of_ble_eq_true rfl) (Nat.le_of_ble_eq_true rfl) (Nat.le_of_ble_eq_true rfl) (Nat.le_of_ble_eq_true rfl) hlocks (by simp [s_arv, s_arc, c_1, hc_k_d, c_2, hc_k_x, c_3, hc_k_y, c_4, hc_k_g, c_5]) (Nat.le_of_ble_eq_true rfl) (Nat.le_of_ble_eq_true rfl)
  exact x_thr hx hb hfl hown xf_IAE hk_56 hi_56 hg_56 xb_IAE (by decide +kernel) hE (is := 58) (text := "a number is out of range") (by decide +kernel) (hl.1.trans hml.symm) dX1_arrive_41 dX1_arrive_44 dX1_arrive_45 dX1_arrive_47 dX1_arrive_50 hno (Nat.le_of_ble_eq_true rfl) (Nat.le_of_ble_eq_true rfl) (Nat.le_of_ble_eq_true rfl) (Nat.le_of_ble_eq_true rfl) hlocks (by simp [s_arv, s_arc, c_1, hc_k_d, c_2, hc_k_x, c_3, hc_k_y, c_4]) (Nat.le_of_ble_eq_true rfl) (Nat.le_of_ble_eq_true rfl)
theorem hdX1_arrive : yX1_arrive.cls = RX1 ∧ yX1_arrive.cls ≠ "java/lang/invoke/MethodHandle" ∧ yX1_arrive.cls ≠ "java/lang/invoke/VarHandle" ∧ (parseMethodDescriptor yX1_arrive.desc).map (fun d => d.parameters.length) = some 4 := by decide +kernel
set_option maxHeartbeats 4000000 in
set_option maxRecDepth 100000 in
theorem kX1_addLine (l : Launch) (hfl : l.stackTraces = false) (D : va_G) (cI cZ cA : ClassId) (ax : Nat → Nat) (n : Nat) (B : Nat → Nat → Nat) (Q : Nat → Option Nat) (cn : Nat → Bool) (rt : Nat → Nat) (wd : Nat → Option Nat) (qf : Nat → Option Nat) (T : Nat → Nat → Nat) (sz : Nat) (u : Int32) (k : Int32) (w : Int32) (hB : Bok n B) (hQ : QA n B Q) (h_T : TB T) : vx_Met l yX1_addLine wsX1_addLine ({ frames := 7, cells := 2, slots := 12, locals := 116 }) (PcXM D [(cI, .int), (cZ, .boolean), (cA, .array .int)] (wX cI cZ cA ax n B Q cn rt wd qf T) sz [.ref (ax 0), .int (u), .int (k), .int (w)]) (va_Qi (fun (r : Int32) (u9 : (Nat → Option Nat) × (Nat → Option Nat) × (Nat → Option Nat) × (Nat → Nat → Nat)) => r = (nI (s_adv n B u k w)) ∧ s_adc n B u k w = 0 ∧ Bok n (s_adB n B u k w) ∧ QA n (s_adB n B u k w) u9.1 ∧ TB u9.2.2.2) (fun (u9 : (Nat → Option Nat) × (Nat → Option Nat) × (Nat → Option Nat) × (Nat → Nat → Nat)) t => AtW D [(cI, .int), (cZ, .boolean), (cA, .array .int)] (va_A (wX cI cZ cA ax n B Q cn rt wd qf T) sz) (wX cI cZ cA ax n (s_adB n B u k w) u9.1 cn rt u9.2.1 u9.2.2.1 u9.2.2.2) t) (va_A (wX cI cZ cA ax n B Q cn rt wd qf T) sz)) (XCf (fun E => (E = "java/lang/IndexOutOfBoundsException" ∧ s_adc n B u k w = 1) ∨ (E = "java/lang/IllegalArgumentException" ∧ s_adc n B u k w = 2) ∨ (E = "java/lang/IllegalStateException" ∧ s_adc n B u k w = 3))) 2 12 (va_A (wX cI cZ cA ax n B Q cn rt wd qf T) sz) := by
  refine vx_ofW (cc := cX1_addLine) (maxL := 5) (ret := (some .int)) (by decide) rfl ?_
  intro p e s m args below meth c s₁ BL hml hno hv
  obtain ⟨rfl, hsz, hP, hK, hD0, hE⟩ := hv
  have hx := BL.exec
  have hb := BL.bytes
  have hr := BL.returns
  have hts := atoms_spec (ws := wsX1_addLine) BL.pre
  have hown : s.vm.findClass RX1 = some m.cls := findClass_of_methodNamed BL.named
  have hlocks := BL.notSynchronized
  have hin : ∀ w ∈ wsX10, w ∈ wsX1_addLine := by decide +kernel
  have hf_26 := hts (.fieldLink RX1 26 "TalkRebuilder" "lineCounts" "[I") (by decide +kernel)
  have hf_29 := hts (.fieldLink RX1 29 "TalkRebuilder" "marksAt" "[I") (by decide +kernel)
  have hf_32 := hts (.fieldLink RX1 32 "TalkRebuilder" "wordsAt" "[I") (by decide +kernel)
  have hk_56 := hts (.classLink RX1 56 "java/lang/IllegalArgumentException") (by decide +kernel)
  have hi_56 := hts (.initialized "java/lang/IllegalArgumentException") (by decide +kernel)
  have hg_56 : ∀ w ∈ (vx_atS RX1 60 "java/lang/IllegalArgumentException" xN).filter goodWord, w.before _ s = true := fun w h => hts w (List.mem_cons_of_mem _ (List.mem_append_left _ (List.mem_append_left _ (List.mem_append_left _ (List.mem_append_right _ h)))))
  have hk_69 := hts (.classLink RX1 69 "java/lang/IllegalStateException") (by decide +kernel)
  have hi_69 := hts (.initialized "java/lang/IllegalStateException") (by decide +kernel)
  have hg_69 : ∀ w ∈ (vx_atS RX1 73 "java/lang/IllegalStateException" xN).filter goodWord, w.before _ s = true := fun w h => hts w (List.mem_cons_of_mem _ (List.mem_append_left _ (List.mem_append_right _ h)))
  have hl := lv_entry ([.ref (ax 0), .int (u), .int (k), .int (w)]) (n := 5) (Nat.le_of_ble_eq_true rfl)
  rw [lg_entry_eq]
  generalize (lg_sl ([.ref (ax 0), .int (u), .int (k), .int (w)]) ++ List.replicate (5 - (lg_sl ([.ref (ax 0), .int (u), .int (k), .int (w)])).length) Slot.unset).toArray = ls at hl ⊢
  have hl : lv_has ls 5 [(0, .ref (ax 0)), (1, .int (u)), (2, .int (k)), (3, .int (w))] := hl
  subst hsz
  have hD := hD0.self (sz := s.heap.size)
  generalize hAe : va_A (wX cI cZ cA ax n B Q cn rt wd qf T) s.heap.size = A at hD ⊢
  have hA : ∀ q : Nat, s.heap.size ≤ q → A q := fun q h => by rw [← hAe]; exact Or.inr h
  have hS : va_S A s.heap s.heap [] := va_S.rf
  have hP : va_P D vwCl (wX cI cZ cA ax n B Q cn rt wd qf T) s.heap := hP
  have hD : va_D A (wX cI cZ cA ax n B Q cn rt wd qf T) := hD
  have hn10 := hB.1
  refine lv_aload_n hx hb dX1_addLine_0 rfl (lv_at hl 0 rfl) ?_
  refine lv_iload_n hx hb dX1_addLine_1 rfl (lv_at hl 1 rfl) ?_
  refine xr_Vv (As := [.int (u)]) ⟨hx, hb, hml, hown, hts⟩ (kX1_requireMail l hfl D cI cZ cA ax n B Q cn rt wd qf T (u) hB) (cwV 1 hts gX1_addLine_X1_requireMail rfl rfl rfl hdX1_requireMail ⟨Nat.le_of_ble_eq_true rfl, Nat.le_of_ble_eq_true rfl⟩) hK hP hE (ci := 3) rfl (q0 := 0) rfl rfl rfl hl.1 rfl (Nat.le_of_ble_eq_true rfl) dX1_addLine_2 ⟨Nat.le_of_ble_eq_true rfl, Nat.le_of_ble_eq_true rfl⟩ hno hlocks (fun E h => Or.inl ⟨h.1, by simp [s_adc, h.2]⟩) (Nat.le_of_ble_eq_true rfl) (Nat.le_of_ble_eq_true rfl) (fun h_1 => ?_)
  have hm_u := h_1
  obtain ⟨k_u, hk_u, rfl⟩ := s_ism_t hB.1 h_1
  have h8_u := hB.2.2.1 k_u
  have hc_k_u : (nI k_u).toNatClampNeg = k_u := nI_clamp (by omega)
  refine lv_iload_n hx hb dX1_addLine_5 rfl (lv_at hl 2 rfl) ?_
  refine lv_iconst (v := (nI (0))) hx hb dX1_addLine_6 (by decide +kernel) ?_
  refine lv_iconst (v := (nI (3))) hx hb dX1_addLine_7 (by decide +kernel) ?_
  refine ro_S (As := [.int (k), .int (nI (0)), .int (nI (3))]) (v := (bI (s_in k (nI (0)) (nI (3))))) ⟨hx, hb, hml, hown, hts⟩ (kX1_isWithin l (k) (nI (0)) (nI (3)) ) (va_cwS 3 hts gX1_addLine_X1_isWithin rfl rfl rfl hsX1_isWithin ⟨Nat.le_of_ble_eq_true rfl, Nat.le_of_ble_eq_true rfl⟩) rfl hl.1 rfl (Nat.le_of_ble_eq_true rfl) dX1_addLine_8 ⟨Nat.le_of_ble_eq_true rfl, Nat.le_of_ble_eq_true rfl⟩ ?_
  refine y_eq (tgt := 24) hx hb dX1_addLine_11 (by decide) (fun c_2 => ?_) (fun c_2 => ?_)
  · exact x_thr hx hb hfl hown xf_IAE hk_56 hi_56 hg_56 xb_IAE (by decide +kernel) hE (is := 58) (text := "a number is out of range") (by decide +kernel) (hl.1.trans hml.symm) dX1_addLine_24 dX1_addLine_27 dX1_addLine_28 dX1_addLine_30 dX1_addLine_33 hno (Nat.le_of_ble_eq_true rfl) (Nat.le_of_ble_eq_true rfl) (Nat.le_of_ble_eq_true rfl) (Nat.le_of_ble_eq_true rfl) hlocks (by simp [s_adv, s_adc, h_1, hm_u, hc_k_u, c_2]) (Nat.le_of_ble_eq_true rfl) (Nat.le_of_ble_eq_true rfl)
  obtain ⟨k_k, hk_ka, hk_kb, rfl⟩ := s_in_n (by decide) c_2
  have hc_k_k : (nI k_k).toNatClampNeg = k_k := nI_clamp (by omega)
  refine lv_iload_n hx hb dX1_addLine_14 rfl (lv_at hl 3 rfl) ?_
  refine lv_iconst (v := (nI (1))) hx hb dX1_addLine_15 (by decide +kernel) ?_
  refine lv_bipush (v := (nI (99))) hx hb dX1_addLine_16 (by decide +kernel) ?_
  refine ro_S (As := [.int (w), .int (nI (1)), .int (nI (99))]) (v := (bI (s_in w (nI (1)) (nI (99))))) ⟨hx, hb, hml, hown, hts⟩ (kX1_isWithin l (w) (nI (1)) (nI (99)) ) (va_cwS 3 hts gX1_addLine_X1_isWithin rfl rfl rfl hsX1_isWithin ⟨Nat.le_of_ble_eq_true rfl, Nat.le_of_ble_eq_true rfl⟩) rfl hl.1 rfl (Nat.le_of_ble_eq_true rfl) dX1_addLine_18 ⟨Nat.le_of_ble_eq_true rfl, Nat.le_of_ble_eq_true rfl⟩ ?_
  refine y_ne (tgt := 34) hx hb dX1_addLine_21 (by decide) (fun c_3 => ?_) (fun c_3 => ?_)
  · obtain ⟨k_w, hk_wa, hk_wb, rfl⟩ := s_in_n (by decide) c_3
    have hc_k_w : (nI k_w).toNatClampNeg = k_w := nI_clamp (by omega)
    refine lv_aload_n hx hb dX1_addLine_34 rfl (lv_at hl 0 rfl) ?_
    refine va_get (D := D) (ci := 3) (v := .ref (ax 5)) (C := RX1) (T := TX1) (N := 12) hx hb hts hin hown hK hP 0 rfl rfl 5 (by decide) hf_26 (fun _ h9 => h9) rfl dX1_addLine_35 ?_
    refine lv_iload_n hx hb dX1_addLine_38 rfl (lv_at hl 1 rfl) ?_
    refine n_iald hx hb hK hP 5 0 rfl rfl (i := k_u) (by omega) (by decide) dX1_addLine_39 ?_
    have hq_4 := hB.2.2.1 k_u
    refine lv_bipush (v := (nI (8))) hx hb dX1_addLine_40 (by decide +kernel) ?_
    refine n_lt (tgt := 55) hx hb (by omega) (by omega) dX1_addLine_42 (by decide) (fun c_5 => ?_) (fun c_5 => ?_)
    · have hnf : ¬ B 4 k_u = 8 := by omega
      refine lv_iload_n hx hb dX1_addLine_55 rfl (lv_at hl 1 rfl) ?_
      refine lv_aload_n hx hb dX1_addLine_56 rfl (lv_at hl 0 rfl) ?_
      refine va_get (D := D) (ci := 3) (v := .ref (ax 5)) (C := RX1) (T := TX1) (N := 12) hx hb hts hin hown hK hP 0 rfl rfl 5 (by decide) hf_26 (fun _ h9 => h9) rfl dX1_addLine_57 ?_
      refine lv_iload_n hx hb dX1_addLine_60 rfl (lv_at hl 1 rfl) ?_
      refine n_iald hx hb hK hP 5 0 rfl rfl (i := k_u) (by omega) (by decide) dX1_addLine_61 ?_
      have hq_6 := hB.2.2.1 k_u
      refine ro_S (As := [.int (nI (k_u)), .int (nI (B 4 k_u))]) (v := (nI (8 * k_u + (B 4 k_u)))) ⟨hx, hb, hml, hown, hts⟩ (kX1_placeOf l k_u (B 4 k_u) (by omega) (by omega)) (va_cwS 2 hts gX1_addLine_X1_placeOf rfl rfl rfl hsX1_placeOf ⟨Nat.le_of_ble_eq_true rfl, Nat.le_of_ble_eq_true rfl⟩) rfl hl.1 rfl (Nat.le_of_ble_eq_true rfl) dX1_addLine_62 ⟨Nat.le_of_ble_eq_true rfl, Nat.le_of_ble_eq_true rfl⟩ ?_
      refine lv_istore (lv' := [(4, .int (nI (8 * k_u + (B 4 k_u)))), (0, .ref (ax 0)), (1, .int (nI (k_u))), (2, .int (nI (k_k))), (3, .int (nI (k_w)))]) hx hb dX1_addLine_65 hl (by decide) rfl (fun ls hl => ?_)
      refine lv_aload_n hx hb dX1_addLine_67 rfl (lv_at hl 1 rfl) ?_
      refine va_get (D := D) (ci := 3) (v := .ref (ax 6)) (C := RX1) (T := TX1) (N := 12) hx hb hts hin hown hK hP 0 rfl rfl 6 (by decide) hf_29 (fun _ h9 => h9) rfl dX1_addLine_68 ?_
      refine lv_iload hx hb dX1_addLine_71 (lv_at hl 0 rfl) ?_
      refine lv_iload_n hx hb dX1_addLine_73 rfl (lv_at hl 3 rfl) ?_
      refine r_iast hx hb hK hP hD hS 6 0 rfl rfl (i := 8 * k_u + (B 4 k_u)) (by omega) (by decide) dX1_addLine_74 (ws' := (wX cI cZ cA ax n (b_up B 5 (8 * k_u + (B 4 k_u)) k_k) Q cn rt wd qf T)) (nI_upd _ _ _) rfl (fun H locs hP hD hS => ?_)
      refine lv_aload_n hx hb dX1_addLine_75 rfl (lv_at hl 1 rfl) ?_
      refine va_get (D := D) (ci := 3) (v := .ref (ax 7)) (C := RX1) (T := TX1) (N := 12) hx hb hts hin hown hK hP 0 rfl rfl 7 (by decide) hf_32 (fun _ h9 => h9) rfl dX1_addLine_76 ?_
      refine lv_iload hx hb dX1_addLine_79 (lv_at hl 0 rfl) ?_
      refine lv_iload_n hx hb dX1_addLine_81 rfl (lv_at hl 4 rfl) ?_
      refine r_iast hx hb hK hP hD hS 7 0 rfl rfl (i := 8 * k_u + (B 4 k_u)) (by omega) (by decide) dX1_addLine_82 (ws' := (wX cI cZ cA ax n (b_up (b_up B 5 (8 * k_u + (B 4 k_u)) k_k) 6 (8 * k_u + (B 4 k_u)) k_w) Q cn rt wd qf T)) (nI_upd _ _ _) rfl (fun H locs hP hD hS => ?_)
      refine lv_aload_n hx hb dX1_addLine_83 rfl (lv_at hl 1 rfl) ?_
      refine va_get (D := D) (ci := 3) (v := .ref (ax 5)) (C := RX1) (T := TX1) (N := 12) hx hb hts hin hown hK hP 0 rfl rfl 5 (by decide) hf_26 (fun _ h9 => h9) rfl dX1_addLine_84 ?_
      refine lv_iload_n hx hb dX1_addLine_87 rfl (lv_at hl 2 rfl) ?_
      refine lv_dup2_11 hx hb dX1_addLine_88 rfl rfl ?_
      refine n_iald hx hb hK hP 5 0 rfl rfl (i := k_u) (by omega) (by decide) dX1_addLine_89 ?_
      have hq_7 := hB.2.2.1 k_u
      refine n_top (y := (nI (B 4 k_u))) (rfl) ?_
      refine lv_iconst (v := (nI (1))) hx hb dX1_addLine_90 (by decide +kernel) ?_
      refine lv_iadd hx hb dX1_addLine_91 ?_
      refine n_top (y := (nI (B 4 k_u + 1))) (nI_add _ _) ?_
      refine r_iast hx hb hK hP hD hS 5 0 rfl rfl (i := k_u) (by omega) (by decide) dX1_addLine_92 (ws' := (wX cI cZ cA ax n (b_up (b_up (b_up B 5 (8 * k_u + (B 4 k_u)) k_k) 6 (8 * k_u + (B 4 k_u)) k_w) 4 k_u (B 4 k_u + 1)) Q cn rt wd qf T)) (nI_upd _ _ _) rfl (fun H locs hP hD hS => ?_)
      have hac : s_adc n B (nI k_u) (nI k_k) (nI k_w) = 0 := by simp [s_adc, h_1, hm_u, hc_k_u, c_2, hc_k_k, c_3, hc_k_w, c_5, hnf]
      have hok := ad_Bok (n := n) (u := k_u) (a := k_k) (w := k_w) hB hk_u (by omega) (by omega) (by omega)
      have hQ2 := BLk_Q hk_u hB hok (ad_Bk (by omega)) hQ
      have heB : (b_up (b_up (b_up B 5 (8 * k_u + (B 4 k_u)) k_k) 6 (8 * k_u + (B 4 k_u)) k_w) 4 k_u (B 4 k_u + 1)) = s_adB n B (nI k_u) (nI k_k) (nI k_w) := by unfold s_adB; rw [if_pos hac, hc_k_u, hc_k_k, hc_k_w]
      have hbv : s_adB n B (nI k_u) (nI k_k) (nI k_w) 4 k_u = B 4 k_u + 1 := by rw [← heB]; simp [b_up, va_up]
      rw [heB] at hok hQ2
      have ew_8 : (b_up (b_up (b_up B 5 (8 * k_u + (B 4 k_u)) k_k) 6 (8 * k_u + (B 4 k_u)) k_w) 4 k_u (B 4 k_u + 1)) = (s_adB n B (nI k_u) (nI k_k) (nI k_w)) := by exact heB
      have hP : va_P D vwCl (wX cI cZ cA ax n (s_adB n B (nI k_u) (nI k_k) (nI k_w)) Q cn rt wd qf T) H := by rw [← ew_8]; exact hP
      have hD : va_D A (wX cI cZ cA ax n (s_adB n B (nI k_u) (nI k_k) (nI k_w)) Q cn rt wd qf T) := by rw [← ew_8]; exact hD
      refine lv_aload_n hx hb dX1_addLine_93 rfl (lv_at hl 1 rfl) ?_
      refine lv_iload_n hx hb dX1_addLine_94 rfl (lv_at hl 2 rfl) ?_
      refine mo2_Vv (wr := []) (As := [.int (nI (k_u))]) ⟨hx, hb, hml, hown, hts⟩ (kX1_realignAround l D cI cZ cA ax n (s_adB n B (nI k_u) (nI k_k) (nI k_w)) Q cn rt wd qf T H.size k_u hok (by omega) hQ2 h_T) (cwV 1 hts gX1_addLine_X1_realignAround rfl rfl rfl hdX1_realignAround ⟨Nat.le_of_ble_eq_true rfl, Nat.le_of_ble_eq_true rfl⟩) (preMN (wr := []) hE.2.2.2.2 hK hP hD (ci := 3) rfl (q0 := 0) rfl rfl) hP hD hS hA rfl hl.1 rfl (Nat.le_of_ble_eq_true rfl) dX1_addLine_95 ⟨Nat.le_of_ble_eq_true rfl, Nat.le_of_ble_eq_true rfl⟩ (fun u_9 H locs hw_9 hP hD hS => ?_)
      obtain ⟨Q_9, wd_9, qf_9, T_9⟩ := u_9
      have hP : va_P D vwCl (wX cI cZ cA ax n (s_adB n B (nI k_u) (nI k_k) (nI k_w)) Q_9 cn rt wd_9 qf_9 T_9) H := hP
      have hD : va_D A (wX cI cZ cA ax n (s_adB n B (nI k_u) (nI k_k) (nI k_w)) Q_9 cn rt wd_9 qf_9 T_9) := hD
      obtain ⟨hQn, hTn⟩ := hw_9
      refine lv_aload_n hx hb dX1_addLine_98 rfl (lv_at hl 1 rfl) ?_
      refine va_get (D := D) (ci := 3) (v := .ref (ax 5)) (C := RX1) (T := TX1) (N := 12) hx hb hts hin hown hK hP 0 rfl rfl 5 (by decide) hf_26 (fun _ h9 => h9) rfl dX1_addLine_99 ?_
      refine lv_iload_n hx hb dX1_addLine_102 rfl (lv_at hl 2 rfl) ?_
      refine n_iald hx hb hK hP 5 0 rfl rfl (i := k_u) (by omega) (by decide) dX1_addLine_103 ?_
      have hq_10 := hB.2.2.1 k_u
      refine n_top (y := (nI (B 4 k_u + 1))) (by rw [hbv]) ?_
      refine vx_ret ?_
      refine W.widen (k := 2) (n := 12) (Nat.le_of_ble_eq_true rfl) (Nat.le_of_ble_eq_true rfl) ?_
      exact W.iret (v := (nI (B 4 k_u + 1))) hx hb hr (fun t ht hW => ⟨⟨_, (Q_9, wd_9, qf_9, T_9), rfl, ⟨(by first | rfl | (simp [oI_s, bI_t, bI_f, s_adv, s_adc, h_1, hm_u, hc_k_u, c_2, hc_k_k, c_3, hc_k_w, c_5, hnf, hac, Nat.not_le.mpr c_5]; done) | (simp [oI_s, bI_t, bI_f, s_adv, s_adc, h_1, hm_u, hc_k_u, c_2, hc_k_k, c_3, hc_k_w, c_5, hnf, hac, Nat.not_le.mpr c_5]; omega) | (simp only [s_adv, s_adc]; (repeat' split) <;> first | rfl | omega | (simp_all; done) | (simp_all; omega))), (⟨hac, hok, hQn, hTn⟩)⟩, by rw [ht]; exact hP, va_K.moved hW.alike hK, hD⟩, hS.F ht⟩) hS.2.2 dX1_addLine_104
    have hnf : B 4 k_u = 8 := by omega
    exact x_thr hx hb hfl hown xf_ISE hk_69 hi_69 hg_69 xb_ISE (by decide +kernel) hE (is := 78) (text := "the mail is full") (by decide +kernel) (hl.1.trans hml.symm) dX1_addLine_45 dX1_addLine_48 dX1_addLine_49 dX1_addLine_51 dX1_addLine_54 hno (Nat.le_of_ble_eq_true rfl) (Nat.le_of_ble_eq_true rfl) (Nat.le_of_ble_eq_true rfl) (Nat.le_of_ble_eq_true rfl) hlocks (by simp [s_adv, s_adc, h_1, hm_u, hc_k_u, c_2, hc_k_k, c_3, hc_k_w, c_5, hnf]) (Nat.le_of_ble_eq_true rfl) (Nat.le_of_ble_eq_true rfl)
  exact x_thr hx hb hfl hown xf_IAE hk_56 hi_56 hg_56 xb_IAE (by decide +kernel) hE (is := 58) (text := "a number is out of range") (by decide +kernel) (hl.1.trans hml.symm) dX1_addLine_24 dX1_addLine_27 dX1_addLine_28 dX1_addLine_30 dX1_addLine_33 hno (Nat.le_of_ble_eq_true rfl) (Nat.le_of_ble_eq_true rfl) (Nat.le_of_ble_eq_true rfl) (Nat.le_of_ble_eq_true rfl) hlocks (by simp [s_adv, s_adc, h_1, hm_u, hc_k_u, c_2, hc_k_k, c_3]) (Nat.le_of_ble_eq_true rfl) (Nat.le_of_ble_eq_true rfl)
theorem hdX1_addLine : yX1_addLine.cls = RX1 ∧ yX1_addLine.cls ≠ "java/lang/invoke/MethodHandle" ∧ yX1_addLine.cls ≠ "java/lang/invoke/VarHandle" ∧ (parseMethodDescriptor yX1_addLine.desc).map (fun d => d.parameters.length) = some 3 := by decide +kernel
set_option maxHeartbeats 4000000 in
set_option maxRecDepth 100000 in
theorem kX1_removeLine (l : Launch) (hfl : l.stackTraces = false) (D : va_G) (cI cZ cA : ClassId) (ax : Nat → Nat) (n : Nat) (B : Nat → Nat → Nat) (Q : Nat → Option Nat) (cn : Nat → Bool) (rt : Nat → Nat) (wd : Nat → Option Nat) (qf : Nat → Option Nat) (T : Nat → Nat → Nat) (sz : Nat) (u : Int32) (hB : Bok n B) (hQ : QA n B Q) (h_T : TB T) : vx_Met l yX1_removeLine wsX1_removeLine ({ frames := 7, cells := 2, slots := 12, locals := 116 }) (PcXM D [(cI, .int), (cZ, .boolean), (cA, .array .int)] (wX cI cZ cA ax n B Q cn rt wd qf T) sz [.ref (ax 0), .int (u)]) (va_Qi (fun (r : Int32) (u9 : (Nat → Option Nat) × (Nat → Option Nat) × (Nat → Option Nat) × (Nat → Nat → Nat)) => r = (nI (s_rmv n B u)) ∧ s_rmc n B u = 0 ∧ Bok n (s_rmB n B u) ∧ QA n (s_rmB n B u) u9.1 ∧ TB u9.2.2.2) (fun (u9 : (Nat → Option Nat) × (Nat → Option Nat) × (Nat → Option Nat) × (Nat → Nat → Nat)) t => AtW D [(cI, .int), (cZ, .boolean), (cA, .array .int)] (va_A (wX cI cZ cA ax n B Q cn rt wd qf T) sz) (wX cI cZ cA ax n (s_rmB n B u) u9.1 cn rt u9.2.1 u9.2.2.1 u9.2.2.2) t) (va_A (wX cI cZ cA ax n B Q cn rt wd qf T) sz)) (XCf (fun E => (E = "java/lang/IndexOutOfBoundsException" ∧ s_rmc n B u = 1) ∨ (E = "java/lang/IllegalStateException" ∧ s_rmc n B u = 2))) 2 12 (va_A (wX cI cZ cA ax n B Q cn rt wd qf T) sz) := by
  refine vx_ofW (cc := cX1_removeLine) (maxL := 2) (ret := (some .int)) (by decide) rfl ?_
  intro p e s m args below meth c s₁ BL hml hno hv
  obtain ⟨rfl, hsz, hP, hK, hD0, hE⟩ := hv
  have hx := BL.exec
  have hb := BL.bytes
  have hr := BL.returns
  have hts := atoms_spec (ws := wsX1_removeLine) BL.pre
  have hown : s.vm.findClass RX1 = some m.cls := findClass_of_methodNamed BL.named
  have hlocks := BL.notSynchronized
  have hin : ∀ w ∈ wsX10, w ∈ wsX1_removeLine := by decide +kernel
  have hf_26 := hts (.fieldLink RX1 26 "TalkRebuilder" "lineCounts" "[I") (by decide +kernel)
  have hk_69 := hts (.classLink RX1 69 "java/lang/IllegalStateException") (by decide +kernel)
  have hi_69 := hts (.initialized "java/lang/IllegalStateException") (by decide +kernel)
  have hg_69 : ∀ w ∈ (vx_atS RX1 73 "java/lang/IllegalStateException" xN).filter goodWord, w.before _ s = true := fun w h => hts w (List.mem_cons_of_mem _ (List.mem_append_left _ (List.mem_append_right _ h)))
  have hl := lv_entry ([.ref (ax 0), .int (u)]) (n := 2) (Nat.le_of_ble_eq_true rfl)
  rw [lg_entry_eq]
  generalize (lg_sl ([.ref (ax 0), .int (u)]) ++ List.replicate (2 - (lg_sl ([.ref (ax 0), .int (u)])).length) Slot.unset).toArray = ls at hl ⊢
  have hl : lv_has ls 2 [(0, .ref (ax 0)), (1, .int (u))] := hl
  subst hsz
  have hD := hD0.self (sz := s.heap.size)
  generalize hAe : va_A (wX cI cZ cA ax n B Q cn rt wd qf T) s.heap.size = A at hD ⊢
  have hA : ∀ q : Nat, s.heap.size ≤ q → A q := fun q h => by rw [← hAe]; exact Or.inr h
  have hS : va_S A s.heap s.heap [] := va_S.rf
  have hP : va_P D vwCl (wX cI cZ cA ax n B Q cn rt wd qf T) s.heap := hP
  have hD : va_D A (wX cI cZ cA ax n B Q cn rt wd qf T) := hD
  have hn10 := hB.1
  refine lv_aload_n hx hb dX1_removeLine_0 rfl (lv_at hl 0 rfl) ?_
  refine lv_iload_n hx hb dX1_removeLine_1 rfl (lv_at hl 1 rfl) ?_
  refine xr_Vv (As := [.int (u)]) ⟨hx, hb, hml, hown, hts⟩ (kX1_requireMail l hfl D cI cZ cA ax n B Q cn rt wd qf T (u) hB) (cwV 1 hts gX1_removeLine_X1_requireMail rfl rfl rfl hdX1_requireMail ⟨Nat.le_of_ble_eq_true rfl, Nat.le_of_ble_eq_true rfl⟩) hK hP hE (ci := 3) rfl (q0 := 0) rfl rfl rfl hl.1 rfl (Nat.le_of_ble_eq_true rfl) dX1_removeLine_2 ⟨Nat.le_of_ble_eq_true rfl, Nat.le_of_ble_eq_true rfl⟩ hno hlocks (fun E h => Or.inl ⟨h.1, by simp [s_rmc, h.2]⟩) (Nat.le_of_ble_eq_true rfl) (Nat.le_of_ble_eq_true rfl) (fun h_1 => ?_)
  have hm_u := h_1
  obtain ⟨k_u, hk_u, rfl⟩ := s_ism_t hB.1 h_1
  have h8_u := hB.2.2.1 k_u
  have hc_k_u : (nI k_u).toNatClampNeg = k_u := nI_clamp (by omega)
  refine lv_aload_n hx hb dX1_removeLine_5 rfl (lv_at hl 0 rfl) ?_
  refine va_get (D := D) (ci := 3) (v := .ref (ax 5)) (C := RX1) (T := TX1) (N := 12) hx hb hts hin hown hK hP 0 rfl rfl 5 (by decide) hf_26 (fun _ h9 => h9) rfl dX1_removeLine_6 ?_
  refine lv_iload_n hx hb dX1_removeLine_9 rfl (lv_at hl 1 rfl) ?_
  refine n_iald hx hb hK hP 5 0 rfl rfl (i := k_u) (by omega) (by decide) dX1_removeLine_10 ?_
  have hq_2 := hB.2.2.1 k_u
  refine z_gt (tgt := 24) hx hb (by omega) dX1_removeLine_11 (by decide) (fun c_3 => ?_) (fun c_3 => ?_)
  · have hnf : ¬ B 4 k_u = 0 := by omega
    refine lv_aload_n hx hb dX1_removeLine_24 rfl (lv_at hl 0 rfl) ?_
    refine va_get (D := D) (ci := 3) (v := .ref (ax 5)) (C := RX1) (T := TX1) (N := 12) hx hb hts hin hown hK hP 0 rfl rfl 5 (by decide) hf_26 (fun _ h9 => h9) rfl dX1_removeLine_25 ?_
    refine lv_iload_n hx hb dX1_removeLine_28 rfl (lv_at hl 1 rfl) ?_
    refine lv_dup2_11 hx hb dX1_removeLine_29 rfl rfl ?_
    refine n_iald hx hb hK hP 5 0 rfl rfl (i := k_u) (by omega) (by decide) dX1_removeLine_30 ?_
    have hq_4 := hB.2.2.1 k_u
    refine lv_iconst (v := (nI (1))) hx hb dX1_removeLine_31 (by decide +kernel) ?_
    refine lv_isub hx hb dX1_removeLine_32 ?_
    refine n_top (y := (nI (B 4 k_u - 1))) (pk_sub (by omega)) ?_
    refine r_iast hx hb hK hP hD hS 5 0 rfl rfl (i := k_u) (by omega) (by decide) dX1_removeLine_33 (ws' := (wX cI cZ cA ax n (b_up B 4 k_u (B 4 k_u - 1)) Q cn rt wd qf T)) (nI_upd _ _ _) rfl (fun H locs hP hD hS => ?_)
    have hac : s_rmc n B (nI k_u) = 0 := by simp [s_rmc, h_1, hm_u, hc_k_u, c_3, hnf]
    have hok := rm_Bok (n := n) (u := k_u) hB hk_u
    have hQ2 := BLk_Q hk_u hB hok rm_Bk hQ
    have heB : (b_up B 4 k_u (B 4 k_u - 1)) = s_rmB n B (nI k_u) := by unfold s_rmB; rw [if_pos hac, hc_k_u]
    have hbv : s_rmB n B (nI k_u) 4 k_u = B 4 k_u - 1 := by rw [← heB]; simp [b_up, va_up]
    rw [heB] at hok hQ2
    have ew_5 : (b_up B 4 k_u (B 4 k_u - 1)) = (s_rmB n B (nI k_u)) := by exact heB
    have hP : va_P D vwCl (wX cI cZ cA ax n (s_rmB n B (nI k_u)) Q cn rt wd qf T) H := by rw [← ew_5]; exact hP
    have hD : va_D A (wX cI cZ cA ax n (s_rmB n B (nI k_u)) Q cn rt wd qf T) := by rw [← ew_5]; exact hD
    refine lv_aload_n hx hb dX1_removeLine_34 rfl (lv_at hl 0 rfl) ?_
    refine lv_iload_n hx hb dX1_removeLine_35 rfl (lv_at hl 1 rfl) ?_
    refine mo2_Vv (wr := []) (As := [.int (nI (k_u))]) ⟨hx, hb, hml, hown, hts⟩ (kX1_realignAround l D cI cZ cA ax n (s_rmB n B (nI k_u)) Q cn rt wd qf T H.size k_u hok (by omega) hQ2 h_T) (cwV 1 hts gX1_removeLine_X1_realignAround rfl rfl rfl hdX1_realignAround ⟨Nat.le_of_ble_eq_true rfl, Nat.le_of_ble_eq_true rfl⟩) (preMN (wr := []) hE.2.2.2.2 hK hP hD (ci := 3) rfl (q0 := 0) rfl rfl) hP hD hS hA rfl hl.1 rfl (Nat.le_of_ble_eq_true rfl) dX1_removeLine_36 ⟨Nat.le_of_ble_eq_true rfl, Nat.le_of_ble_eq_true rfl⟩ (fun u_6 H locs hw_6 hP hD hS => ?_)
    obtain ⟨Q_6, wd_6, qf_6, T_6⟩ := u_6
    have hP : va_P D vwCl (wX cI cZ cA ax n (s_rmB n B (nI k_u)) Q_6 cn rt wd_6 qf_6 T_6) H := hP
    have hD : va_D A (wX cI cZ cA ax n (s_rmB n B (nI k_u)) Q_6 cn rt wd_6 qf_6 T_6) := hD
    obtain ⟨hQn, hTn⟩ := hw_6
    refine lv_aload_n hx hb dX1_removeLine_39 rfl (lv_at hl 0 rfl) ?_
    refine va_get (D := D) (ci := 3) (v := .ref (ax 5)) (C := RX1) (T := TX1) (N := 12) hx hb hts hin hown hK hP 0 rfl rfl 5 (by decide) hf_26 (fun _ h9 => h9) rfl dX1_removeLine_40 ?_
    refine lv_iload_n hx hb dX1_removeLine_43 rfl (lv_at hl 1 rfl) ?_
    refine n_iald hx hb hK hP 5 0 rfl rfl (i := k_u) (by omega) (by decide) dX1_removeLine_44 ?_
    have hq_7 := hB.2.2.1 k_u
    refine n_top (y := (nI (B 4 k_u - 1))) (by rw [hbv]) ?_
    refine vx_ret ?_
    refine W.widen (k := 2) (n := 12) (Nat.le_of_ble_eq_true rfl) (Nat.le_of_ble_eq_true rfl) ?_
    exact W.iret (v := (nI (B 4 k_u - 1))) hx hb hr (fun t ht hW => ⟨⟨_, (Q_6, wd_6, qf_6, T_6), rfl, ⟨(by first | rfl | (simp [oI_s, bI_t, bI_f, s_rmv, s_rmc, h_1, hm_u, hc_k_u, c_3, hnf, hac]; done) | (simp [oI_s, bI_t, bI_f, s_rmv, s_rmc, h_1, hm_u, hc_k_u, c_3, hnf, hac]; omega) | (simp only [s_rmv, s_rmc]; (repeat' split) <;> first | rfl | omega | (simp_all; done) | (simp_all; omega))), (⟨hac, hok, hQn, hTn⟩)⟩, by rw [ht]; exact hP, va_K.moved hW.alike hK, hD⟩, hS.F ht⟩) hS.2.2 dX1_removeLine_45
  have hnf : B 4 k_u = 0 := by omega
  exact x_thr hx hb hfl hown xf_ISE hk_69 hi_69 hg_69 xb_ISE (by decide +kernel) hE (is := 87) (text := "the mail has no lines") (by decide +kernel) (hl.1.trans hml.symm) dX1_removeLine_14 dX1_removeLine_17 dX1_removeLine_18 dX1_removeLine_20 dX1_removeLine_23 hno (Nat.le_of_ble_eq_true rfl) (Nat.le_of_ble_eq_true rfl) (Nat.le_of_ble_eq_true rfl) (Nat.le_of_ble_eq_true rfl) hlocks (by simp [s_rmv, s_rmc, h_1, hm_u, hc_k_u, c_3, hnf]) (Nat.le_of_ble_eq_true rfl) (Nat.le_of_ble_eq_true rfl)
theorem hdX1_removeLine : yX1_removeLine.cls = RX1 ∧ yX1_removeLine.cls ≠ "java/lang/invoke/MethodHandle" ∧ yX1_removeLine.cls ≠ "java/lang/invoke/VarHandle" ∧ (parseMethodDescriptor yX1_removeLine.desc).map (fun d => d.parameters.length) = some 1 := by decide +kernel
set_option maxHeartbeats 4000000 in
set_option maxRecDepth 100000 in
theorem kX1_countOnce (l : Launch) (D : va_G) (cI cZ cA : ClassId) (ax : Nat → Nat) (n : Nat) (B : Nat → Nat → Nat) (Q : Nat → Option Nat) (cn : Nat → Bool) (rt : Nat → Nat) (wd : Nat → Option Nat) (qf : Nat → Option Nat) (T : Nat → Nat → Nat) (sz : Nat) (x : Nat) (hB : Bok n B) (hQ : QA n B Q) (h_x : x < 80) : Met l yX1_countOnce wsX1_countOnce ({ frames := 5, cells := 0, slots := 0, locals := 115 }) (PcM D [(cI, .int), (cZ, .boolean), (cA, .array .int)] (wX cI cZ cA ax n B Q cn rt wd qf T) sz [.ref (ax 0), .int (nI (x))]) (va_Qi (fun (r : Int32) (u9 : Unit) => r = (bI (s_tl8 n B x && !(cn x)))) (fun (u9 : Unit) t => AtW D [(cI, .int), (cZ, .boolean), (cA, .array .int)] (va_A (wX cI cZ cA ax n B Q cn rt wd qf T) sz) (wX cI cZ cA ax n B Q (if (s_tl8 n B x && !(cn x)) = true then va_up cn x true else cn) rt wd qf T) t) (va_A (wX cI cZ cA ax n B Q cn rt wd qf T) sz)) 0 0 (va_A (wX cI cZ cA ax n B Q cn rt wd qf T) sz) := by
  refine Met.ofW (cc := cX1_countOnce) (maxL := 2) (ret := (some .boolean)) (by decide) rfl ?_
  intro p e s m args below meth c s₁ BL hml hv
  obtain ⟨rfl, hsz, hP, hK, hD0⟩ := hv
  have hx := BL.exec
  have hb := BL.bytes
  have hr := BL.returns
  have hts := atoms_spec (ws := wsX1_countOnce) BL.pre
  have hown : s.vm.findClass RX1 = some m.cls := findClass_of_methodNamed BL.named
  have hlocks := BL.notSynchronized
  have hin : ∀ w ∈ wsX10, w ∈ wsX1_countOnce := by decide +kernel
  have hf_45 := hts (.fieldLink RX1 45 "TalkRebuilder" "counted" "[Z") (by decide +kernel)
  have hl := lv_entry ([.ref (ax 0), .int (nI (x))]) (n := 2) (Nat.le_of_ble_eq_true rfl)
  rw [lg_entry_eq]
  generalize (lg_sl ([.ref (ax 0), .int (nI (x))]) ++ List.replicate (2 - (lg_sl ([.ref (ax 0), .int (nI (x))])).length) Slot.unset).toArray = ls at hl ⊢
  have hl : lv_has ls 2 [(0, .ref (ax 0)), (1, .int (nI (x)))] := hl
  subst hsz
  have hD := hD0.self (sz := s.heap.size)
  generalize hAe : va_A (wX cI cZ cA ax n B Q cn rt wd qf T) s.heap.size = A at hD ⊢
  have hA : ∀ q : Nat, s.heap.size ≤ q → A q := fun q h => by rw [← hAe]; exact Or.inr h
  have hS : va_S A s.heap s.heap [] := va_S.rf
  have hP : va_P D vwCl (wX cI cZ cA ax n B Q cn rt wd qf T) s.heap := hP
  have hD : va_D A (wX cI cZ cA ax n B Q cn rt wd qf T) := hD
  have hn10 := hB.1
  refine lv_aload_n hx hb dX1_countOnce_0 rfl (lv_at hl 0 rfl) ?_
  refine lv_iload_n hx hb dX1_countOnce_1 rfl (lv_at hl 1 rfl) ?_
  refine ro_V (As := [.int (nI (x))]) (v := (bI (s_tl8 n B x))) ⟨hx, hb, hml, hown, hts⟩ (kX1_isInTalk l D cI cZ cA ax n B Q cn rt wd qf T x hB hQ h_x) (cwV 1 hts gX1_countOnce_X1_isInTalk rfl rfl rfl hdX1_isInTalk ⟨Nat.le_of_ble_eq_true rfl, Nat.le_of_ble_eq_true rfl⟩) hK hP (ci := 3) rfl (q0 := 0) rfl rfl rfl hl.1 rfl (Nat.le_of_ble_eq_true rfl) dX1_countOnce_2 ⟨Nat.zero_le _, Nat.zero_le _⟩ ?_
  refine y_eq (tgt := 17) hx hb dX1_countOnce_5 (by decide) (fun c_1 => ?_) (fun c_1 => ?_)
  · refine lv_iconst (v := (nI (0))) hx hb dX1_countOnce_17 (by decide +kernel) ?_
    have ew_2 : cn = (if (s_tl8 n B x && !(cn x)) = true then va_up cn x true else cn) := by simp [bI_t, bI_f, c_1]
    have hP : va_P D vwCl (wX cI cZ cA ax n B Q (if (s_tl8 n B x && !(cn x)) = true then va_up cn x true else cn) rt wd qf T) s.heap := by rw [← ew_2]; exact hP
    have hD : va_D A (wX cI cZ cA ax n B Q (if (s_tl8 n B x && !(cn x)) = true then va_up cn x true else cn) rt wd qf T) := by rw [← ew_2]; exact hD
    exact W.zret (v := (nI (0))) hx hb hr (by decide +kernel) (fun t ht hW => ⟨⟨_, (), rfl, (by simp [bI_t, bI_f, c_1]), by rw [ht]; exact hP, va_K.moved hW.alike hK, hD⟩, hS.F ht⟩) hS.2.2 dX1_countOnce_18
  refine lv_aload_n hx hb dX1_countOnce_8 rfl (lv_at hl 0 rfl) ?_
  refine va_get (D := D) (ci := 3) (v := .ref (ax 9)) (C := RX1) (T := TX1) (N := 12) hx hb hts hin hown hK hP 0 rfl rfl 10 (by decide) hf_45 (fun _ h9 => h9) rfl dX1_countOnce_9 ?_
  refine lv_iload_n hx hb dX1_countOnce_12 rfl (lv_at hl 1 rfl) ?_
  refine b_bald hx hb hK hP 9 1 rfl rfl (i := x) (by omega) (by decide) dX1_countOnce_13 ?_
  refine y_eq (tgt := 19) hx hb dX1_countOnce_14 (by decide) (fun c_3 => ?_) (fun c_3 => ?_)
  · refine lv_aload_n hx hb dX1_countOnce_19 rfl (lv_at hl 0 rfl) ?_
    refine va_get (D := D) (ci := 3) (v := .ref (ax 9)) (C := RX1) (T := TX1) (N := 12) hx hb hts hin hown hK hP 0 rfl rfl 10 (by decide) hf_45 (fun _ h9 => h9) rfl dX1_countOnce_20 ?_
    refine lv_iload_n hx hb dX1_countOnce_23 rfl (lv_at hl 1 rfl) ?_
    refine lv_iconst (v := (nI (1))) hx hb dX1_countOnce_24 (by decide +kernel) ?_
    refine n_top (y := bI true) (by decide +kernel) ?_
    refine b_bast hx hb hK hP hD hS 9 1 rfl rfl (i := x) (by decide +kernel) (by omega) (by decide) dX1_countOnce_25 (ws' := (wX cI cZ cA ax n B Q (va_up cn x true) rt wd qf T)) (bI_upd _ _ _) rfl (fun H locs hP hD hS => ?_)
    refine lv_iconst (v := (nI (1))) hx hb dX1_countOnce_26 (by decide +kernel) ?_
    have ew_4 : (va_up cn x true) = (if (s_tl8 n B x && !(cn x)) = true then va_up cn x true else cn) := by simp [bI_t, bI_f, c_1, c_3]
    have hP : va_P D vwCl (wX cI cZ cA ax n B Q (if (s_tl8 n B x && !(cn x)) = true then va_up cn x true else cn) rt wd qf T) H := by rw [← ew_4]; exact hP
    have hD : va_D A (wX cI cZ cA ax n B Q (if (s_tl8 n B x && !(cn x)) = true then va_up cn x true else cn) rt wd qf T) := by rw [← ew_4]; exact hD
    exact W.zret (v := (nI (1))) hx hb hr (by decide +kernel) (fun t ht hW => ⟨⟨_, (), rfl, (by simp [bI_t, bI_f, c_1, c_3]), by rw [ht]; exact hP, va_K.moved hW.alike hK, hD⟩, hS.F ht⟩) hS.2.2 dX1_countOnce_27
  refine lv_iconst (v := (nI (0))) hx hb dX1_countOnce_17 (by decide +kernel) ?_
  have ew_5 : cn = (if (s_tl8 n B x && !(cn x)) = true then va_up cn x true else cn) := by simp [bI_t, bI_f, c_1, c_3]
  have hP : va_P D vwCl (wX cI cZ cA ax n B Q (if (s_tl8 n B x && !(cn x)) = true then va_up cn x true else cn) rt wd qf T) s.heap := by rw [← ew_5]; exact hP
  have hD : va_D A (wX cI cZ cA ax n B Q (if (s_tl8 n B x && !(cn x)) = true then va_up cn x true else cn) rt wd qf T) := by rw [← ew_5]; exact hD
  exact W.zret (v := (nI (0))) hx hb hr (by decide +kernel) (fun t ht hW => ⟨⟨_, (), rfl, (by simp [bI_t, bI_f, c_1, c_3]), by rw [ht]; exact hP, va_K.moved hW.alike hK, hD⟩, hS.F ht⟩) hS.2.2 dX1_countOnce_18
theorem hdX1_countOnce : yX1_countOnce.cls = RX1 ∧ yX1_countOnce.cls ≠ "java/lang/invoke/MethodHandle" ∧ yX1_countOnce.cls ≠ "java/lang/invoke/VarHandle" ∧ (parseMethodDescriptor yX1_countOnce.desc).map (fun d => d.parameters.length) = some 1 := by decide +kernel
set_option maxHeartbeats 4000000 in
set_option maxRecDepth 100000 in
theorem kX1_talkByOrigins (l : Launch) (D : va_G) (cI cZ cA : ClassId) (ax : Nat → Nat) (n : Nat) (B : Nat → Nat → Nat) (Q : Nat → Option Nat) (cn : Nat → Bool) (rt : Nat → Nat) (wd : Nat → Option Nat) (qf : Nat → Option Nat) (T : Nat → Nat → Nat) (sz : Nat) (hB : Bok n B) (hQ : QA n B Q) : Met l yX1_talkByOrigins wsX1_talkByOrigins ({ frames := 6, cells := 0, slots := 0, locals := 136 }) (PcM D [(cI, .int), (cZ, .boolean), (cA, .array .int)] (wX cI cZ cA ax n B Q cn rt wd qf T) sz [.ref (ax 0)]) (va_Qi (fun (r : Int32) (cn9 : Nat → Bool) => r = (nI (s_tk n B))) (fun (cn9 : Nat → Bool) t => AtW D [(cI, .int), (cZ, .boolean), (cA, .array .int)] (va_A (wX cI cZ cA ax n B Q cn rt wd qf T) sz) (wX cI cZ cA ax n B Q cn9 rt wd qf T) t) (va_A (wX cI cZ cA ax n B Q cn rt wd qf T) sz)) 0 0 (va_A (wX cI cZ cA ax n B Q cn rt wd qf T) sz) := by
  refine Met.ofW (cc := cX1_talkByOrigins) (maxL := 3) (ret := (some .int)) (by decide) rfl ?_
  intro p e s m args below meth c s₁ BL hml hv
  obtain ⟨rfl, hsz, hP, hK, hD0⟩ := hv
  have hx := BL.exec
  have hb := BL.bytes
  have hr := BL.returns
  have hts := atoms_spec (ws := wsX1_talkByOrigins) BL.pre
  have hown : s.vm.findClass RX1 = some m.cls := findClass_of_methodNamed BL.named
  have hlocks := BL.notSynchronized
  have hin : ∀ w ∈ wsX10, w ∈ wsX1_talkByOrigins := by decide +kernel
  have hf_45 := hts (.fieldLink RX1 45 "TalkRebuilder" "counted" "[Z") (by decide +kernel)
  have hl := lv_entry ([.ref (ax 0)]) (n := 3) (Nat.le_of_ble_eq_true rfl)
  rw [lg_entry_eq]
  generalize (lg_sl ([.ref (ax 0)]) ++ List.replicate (3 - (lg_sl ([.ref (ax 0)])).length) Slot.unset).toArray = ls at hl ⊢
  have hl : lv_has ls 3 [(0, .ref (ax 0))] := hl
  subst hsz
  have hD := hD0.self (sz := s.heap.size)
  generalize hAe : va_A (wX cI cZ cA ax n B Q cn rt wd qf T) s.heap.size = A at hD ⊢
  have hA : ∀ q : Nat, s.heap.size ≤ q → A q := fun q h => by rw [← hAe]; exact Or.inr h
  have hS : va_S A s.heap s.heap [] := va_S.rf
  have hP : va_P D vwCl (wX cI cZ cA ax n B Q cn rt wd qf T) s.heap := hP
  have hD : va_D A (wX cI cZ cA ax n B Q cn rt wd qf T) := hD
  have hn10 := hB.1
  refine lv_iconst (v := (nI (0))) hx hb dX1_talkByOrigins_0 (by decide +kernel) ?_
  refine lv_istore_n (lv' := [(1, .int (nI (0))), (0, .ref (ax 0))]) hx hb dX1_talkByOrigins_1 rfl hl (by decide) rfl (fun ls hl => ?_)
  have loop_2 : ∀ (N : Nat) (z : Nat) (cn : Nat → Bool), 80 - z < N → (z ≤ 80) → (∀ k, k < z → cn k = false) → ∀ (H : Heap) (locs : List Loc), va_P D vwCl (wX cI cZ cA ax n B Q cn rt wd qf T) H → va_D A (wX cI cZ cA ax n B Q cn rt wd qf T) → va_S A s.heap H locs → ∀ (ls : Array Slot), lv_has ls 3 [(0, .ref (ax 0)), (1, .int (nI (z)))] → W p l e (headSpec wsX1_talkByOrigins ({ frames := 6, cells := 0, slots := 0, locals := 136 })).room s m ([.ref (ax 0)] : List Value).toArray below meth c H locs 0 0 (MQ below (va_Qi (fun (r : Int32) (cn9 : Nat → Bool) => r = (nI (s_tk n B))) (fun (cn9 : Nat → Bool) t => AtW D [(cI, .int), (cZ, .boolean), (cA, .array .int)] A (wX cI cZ cA ax n B Q cn9 rt wd qf T) t) A) ([.ref (ax 0)] : List Value).toArray s 0 0 A) (F0 m 2 ls []) := by
    intro N
    induction N with
    | zero => intro z cn hmu; exact absurd hmu (Nat.not_lt_zero _)
    | succ N ih_2 =>
      intro z cn hmu_2 h_z h_c H locs hP hD hS ls hl
      refine lv_iload_n hx hb dX1_talkByOrigins_2 rfl (lv_at hl 1 rfl) ?_
      refine lv_bipush (v := (nI (80))) hx hb dX1_talkByOrigins_3 (by decide +kernel) ?_
      refine n_ge (tgt := 21) hx hb (by omega) (by omega) dX1_talkByOrigins_5 (by decide) (fun c_1 => ?_) (fun c_1 => ?_)
      · refine lv_iconst (v := (nI (0))) hx hb dX1_talkByOrigins_21 (by decide +kernel) ?_
        refine lv_istore_n (lv' := [(1, .int (nI (0))), (0, .ref (ax 0))]) hx hb dX1_talkByOrigins_22 rfl hl (by decide) rfl (fun ls hl => ?_)
        refine lv_iconst (v := (nI (0))) hx hb dX1_talkByOrigins_23 (by decide +kernel) ?_
        refine lv_istore_n (lv' := [(2, .int (nI (0))), (1, .int (nI (0))), (0, .ref (ax 0))]) hx hb dX1_talkByOrigins_24 rfl hl (by decide) rfl (fun ls hl => ?_)
        have loop_25 : ∀ (N : Nat) (z : Nat) (cn : Nat → Bool), 80 - z < N → (z ≤ 80) → (OC n B z cn) → ∀ (H : Heap) (locs : List Loc), va_P D vwCl (wX cI cZ cA ax n B Q cn rt wd qf T) H → va_D A (wX cI cZ cA ax n B Q cn rt wd qf T) → va_S A s.heap H locs → ∀ (ls : Array Slot), lv_has ls 3 [(0, .ref (ax 0)), (1, .int (nI (ct cn 80))), (2, .int (nI (z)))] → W p l e (headSpec wsX1_talkByOrigins ({ frames := 6, cells := 0, slots := 0, locals := 136 })).room s m ([.ref (ax 0)] : List Value).toArray below meth c H locs 0 0 (MQ below (va_Qi (fun (r : Int32) (cn9 : Nat → Bool) => r = (nI (s_tk n B))) (fun (cn9 : Nat → Bool) t => AtW D [(cI, .int), (cZ, .boolean), (cA, .array .int)] A (wX cI cZ cA ax n B Q cn9 rt wd qf T) t) A) ([.ref (ax 0)] : List Value).toArray s 0 0 A) (F0 m 25 ls []) := by
          intro N
          induction N with
          | zero => intro z cn hmu; exact absurd hmu (Nat.not_lt_zero _)
          | succ N ih_25 =>
            intro z cn hmu_25 h_z h_o H locs hP hD hS ls hl
            refine lv_iload_n hx hb dX1_talkByOrigins_25 rfl (lv_at hl 2 rfl) ?_
            refine lv_bipush (v := (nI (80))) hx hb dX1_talkByOrigins_26 (by decide +kernel) ?_
            refine n_ge (tgt := 60) hx hb (by omega) (by omega) dX1_talkByOrigins_28 (by decide) (fun c_2 => ?_) (fun c_2 => ?_)
            · refine lv_iload_n hx hb dX1_talkByOrigins_60 rfl (lv_at hl 1 rfl) ?_
              exact W.iret (v := (nI (ct cn 80))) hx hb hr (fun t ht hW => ⟨⟨_, cn, rfl, (by exact congrArg nI (OC_e hB h_o c_2)), by rw [ht]; exact hP, va_K.moved hW.alike hK, hD⟩, hS.F ht⟩) hS.2.2 dX1_talkByOrigins_61
            refine lv_aload_n hx hb dX1_talkByOrigins_31 rfl (lv_at hl 0 rfl) ?_
            refine lv_iload_n hx hb dX1_talkByOrigins_32 rfl (lv_at hl 2 rfl) ?_
            refine ro_V (As := [.int (nI (z))]) (v := (bI (s_ln B z))) ⟨hx, hb, hml, hown, hts⟩ (kX1_isLine l D cI cZ cA ax n B Q cn rt wd qf T z hB (by omega)) (cwV 1 hts gX1_talkByOrigins_X1_isLine rfl rfl rfl hdX1_isLine ⟨Nat.le_of_ble_eq_true rfl, Nat.le_of_ble_eq_true rfl⟩) hK hP (ci := 3) rfl (q0 := 0) rfl rfl rfl hl.1 rfl (Nat.le_of_ble_eq_true rfl) dX1_talkByOrigins_33 ⟨Nat.zero_le _, Nat.zero_le _⟩ ?_
            refine y_eq (tgt := 54) hx hb dX1_talkByOrigins_36 (by decide) (fun c_3 => ?_) (fun c_3 => ?_)
            · refine lv_iinc (v := (nI (z + 1))) (lv' := [(2, .int (nI (z + 1))), (0, .ref (ax 0)), (1, .int (nI (ct cn 80)))]) hx hb dX1_talkByOrigins_54 hl (k := 2) rfl (nI_1 _) (by decide) rfl (fun ls hl => ?_)
              refine lv_goto (tgt := 25) hx hb dX1_talkByOrigins_57 (by decide) ?_
              exact ih_25 (z + 1) cn (by omega) (by omega) (by first | exact OC_0 (fun k hk => h_c k (by omega)) | (rw [if_pos c_3]; exact OC_y h_o c_3) | (rw [if_neg (by rw [c_3]; exact Bool.false_ne_true)]; exact OC_n h_o (Or.inr c_3)) | exact OC_n h_o (Or.inl c_3)) _ _ hP hD hS _ (show lv_has ls 3 [(0, .ref (ax 0)), (1, .int (nI (ct cn 80))), (2, .int (nI (z + 1)))] from by exact lv_sub hl [1, 2, 0] rfl)
            have hzl : s_ln B z = true := c_3
            obtain ⟨hzm, hzk, hz80⟩ := s_ln_t hB hzl
            have hol80 : s_org n B (z / 8) (z % 8) < 80 := by have q : s_org n B (z / 8) (z % 8) < 8 * n := s_or_lt hB.2.2.1 (k := 4) hzm hzk; omega
            refine lv_aload_n hx hb dX1_talkByOrigins_39 rfl (lv_at hl 0 rfl) ?_
            refine lv_aload_n hx hb dX1_talkByOrigins_40 rfl (lv_at hl 0 rfl) ?_
            refine lv_iload_n hx hb dX1_talkByOrigins_41 rfl (lv_at hl 2 rfl) ?_
            refine ro_V (As := [.int (nI (z))]) (v := (nI (s_org n B (z / 8) (z % 8)))) ⟨hx, hb, hml, hown, hts⟩ (kX1_originOf l D cI cZ cA ax n B Q cn rt wd qf T z hB hQ (by omega) (by omega)) (cwV 1 hts gX1_talkByOrigins_X1_originOf rfl rfl rfl hdX1_originOf ⟨Nat.le_of_ble_eq_true rfl, Nat.le_of_ble_eq_true rfl⟩) hK hP (ci := 3) rfl (q0 := 0) rfl rfl rfl hl.1 rfl (Nat.le_of_ble_eq_true rfl) dX1_talkByOrigins_42 ⟨Nat.zero_le _, Nat.zero_le _⟩ ?_
            refine mo_V (wr := []) (As := [.int (nI (s_org n B (z / 8) (z % 8)))]) ⟨hx, hb, hml, hown, hts⟩ (kX1_countOnce l D cI cZ cA ax n B Q cn rt wd qf T H.size (s_org n B (z / 8) (z % 8)) hB hQ (by omega)) (cwV 1 hts gX1_talkByOrigins_X1_countOnce rfl rfl rfl hdX1_countOnce ⟨Nat.le_of_ble_eq_true rfl, Nat.le_of_ble_eq_true rfl⟩) hK hP hD hS hA (ci := 3) rfl (q0 := 0) rfl rfl rfl hl.1 rfl (Nat.le_of_ble_eq_true rfl) dX1_talkByOrigins_45 ⟨Nat.zero_le _, Nat.zero_le _⟩ (fun r_4 (u9 : Unit) H locs hw_4 hP hD hS => ?_)
            subst hw_4
            have hP : va_P D vwCl (wX cI cZ cA ax n B Q (if (s_tl8 n B (s_org n B (z / 8) (z % 8)) && !(cn (s_org n B (z / 8) (z % 8)))) = true then va_up cn (s_org n B (z / 8) (z % 8)) true else cn) rt wd qf T) H := hP
            have hD : va_D A (wX cI cZ cA ax n B Q (if (s_tl8 n B (s_org n B (z / 8) (z % 8)) && !(cn (s_org n B (z / 8) (z % 8)))) = true then va_up cn (s_org n B (z / 8) (z % 8)) true else cn) rt wd qf T) := hD
            refine y_eq (tgt := 54) hx hb dX1_talkByOrigins_48 (by decide) (fun c_5 => ?_) (fun c_5 => ?_)
            · refine lv_iinc (v := (nI (z + 1))) (lv' := [(2, .int (nI (z + 1))), (0, .ref (ax 0)), (1, .int (nI (ct cn 80)))]) hx hb dX1_talkByOrigins_54 hl (k := 2) rfl (nI_1 _) (by decide) rfl (fun ls hl => ?_)
              refine lv_goto (tgt := 25) hx hb dX1_talkByOrigins_57 (by decide) ?_
              have e_6 : ((nI (ct cn 80)) : Int32) = (nI (ct (if (s_tl8 n B (s_org n B (z / 8) (z % 8)) && !(cn (s_org n B (z / 8) (z % 8)))) = true then va_up cn (s_org n B (z / 8) (z % 8)) true else cn) 80)) := by first | (rw [if_pos c_5]; exact congrArg nI (OC_ct hol80 c_5).symm) | (rw [if_neg (by rw [c_5]; exact Bool.false_ne_true)]; done)
              exact ih_25 (z + 1) (if (s_tl8 n B (s_org n B (z / 8) (z % 8)) && !(cn (s_org n B (z / 8) (z % 8)))) = true then va_up cn (s_org n B (z / 8) (z % 8)) true else cn) (by omega) (by omega) (by first | exact OC_0 (fun k hk => h_c k (by omega)) | (rw [if_pos c_5]; exact OC_y h_o c_5) | (rw [if_neg (by rw [c_5]; exact Bool.false_ne_true)]; exact OC_n h_o (Or.inr c_5)) | exact OC_n h_o (Or.inl c_5)) _ _ hP hD hS _ (show lv_has ls 3 [(0, .ref (ax 0)), (1, .int (nI (ct (if (s_tl8 n B (s_org n B (z / 8) (z % 8)) && !(cn (s_org n B (z / 8) (z % 8)))) = true then va_up cn (s_org n B (z / 8) (z % 8)) true else cn) 80))), (2, .int (nI (z + 1)))] from by rw [← e_6]; exact lv_sub hl [1, 2, 0] rfl)
            refine lv_iinc (v := (nI (ct cn 80 + 1))) (lv' := [(1, .int (nI (ct cn 80 + 1))), (0, .ref (ax 0)), (2, .int (nI (z)))]) hx hb dX1_talkByOrigins_51 hl (k := 1) rfl (nI_1 _) (by decide) rfl (fun ls hl => ?_)
            refine lv_iinc (v := (nI (z + 1))) (lv' := [(2, .int (nI (z + 1))), (1, .int (nI (ct cn 80 + 1))), (0, .ref (ax 0))]) hx hb dX1_talkByOrigins_54 hl (k := 2) rfl (nI_1 _) (by decide) rfl (fun ls hl => ?_)
            refine lv_goto (tgt := 25) hx hb dX1_talkByOrigins_57 (by decide) ?_
            have e_7 : ((nI (ct cn 80 + 1)) : Int32) = (nI (ct (if (s_tl8 n B (s_org n B (z / 8) (z % 8)) && !(cn (s_org n B (z / 8) (z % 8)))) = true then va_up cn (s_org n B (z / 8) (z % 8)) true else cn) 80)) := by first | (rw [if_pos c_5]; exact congrArg nI (OC_ct hol80 c_5).symm) | (rw [if_neg (by rw [c_5]; exact Bool.false_ne_true)]; done)
            exact ih_25 (z + 1) (if (s_tl8 n B (s_org n B (z / 8) (z % 8)) && !(cn (s_org n B (z / 8) (z % 8)))) = true then va_up cn (s_org n B (z / 8) (z % 8)) true else cn) (by omega) (by omega) (by first | exact OC_0 (fun k hk => h_c k (by omega)) | (rw [if_pos c_5]; exact OC_y h_o c_5) | (rw [if_neg (by rw [c_5]; exact Bool.false_ne_true)]; exact OC_n h_o (Or.inr c_5)) | exact OC_n h_o (Or.inl c_5)) _ _ hP hD hS _ (show lv_has ls 3 [(0, .ref (ax 0)), (1, .int (nI (ct (if (s_tl8 n B (s_org n B (z / 8) (z % 8)) && !(cn (s_org n B (z / 8) (z % 8)))) = true then va_up cn (s_org n B (z / 8) (z % 8)) true else cn) 80))), (2, .int (nI (z + 1)))] from by rw [← e_7]; exact lv_sub hl [2, 1, 0] rfl)
        have e_8 : ((nI (0)) : Int32) = (nI (ct cn 80)) := by exact congrArg nI (ct_zero (fun k hk => h_c k (by omega))).symm
        exact loop_25 (80 - 0 + 1) 0 cn (by omega) (by omega) (by first | exact OC_0 (fun k hk => h_c k (by omega)) | (rw [if_pos c_1]; exact OC_y h_o c_1) | (rw [if_neg (by rw [c_1]; exact Bool.false_ne_true)]; exact OC_n h_o (Or.inr c_1)) | exact OC_n h_o (Or.inl c_1)) _ _ hP hD hS _ (show lv_has ls 3 [(0, .ref (ax 0)), (1, .int (nI (ct cn 80))), (2, .int (nI (0)))] from by rw [← e_8]; exact lv_sub hl [2, 1, 0] rfl)
      refine lv_aload_n hx hb dX1_talkByOrigins_8 rfl (lv_at hl 0 rfl) ?_
      refine va_get (D := D) (ci := 3) (v := .ref (ax 9)) (C := RX1) (T := TX1) (N := 12) hx hb hts hin hown hK hP 0 rfl rfl 10 (by decide) hf_45 (fun _ h9 => h9) rfl dX1_talkByOrigins_9 ?_
      refine lv_iload_n hx hb dX1_talkByOrigins_12 rfl (lv_at hl 1 rfl) ?_
      refine lv_iconst (v := (nI (0))) hx hb dX1_talkByOrigins_13 (by decide +kernel) ?_
      refine n_top (y := bI false) (by decide +kernel) ?_
      refine b_bast hx hb hK hP hD hS 9 1 rfl rfl (i := z) (by decide +kernel) (by omega) (by decide) dX1_talkByOrigins_14 (ws' := (wX cI cZ cA ax n B Q (va_up cn z false) rt wd qf T)) (bI_upd _ _ _) rfl (fun H locs hP hD hS => ?_)
      refine lv_iinc (v := (nI (z + 1))) (lv' := [(1, .int (nI (z + 1))), (0, .ref (ax 0))]) hx hb dX1_talkByOrigins_15 hl (k := 1) rfl (nI_1 _) (by decide) rfl (fun ls hl => ?_)
      refine lv_goto (tgt := 2) hx hb dX1_talkByOrigins_18 (by decide) ?_
      exact ih_2 (z + 1) (va_up cn z false) (by omega) (by omega) (by first | exact fun _ h => absurd h (Nat.not_lt_zero _) | (intro k hk; unfold va_up; by_cases e : k = z; (rw [if_pos e]); (rw [if_neg e]; exact h_c k (by omega)))) _ _ hP hD hS _ (show lv_has ls 3 [(0, .ref (ax 0)), (1, .int (nI (z + 1)))] from by exact lv_sub hl [1, 0] rfl)
  exact loop_2 (80 - 0 + 1) 0 cn (by omega) (by omega) (by first | exact fun _ h => absurd h (Nat.not_lt_zero _) | (intro k hk; unfold va_up; by_cases e : k = z; (rw [if_pos e]); (rw [if_neg e]; exact h_c k (by omega)))) _ _ hP hD hS _ (show lv_has ls 3 [(0, .ref (ax 0)), (1, .int (nI (0)))] from by exact lv_sub hl [1, 0] rfl)
theorem hdX1_talkByOrigins : yX1_talkByOrigins.cls = RX1 ∧ yX1_talkByOrigins.cls ≠ "java/lang/invoke/MethodHandle" ∧ yX1_talkByOrigins.cls ≠ "java/lang/invoke/VarHandle" ∧ (parseMethodDescriptor yX1_talkByOrigins.desc).map (fun d => d.parameters.length) = some 0 := by decide +kernel
set_option maxHeartbeats 4000000 in
set_option maxRecDepth 100000 in
theorem kX1_takeRootsOfParents (l : Launch) (D : va_G) (cI cZ cA : ClassId) (ax : Nat → Nat) (n : Nat) (B : Nat → Nat → Nat) (Q : Nat → Option Nat) (cn : Nat → Bool) (rt : Nat → Nat) (wd : Nat → Option Nat) (qf : Nat → Option Nat) (T : Nat → Nat → Nat) (sz : Nat) (hB : Bok n B) : Met l yX1_takeRootsOfParents wsX1_takeRootsOfParents ({ frames := 3, cells := 0, slots := 0, locals := 66 }) (PcM D [(cI, .int), (cZ, .boolean), (cA, .array .int)] (wX cI cZ cA ax n B Q cn rt wd qf T) sz [.ref (ax 0)]) (va_Qv (fun (rt9 : Nat → Nat) => ∀ r, RO n B r 0 rt → RO n B (r + 1) 0 rt9) (fun (rt9 : Nat → Nat) t => AtW D [(cI, .int), (cZ, .boolean), (cA, .array .int)] (va_A (wX cI cZ cA ax n B Q cn rt wd qf T) sz) (wX cI cZ cA ax n B Q cn rt9 wd qf T) t) (va_A (wX cI cZ cA ax n B Q cn rt wd qf T) sz)) 0 0 (va_A (wX cI cZ cA ax n B Q cn rt wd qf T) sz) := by
  refine Met.ofW (cc := cX1_takeRootsOfParents) (maxL := 3) (ret := none) (by decide) rfl ?_
  intro p e s m args below meth c s₁ BL hml hv
  obtain ⟨rfl, hsz, hP, hK, hD0⟩ := hv
  have hx := BL.exec
  have hb := BL.bytes
  have hr := BL.returns
  have hts := atoms_spec (ws := wsX1_takeRootsOfParents) BL.pre
  have hown : s.vm.findClass RX1 = some m.cls := findClass_of_methodNamed BL.named
  have hlocks := BL.notSynchronized
  have hin : ∀ w ∈ wsX10, w ∈ wsX1_takeRootsOfParents := by decide +kernel
  have hf_9 := hts (.fieldLink RX1 9 "TalkRebuilder" "mailCount" "I") (by decide +kernel)
  have hf_49 := hts (.fieldLink RX1 49 "TalkRebuilder" "roots" "[I") (by decide +kernel)
  have hl := lv_entry ([.ref (ax 0)]) (n := 3) (Nat.le_of_ble_eq_true rfl)
  rw [lg_entry_eq]
  generalize (lg_sl ([.ref (ax 0)]) ++ List.replicate (3 - (lg_sl ([.ref (ax 0)])).length) Slot.unset).toArray = ls at hl ⊢
  have hl : lv_has ls 3 [(0, .ref (ax 0))] := hl
  subst hsz
  have hD := hD0.self (sz := s.heap.size)
  generalize hAe : va_A (wX cI cZ cA ax n B Q cn rt wd qf T) s.heap.size = A at hD ⊢
  have hA : ∀ q : Nat, s.heap.size ≤ q → A q := fun q h => by rw [← hAe]; exact Or.inr h
  have hS : va_S A s.heap s.heap [] := va_S.rf
  have hP : va_P D vwCl (wX cI cZ cA ax n B Q cn rt wd qf T) s.heap := hP
  have hD : va_D A (wX cI cZ cA ax n B Q cn rt wd qf T) := hD
  have hn10 := hB.1
  refine lv_iconst (v := (nI (0))) hx hb dX1_takeRootsOfParents_0 (by decide +kernel) ?_
  refine lv_istore_n (lv' := [(1, .int (nI (0))), (0, .ref (ax 0))]) hx hb dX1_takeRootsOfParents_1 rfl hl (by decide) rfl (fun ls hl => ?_)
  have loop_2 : ∀ (N : Nat) (z : Nat) (rt1 : Nat → Nat), n - z < N → (z ≤ n) → (∀ r, RO n B r 0 rt → RO n B r z rt1) → ∀ (H : Heap) (locs : List Loc), va_P D vwCl (wX cI cZ cA ax n B Q cn rt1 wd qf T) H → va_D A (wX cI cZ cA ax n B Q cn rt1 wd qf T) → va_S A s.heap H locs → ∀ (ls : Array Slot), lv_has ls 3 [(0, .ref (ax 0)), (1, .int (nI (z)))] → W p l e (headSpec wsX1_takeRootsOfParents ({ frames := 3, cells := 0, slots := 0, locals := 66 })).room s m ([.ref (ax 0)] : List Value).toArray below meth c H locs 0 0 (MQ below (va_Qv (fun (rt9 : Nat → Nat) => ∀ r, RO n B r 0 rt → RO n B (r + 1) 0 rt9) (fun (rt9 : Nat → Nat) t => AtW D [(cI, .int), (cZ, .boolean), (cA, .array .int)] A (wX cI cZ cA ax n B Q cn rt9 wd qf T) t) A) ([.ref (ax 0)] : List Value).toArray s 0 0 A) (F0 m 2 ls []) := by
    intro N
    induction N with
    | zero => intro z rt1 hmu; exact absurd hmu (Nat.not_lt_zero _)
    | succ N ih_2 =>
      intro z rt1 hmu_2 h_z h_r H locs hP hD hS ls hl
      refine lv_iload_n hx hb dX1_takeRootsOfParents_2 rfl (lv_at hl 1 rfl) ?_
      refine lv_aload_n hx hb dX1_takeRootsOfParents_3 rfl (lv_at hl 0 rfl) ?_
      refine va_get (D := D) (ci := 3) (v := .int (nI (n))) (C := RX1) (T := TX1) (N := 12) hx hb hts hin hown hK hP 0 rfl rfl 0 (by decide) hf_9 (fun _ h9 => h9) rfl dX1_takeRootsOfParents_4 ?_
      refine n_ge (tgt := 39) hx hb (by omega) (by omega) dX1_takeRootsOfParents_7 (by decide) (fun c_1 => ?_) (fun c_1 => ?_)
      · exact W.vret hx hb hr (fun t ht hW => ⟨⟨rt1, rfl, (fun r h => RO_e (h_r r h) c_1), by rw [ht]; exact hP, va_K.moved hW.alike hK, hD⟩, hS.F ht⟩) hS.2.2 dX1_takeRootsOfParents_39
      refine lv_aload_n hx hb dX1_takeRootsOfParents_10 rfl (lv_at hl 0 rfl) ?_
      refine lv_iload_n hx hb dX1_takeRootsOfParents_11 rfl (lv_at hl 1 rfl) ?_
      refine ro_V (As := [.int (nI (z))]) (v := (oI (s_pit n B z))) ⟨hx, hb, hml, hown, hts⟩ (kX1_parentInThread l D cI cZ cA ax n B Q cn rt1 wd qf T z hB (by omega)) (cwV 1 hts gX1_takeRootsOfParents_X1_parentInThread rfl rfl rfl hdX1_parentInThread ⟨Nat.le_of_ble_eq_true rfl, Nat.le_of_ble_eq_true rfl⟩) hK hP (ci := 3) rfl (q0 := 0) rfl rfl rfl hl.1 rfl (Nat.le_of_ble_eq_true rfl) dX1_takeRootsOfParents_12 ⟨Nat.zero_le _, Nat.zero_le _⟩ ?_
      refine lv_istore_n (lv' := [(2, .int (oI (s_pit n B z))), (0, .ref (ax 0)), (1, .int (nI (z)))]) hx hb dX1_takeRootsOfParents_15 rfl hl (by decide) rfl (fun ls hl => ?_)
      refine lv_iload_n hx hb dX1_takeRootsOfParents_16 rfl (lv_at hl 0 rfl) ?_
      refine lv_iconst (v := (oI (none))) hx hb dX1_takeRootsOfParents_17 (by decide +kernel) ?_
      refine o_eq (tgt := 33) hx hb (fun k hk => by have := (s_pit_lt hk).1; omega) dX1_takeRootsOfParents_18 (by decide) (fun c_2 => ?_) (fun kc_2 c_2 => ?_)
      · rw [c_2] at hl
        have hl : lv_has ls 3 [(2, .int (oI (none))), (0, .ref (ax 0)), (1, .int (nI (z)))] := hl
        refine lv_iinc (v := (nI (z + 1))) (lv' := [(1, .int (nI (z + 1))), (2, .int (oI (none))), (0, .ref (ax 0))]) hx hb dX1_takeRootsOfParents_33 hl (k := 2) rfl (nI_1 _) (by decide) rfl (fun ls hl => ?_)
        refine lv_goto (tgt := 2) hx hb dX1_takeRootsOfParents_36 (by decide) ?_
        exact ih_2 (z + 1) rt1 (by omega) (by omega) (by first | exact fun r h => h | exact fun r h => RO_n (h_r r h) c_2 | exact fun r h => RO_y hB (h_r r h) (by omega) hp1) _ _ hP hD hS _ (show lv_has ls 3 [(0, .ref (ax 0)), (1, .int (nI (z + 1)))] from by exact lv_sub hl [2, 0] rfl)
      rw [c_2] at hl
      have hl : lv_has ls 3 [(2, .int (nI (kc_2))), (0, .ref (ax 0)), (1, .int (nI (z)))] := hl
      have hp1 := c_2
      have hq1 := (s_pit_lt hp1).1
      refine lv_aload_n hx hb dX1_takeRootsOfParents_21 rfl (lv_at hl 1 rfl) ?_
      refine va_get (D := D) (ci := 3) (v := .ref (ax 10)) (C := RX1) (T := TX1) (N := 12) hx hb hts hin hown hK hP 0 rfl rfl 11 (by decide) hf_49 (fun _ h9 => h9) rfl dX1_takeRootsOfParents_22 ?_
      refine lv_iload_n hx hb dX1_takeRootsOfParents_25 rfl (lv_at hl 2 rfl) ?_
      refine lv_aload_n hx hb dX1_takeRootsOfParents_26 rfl (lv_at hl 1 rfl) ?_
      refine va_get (D := D) (ci := 3) (v := .ref (ax 10)) (C := RX1) (T := TX1) (N := 12) hx hb hts hin hown hK hP 0 rfl rfl 11 (by decide) hf_49 (fun _ h9 => h9) rfl dX1_takeRootsOfParents_27 ?_
      refine lv_iload_n hx hb dX1_takeRootsOfParents_30 rfl (lv_at hl 0 rfl) ?_
      refine n_iald hx hb hK hP 10 0 rfl rfl (i := kc_2) (by omega) (by decide) dX1_takeRootsOfParents_31 ?_
      refine r_iast hx hb hK hP hD hS 10 0 rfl rfl (i := z) (by omega) (by decide) dX1_takeRootsOfParents_32 (ws' := (wX cI cZ cA ax n B Q cn (va_up rt1 z (rt1 kc_2)) wd qf T)) (nI_upd _ _ _) rfl (fun H locs hP hD hS => ?_)
      refine lv_iinc (v := (nI (z + 1))) (lv' := [(1, .int (nI (z + 1))), (2, .int (nI (kc_2))), (0, .ref (ax 0))]) hx hb dX1_takeRootsOfParents_33 hl (k := 2) rfl (nI_1 _) (by decide) rfl (fun ls hl => ?_)
      refine lv_goto (tgt := 2) hx hb dX1_takeRootsOfParents_36 (by decide) ?_
      exact ih_2 (z + 1) (va_up rt1 z (rt1 kc_2)) (by omega) (by omega) (by first | exact fun r h => h | exact fun r h => RO_n (h_r r h) c_2 | exact fun r h => RO_y hB (h_r r h) (by omega) hp1) _ _ hP hD hS _ (show lv_has ls 3 [(0, .ref (ax 0)), (1, .int (nI (z + 1)))] from by exact lv_sub hl [2, 0] rfl)
  exact loop_2 (n - 0 + 1) 0 rt (by omega) (by omega) (by first | exact fun r h => h | exact fun r h => RO_n (h_r r h) rfl | exact fun r h => RO_y hB (h_r r h) (by omega) hp1) _ _ hP hD hS _ (show lv_has ls 3 [(0, .ref (ax 0)), (1, .int (nI (0)))] from by exact lv_sub hl [1, 0] rfl)
theorem hdX1_takeRootsOfParents : yX1_takeRootsOfParents.cls = RX1 ∧ yX1_takeRootsOfParents.cls ≠ "java/lang/invoke/MethodHandle" ∧ yX1_takeRootsOfParents.cls ≠ "java/lang/invoke/VarHandle" ∧ (parseMethodDescriptor yX1_takeRootsOfParents.desc).map (fun d => d.parameters.length) = some 0 := by decide +kernel
set_option maxHeartbeats 4000000 in
set_option maxRecDepth 100000 in
theorem kX1_rootByRounds (l : Launch) (hfl : l.stackTraces = false) (D : va_G) (cI cZ cA : ClassId) (ax : Nat → Nat) (n : Nat) (B : Nat → Nat → Nat) (Q : Nat → Option Nat) (cn : Nat → Bool) (rt : Nat → Nat) (wd : Nat → Option Nat) (qf : Nat → Option Nat) (T : Nat → Nat → Nat) (sz : Nat) (u : Int32) (hB : Bok n B) : vx_Met l yX1_rootByRounds wsX1_rootByRounds ({ frames := 7, cells := 1, slots := 6, locals := 103 }) (PcXM D [(cI, .int), (cZ, .boolean), (cA, .array .int)] (wX cI cZ cA ax n B Q cn rt wd qf T) sz [.ref (ax 0), .int (u)]) (va_Qi (fun (r : Int32) (rt9 : Nat → Nat) => r = (nI ((s_rtc n B u).2)) ∧ (s_rtc n B u).1 = 0) (fun (rt9 : Nat → Nat) t => AtW D [(cI, .int), (cZ, .boolean), (cA, .array .int)] (va_A (wX cI cZ cA ax n B Q cn rt wd qf T) sz) (wX cI cZ cA ax n B Q cn rt9 wd qf T) t) (va_A (wX cI cZ cA ax n B Q cn rt wd qf T) sz)) (XCf (fun E => E = "java/lang/IndexOutOfBoundsException" ∧ (s_rtc n B u).1 = 1)) 1 6 (va_A (wX cI cZ cA ax n B Q cn rt wd qf T) sz) := by
  refine vx_ofW (cc := cX1_rootByRounds) (maxL := 3) (ret := (some .int)) (by decide) rfl ?_
  intro p e s m args below meth c s₁ BL hml hno hv
  obtain ⟨rfl, hsz, hP, hK, hD0, hE⟩ := hv
  have hx := BL.exec
  have hb := BL.bytes
  have hr := BL.returns
  have hts := atoms_spec (ws := wsX1_rootByRounds) BL.pre
  have hown : s.vm.findClass RX1 = some m.cls := findClass_of_methodNamed BL.named
  have hlocks := BL.notSynchronized
  have hin : ∀ w ∈ wsX10, w ∈ wsX1_rootByRounds := by decide +kernel
  have hf_9 := hts (.fieldLink RX1 9 "TalkRebuilder" "mailCount" "I") (by decide +kernel)
  have hf_49 := hts (.fieldLink RX1 49 "TalkRebuilder" "roots" "[I") (by decide +kernel)
  have hl := lv_entry ([.ref (ax 0), .int (u)]) (n := 3) (Nat.le_of_ble_eq_true rfl)
  rw [lg_entry_eq]
  generalize (lg_sl ([.ref (ax 0), .int (u)]) ++ List.replicate (3 - (lg_sl ([.ref (ax 0), .int (u)])).length) Slot.unset).toArray = ls at hl ⊢
  have hl : lv_has ls 3 [(0, .ref (ax 0)), (1, .int (u))] := hl
  subst hsz
  have hD := hD0.self (sz := s.heap.size)
  generalize hAe : va_A (wX cI cZ cA ax n B Q cn rt wd qf T) s.heap.size = A at hD ⊢
  have hA : ∀ q : Nat, s.heap.size ≤ q → A q := fun q h => by rw [← hAe]; exact Or.inr h
  have hS : va_S A s.heap s.heap [] := va_S.rf
  have hP : va_P D vwCl (wX cI cZ cA ax n B Q cn rt wd qf T) s.heap := hP
  have hD : va_D A (wX cI cZ cA ax n B Q cn rt wd qf T) := hD
  have hn10 := hB.1
  refine lv_aload_n hx hb dX1_rootByRounds_0 rfl (lv_at hl 0 rfl) ?_
  refine lv_iload_n hx hb dX1_rootByRounds_1 rfl (lv_at hl 1 rfl) ?_
  refine xr_Vv (As := [.int (u)]) ⟨hx, hb, hml, hown, hts⟩ (kX1_requireMail l hfl D cI cZ cA ax n B Q cn rt wd qf T (u) hB) (cwV 1 hts gX1_rootByRounds_X1_requireMail rfl rfl rfl hdX1_requireMail ⟨Nat.le_of_ble_eq_true rfl, Nat.le_of_ble_eq_true rfl⟩) hK hP hE (ci := 3) rfl (q0 := 0) rfl rfl rfl hl.1 rfl (Nat.le_of_ble_eq_true rfl) dX1_rootByRounds_2 ⟨Nat.le_of_ble_eq_true rfl, Nat.le_of_ble_eq_true rfl⟩ hno hlocks (fun E h => ⟨h.1, by simp [s_rtc, h.2]⟩) (Nat.le_of_ble_eq_true rfl) (Nat.le_of_ble_eq_true rfl) (fun h_1 => ?_)
  have hm_u := h_1
  obtain ⟨k_u, hk_u, rfl⟩ := s_ism_t hB.1 h_1
  have h8_u := hB.2.2.1 k_u
  have hc_k_u : (nI k_u).toNatClampNeg = k_u := nI_clamp (by omega)
  refine lv_iconst (v := (nI (0))) hx hb dX1_rootByRounds_5 (by decide +kernel) ?_
  refine lv_istore_n (lv' := [(2, .int (nI (0))), (0, .ref (ax 0)), (1, .int (nI (k_u)))]) hx hb dX1_rootByRounds_6 rfl hl (by decide) rfl (fun ls hl => ?_)
  have loop_7 : ∀ (N : Nat) (z : Nat) (rt : Nat → Nat), n - z < N → (z ≤ n) → (∀ k, k < z → rt k = k) → ∀ (H : Heap) (locs : List Loc), va_P D vwCl (wX cI cZ cA ax n B Q cn rt wd qf T) H → va_D A (wX cI cZ cA ax n B Q cn rt wd qf T) → va_S A s.heap H locs → ∀ (ls : Array Slot), lv_has ls 3 [(0, .ref (ax 0)), (1, .int (nI (k_u))), (2, .int (nI (z)))] → W p l e (headSpec wsX1_rootByRounds ({ frames := 7, cells := 1, slots := 6, locals := 103 })).room s m ([.ref (ax 0), .int (nI k_u)] : List Value).toArray below meth c H locs 1 6 (vx_MQ below (va_Qi (fun (r : Int32) (rt9 : Nat → Nat) => r = (nI ((s_rtc n B (nI k_u)).2)) ∧ (s_rtc n B (nI k_u)).1 = 0) (fun (rt9 : Nat → Nat) t => AtW D [(cI, .int), (cZ, .boolean), (cA, .array .int)] A (wX cI cZ cA ax n B Q cn rt9 wd qf T) t) A) (XCf (fun E => E = "java/lang/IndexOutOfBoundsException" ∧ (s_rtc n B (nI k_u)).1 = 1)) ([.ref (ax 0), .int (nI k_u)] : List Value).toArray s 1 6 A) (F0 m 7 ls []) := by
    intro N
    induction N with
    | zero => intro z rt hmu; exact absurd hmu (Nat.not_lt_zero _)
    | succ N ih_7 =>
      intro z rt hmu_7 h_z h_c H locs hP hD hS ls hl
      refine lv_iload_n hx hb dX1_rootByRounds_7 rfl (lv_at hl 2 rfl) ?_
      refine lv_aload_n hx hb dX1_rootByRounds_8 rfl (lv_at hl 0 rfl) ?_
      refine va_get (D := D) (ci := 3) (v := .int (nI (n))) (C := RX1) (T := TX1) (N := 12) hx hb hts hin hown hK hP 0 rfl rfl 0 (by decide) hf_9 (fun _ h9 => h9) rfl dX1_rootByRounds_9 ?_
      refine n_ge (tgt := 28) hx hb (by omega) (by omega) dX1_rootByRounds_12 (by decide) (fun c_2 => ?_) (fun c_2 => ?_)
      · refine lv_iconst (v := (nI (0))) hx hb dX1_rootByRounds_28 (by decide +kernel) ?_
        refine lv_istore_n (lv' := [(2, .int (nI (0))), (0, .ref (ax 0)), (1, .int (nI (k_u)))]) hx hb dX1_rootByRounds_29 rfl hl (by decide) rfl (fun ls hl => ?_)
        have loop_30 : ∀ (N : Nat) (z : Nat) (rt : Nat → Nat), n - z < N → (z ≤ n) → (RO n B z 0 rt) → ∀ (H : Heap) (locs : List Loc), va_P D vwCl (wX cI cZ cA ax n B Q cn rt wd qf T) H → va_D A (wX cI cZ cA ax n B Q cn rt wd qf T) → va_S A s.heap H locs → ∀ (ls : Array Slot), lv_has ls 3 [(0, .ref (ax 0)), (1, .int (nI (k_u))), (2, .int (nI (z)))] → W p l e (headSpec wsX1_rootByRounds ({ frames := 7, cells := 1, slots := 6, locals := 103 })).room s m ([.ref (ax 0), .int (nI k_u)] : List Value).toArray below meth c H locs 1 6 (vx_MQ below (va_Qi (fun (r : Int32) (rt9 : Nat → Nat) => r = (nI ((s_rtc n B (nI k_u)).2)) ∧ (s_rtc n B (nI k_u)).1 = 0) (fun (rt9 : Nat → Nat) t => AtW D [(cI, .int), (cZ, .boolean), (cA, .array .int)] A (wX cI cZ cA ax n B Q cn rt9 wd qf T) t) A) (XCf (fun E => E = "java/lang/IndexOutOfBoundsException" ∧ (s_rtc n B (nI k_u)).1 = 1)) ([.ref (ax 0), .int (nI k_u)] : List Value).toArray s 1 6 A) (F0 m 30 ls []) := by
          intro N
          induction N with
          | zero => intro z rt hmu; exact absurd hmu (Nat.not_lt_zero _)
          | succ N ih_30 =>
            intro z rt hmu_30 h_z h_r H locs hP hD hS ls hl
            refine lv_iload_n hx hb dX1_rootByRounds_30 rfl (lv_at hl 2 rfl) ?_
            refine lv_aload_n hx hb dX1_rootByRounds_31 rfl (lv_at hl 0 rfl) ?_
            refine va_get (D := D) (ci := 3) (v := .int (nI (n))) (C := RX1) (T := TX1) (N := 12) hx hb hts hin hown hK hP 0 rfl rfl 0 (by decide) hf_9 (fun _ h9 => h9) rfl dX1_rootByRounds_32 ?_
            refine n_ge (tgt := 48) hx hb (by omega) (by omega) dX1_rootByRounds_35 (by decide) (fun c_3 => ?_) (fun c_3 => ?_)
            · refine lv_aload_n hx hb dX1_rootByRounds_48 rfl (lv_at hl 0 rfl) ?_
              refine va_get (D := D) (ci := 3) (v := .ref (ax 10)) (C := RX1) (T := TX1) (N := 12) hx hb hts hin hown hK hP 0 rfl rfl 11 (by decide) hf_49 (fun _ h9 => h9) rfl dX1_rootByRounds_49 ?_
              refine lv_iload_n hx hb dX1_rootByRounds_52 rfl (lv_at hl 1 rfl) ?_
              refine n_iald hx hb hK hP 10 0 rfl rfl (i := k_u) (by omega) (by decide) dX1_rootByRounds_53 ?_
              refine vx_ret ?_
              refine W.widen (k := 1) (n := 6) (Nat.le_of_ble_eq_true rfl) (Nat.le_of_ble_eq_true rfl) ?_
              exact W.iret (v := (nI (rt k_u))) hx hb hr (fun t ht hW => ⟨⟨_, rt, rfl, ⟨(by exact congrArg nI (by unfold s_rtc; rw [if_pos hm_u]; show _ = s_root n B (nI k_u).toNatClampNeg; rw [hc_k_u]; exact RO_r h_r c_3 hk_u)), (by unfold s_rtc; rw [if_pos hm_u])⟩, by rw [ht]; exact hP, va_K.moved hW.alike hK, hD⟩, hS.F ht⟩) hS.2.2 dX1_rootByRounds_54
            refine lv_aload_n hx hb dX1_rootByRounds_38 rfl (lv_at hl 0 rfl) ?_
            refine mo_Vv (wr := []) (As := []) ⟨hx, hb, hml, hown, hts⟩ (kX1_takeRootsOfParents l D cI cZ cA ax n B Q cn rt wd qf T H.size  hB) (cwV 0 hts gX1_rootByRounds_X1_takeRootsOfParents rfl rfl rfl hdX1_takeRootsOfParents ⟨Nat.le_of_ble_eq_true rfl, Nat.le_of_ble_eq_true rfl⟩) hK hP hD hS hA (ci := 3) rfl (q0 := 0) rfl rfl rfl hl.1 rfl (Nat.le_of_ble_eq_true rfl) dX1_rootByRounds_39 ⟨Nat.le_of_ble_eq_true rfl, Nat.le_of_ble_eq_true rfl⟩ (fun (rt_4 : Nat → Nat) H locs hw_4 hP hD hS => ?_)
            have hP : va_P D vwCl (wX cI cZ cA ax n B Q cn rt_4 wd qf T) H := hP
            have hD : va_D A (wX cI cZ cA ax n B Q cn rt_4 wd qf T) := hD
            have hRR := hw_4
            refine lv_iinc (v := (nI (z + 1))) (lv' := [(2, .int (nI (z + 1))), (0, .ref (ax 0)), (1, .int (nI (k_u)))]) hx hb dX1_rootByRounds_42 hl (k := 2) rfl (nI_1 _) (by decide) rfl (fun ls hl => ?_)
            refine lv_goto (tgt := 30) hx hb dX1_rootByRounds_45 (by decide) ?_
            exact ih_30 (z + 1) rt_4 (by omega) (by omega) (by first | exact RO_0 (fun k hk => h_c k (by omega)) | exact hRR z h_r) _ _ hP hD hS _ (show lv_has ls 3 [(0, .ref (ax 0)), (1, .int (nI (k_u))), (2, .int (nI (z + 1)))] from by exact lv_sub hl [1, 2, 0] rfl)
        exact loop_30 (n - 0 + 1) 0 rt (by omega) (by omega) (by first | exact RO_0 (fun k hk => h_c k (by omega)) | exact hRR z h_r) _ _ hP hD hS _ (show lv_has ls 3 [(0, .ref (ax 0)), (1, .int (nI (k_u))), (2, .int (nI (0)))] from by exact lv_sub hl [1, 2, 0] rfl)
      refine lv_aload_n hx hb dX1_rootByRounds_15 rfl (lv_at hl 0 rfl) ?_
      refine va_get (D := D) (ci := 3) (v := .ref (ax 10)) (C := RX1) (T := TX1) (N := 12) hx hb hts hin hown hK hP 0 rfl rfl 11 (by decide) hf_49 (fun _ h9 => h9) rfl dX1_rootByRounds_16 ?_
      refine lv_iload_n hx hb dX1_rootByRounds_19 rfl (lv_at hl 2 rfl) ?_
      refine lv_iload_n hx hb dX1_rootByRounds_20 rfl (lv_at hl 2 rfl) ?_
      refine r_iast hx hb hK hP hD hS 10 0 rfl rfl (i := z) (by omega) (by decide) dX1_rootByRounds_21 (ws' := (wX cI cZ cA ax n B Q cn (va_up rt z z) wd qf T)) (nI_upd _ _ _) rfl (fun H locs hP hD hS => ?_)
      refine lv_iinc (v := (nI (z + 1))) (lv' := [(2, .int (nI (z + 1))), (0, .ref (ax 0)), (1, .int (nI (k_u)))]) hx hb dX1_rootByRounds_22 hl (k := 2) rfl (nI_1 _) (by decide) rfl (fun ls hl => ?_)
      refine lv_goto (tgt := 7) hx hb dX1_rootByRounds_25 (by decide) ?_
      exact ih_7 (z + 1) (va_up rt z z) (by omega) (by omega) (by first | exact fun _ h => absurd h (Nat.not_lt_zero _) | (intro k hk; unfold va_up; by_cases e : k = z; (rw [if_pos e, e]); (rw [if_neg e]; exact h_c k (by omega)))) _ _ hP hD hS _ (show lv_has ls 3 [(0, .ref (ax 0)), (1, .int (nI (k_u))), (2, .int (nI (z + 1)))] from by exact lv_sub hl [1, 2, 0] rfl)
  exact loop_7 (n - 0 + 1) 0 rt (by omega) (by omega) (by first | exact fun _ h => absurd h (Nat.not_lt_zero _) | (intro k hk; unfold va_up; by_cases e : k = z; (rw [if_pos e, e]); (rw [if_neg e]; exact h_c k (by omega)))) _ _ hP hD hS _ (show lv_has ls 3 [(0, .ref (ax 0)), (1, .int (nI (k_u))), (2, .int (nI (0)))] from by exact lv_sub hl [1, 2, 0] rfl)
theorem hdX1_rootByRounds : yX1_rootByRounds.cls = RX1 ∧ yX1_rootByRounds.cls ≠ "java/lang/invoke/MethodHandle" ∧ yX1_rootByRounds.cls ≠ "java/lang/invoke/VarHandle" ∧ (parseMethodDescriptor yX1_rootByRounds.desc).map (fun d => d.parameters.length) = some 1 := by decide +kernel
