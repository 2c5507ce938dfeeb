/-! what the law's own turns rest on -/
theorem hdL_cell : yL_cell.cls ≠ "java/lang/invoke/MethodHandle" ∧ yL_cell.cls ≠ "java/lang/invoke/VarHandle" ∧ (parseMethodDescriptor yL_cell.desc).map (fun d => d.parameters.length) = some 2 := by decide +kernel
theorem ushr_ok (x y : Int32) (h : 1 ≤ (y.toUInt32 &&& Int32.toUInt32 31).toNat ∧ (y.toUInt32 &&& Int32.toUInt32 31).toNat < 32) : ∃ V, V < 2 ^ 31 ∧ (x.toUInt32 >>> (y.toUInt32 &&& Int32.toUInt32 31)).toInt32 = nI V := by
  generalize (y.toUInt32 &&& Int32.toUInt32 31) = c at h
  have e : (x.toUInt32 >>> c).toNat = x.toUInt32.toNat / 2 ^ c.toNat := by
    rw [UInt32.toNat_shiftRight, Nat.mod_eq_of_lt h.2, Nat.shiftRight_eq_div_pow]
  have hx : x.toUInt32.toNat < 2 ^ 32 := UInt32.toNat_lt _
  have hV : (x.toUInt32 >>> c).toNat < 2 ^ 31 := by
    rw [e]
    have h2 : 2 ^ 1 ≤ 2 ^ c.toNat := Nat.pow_le_pow_right (by decide) h.1
    have h3 : x.toUInt32.toNat / 2 ^ c.toNat ≤ x.toUInt32.toNat / 2 ^ 1 := Nat.div_le_div_left h2 (by decide)
    omega
  refine ⟨(x.toUInt32 >>> c).toNat, hV, ?_⟩
  apply Int32.toBitVec_inj.mp
  apply BitVec.eq_of_toNat_eq
  show (x.toUInt32 >>> c).toBitVec.toNat = (BitVec.ofNat 32 (x.toUInt32 >>> c).toNat).toNat
  rw [BitVec.toNat_ofNat, Nat.mod_eq_of_lt (by omega)]
  rfl
theorem x_in {k a b : Nat} (h1 : a ≤ k) (h2 : k ≤ b) (hb : b < 2 ^ 31) : s_in (nI k) (nI a) (nI b) = true := s_in_o h1 h2 hb
theorem ad_step {n u a w : Nat} {B : Nat → Nat → Nat} (hB : Bok n B) (hBW : BW n B) (hu : u < n) (ha : a ≤ 3) (hw1 : 1 ≤ w) (hw2 : w ≤ 99) : Bok n (s_adB n B (nI u) (nI a) (nI w)) ∧ BW n (s_adB n B (nI u) (nI a) (nI w)) ∧ (∀ q, q ≠ u → s_adB n B (nI u) (nI a) (nI w) 4 q = B 4 q) ∧ rI (s_adc n B (nI u) (nI a) (nI w)) (nI (s_adv n B (nI u) (nI a) (nI w))) = (if B 4 u = 8 then xI 3 else nI (B 4 u + 1)) := by
  have h8 := hB.2.2.1 u
  have eu := x_m hB hu
  have ea : (nI a).toNatClampNeg = a := nI_clamp (by omega)
  have ew : (nI w).toNatClampNeg = w := nI_clamp (by omega)
  have ec : s_adc n B (nI u) (nI a) (nI w) = if B 4 u = 8 then 3 else 0 := by
    unfold s_adc
    rw [if_pos (s_ism_o hB.1 hu), if_pos (x_in (Nat.zero_le _) ha (by decide)), if_pos (x_in hw1 hw2 (by decide)), eu]
  unfold s_adB s_adv
  by_cases h : B 4 u = 8
  · rw [if_pos h] at ec
    rw [ec, if_neg (by decide), if_pos h]
    exact ⟨hB, hBW, fun _ _ => rfl, rfl⟩
  · rw [if_neg h] at ec
    rw [ec, if_pos rfl, if_neg h, if_pos rfl, eu, ea, ew]
    refine ⟨ad_Bok hB hu (by omega) ha hw2, BW_ad hB hBW (by omega) hw1, fun q hq => ?_, rfl⟩
    simp [b_up_at, hq]
theorem rm_step {n u : Nat} {B : Nat → Nat → Nat} (hB : Bok n B) (hBW : BW n B) (hu : u < n) : Bok n (s_rmB n B (nI u)) ∧ BW n (s_rmB n B (nI u)) ∧ rI (s_rmc n B (nI u)) (nI (s_rmv n B (nI u))) = (if B 4 u = 0 then xI 2 else nI (B 4 u - 1)) := by
  have eu := x_m hB hu
  have ec : s_rmc n B (nI u) = if B 4 u = 0 then 2 else 0 := by
    unfold s_rmc
    rw [if_pos (s_ism_o hB.1 hu), eu]
  unfold s_rmB s_rmv
  by_cases h : B 4 u = 0
  · rw [if_pos h] at ec
    rw [ec, if_neg (by decide), if_pos h]
    exact ⟨hB, hBW, rfl⟩
  · rw [if_neg h] at ec
    rw [ec, if_pos rfl, if_neg h, if_pos rfl, eu]
    exact ⟨rm_Bok hB hu, BW_rm hBW, rfl⟩
theorem ar_step {n d a t r : Nat} {B : Nat → Nat → Nat} {Q : Nat → Option Nat} (hB : Bok n B) (hBW : BW n B) (hQ : QA n B Q) (hd1 : 1 ≤ d) (hd2 : d ≤ 99) (ha : a ≤ 5) (ht : t ≤ 9) (hr : r < d) :
    (∃ c, rI (s_arc n B (nI d) (nI a) (nI t) (nI r)) (nI (s_arv n B (nI d) (nI a) (nI t) (nI r))) = xI c ∧ s_arn n B (nI d) (nI a) (nI t) (nI r) = n ∧ s_arB n B (nI d) (nI a) (nI t) (nI r) = B) ∨
    (rI (s_arc n B (nI d) (nI a) (nI t) (nI r)) (nI (s_arv n B (nI d) (nI a) (nI t) (nI r))) = nI n ∧ s_arn n B (nI d) (nI a) (nI t) (nI r) = n + 1 ∧ s_arB n B (nI d) (nI a) (nI t) (nI r) 4 n = 0 ∧ Bok (n + 1) (s_arB n B (nI d) (nI a) (nI t) (nI r)) ∧ BW (n + 1) (s_arB n B (nI d) (nI a) (nI t) (nI r)) ∧ n + 1 ≤ 10) := by
  have hall := ar_all hB hQ (nI d) (nI a) (nI t) (nI r)
  by_cases h : s_arc n B (nI d) (nI a) (nI t) (nI r) = 0
  · refine Or.inr ?_
    have en : s_arn n B (nI d) (nI a) (nI t) (nI r) = n + 1 := by unfold s_arn; rw [if_pos h]
    have ev : s_arv n B (nI d) (nI a) (nI t) (nI r) = n := by unfold s_arv; rw [if_pos h]
    have eB : s_arB n B (nI d) (nI a) (nI t) (nI r) = b_up (b_up (b_up (b_up B 0 n (nI d).toNatClampNeg) 1 n (nI a).toNatClampNeg) 2 n (nI t).toNatClampNeg) 3 n (nI r).toNatClampNeg := by unfold s_arB; rw [if_pos h]
    have hb1 := hall.1
    rw [en] at hb1
    refine ⟨by rw [h, ev]; rfl, en, by rw [eB, ar_x (by decide)]; exact hB.2.2.2.2.2.2 n (Nat.le_refl n), hb1, by rw [eB]; exact BW_ar hB hBW, hb1.1⟩
  · refine Or.inl ⟨s_arc n B (nI d) (nI a) (nI t) (nI r), by unfold rI; rw [if_neg h], by unfold s_arn; rw [if_neg h], by unfold s_arB; rw [if_neg h]⟩
def PcC (b L : Nat) (xs : Nat → Int32) (av : List Value) : Array Value → State → Prop := va_Pc av (fun U => va_X b L xs U U.heap ∧ b < U.heap.size)
theorem PcC_blind (b L : Nat) (xs : Nat → Int32) (av : List Value) : FrameBlind (PcC b L xs av) := fun a U g mk q => ⟨q.1, va_X.moved (u := U) (U := U.calling g mk a) (Vm.Alike.refl U.vm) q.2.1, q.2.2⟩
set_option maxHeartbeats 4000000 in
set_option maxRecDepth 100000 in
theorem kL_cell (l : Launch) (b L : Nat) (xs : Nat → Int32) (i : Nat) (hL : L ≤ 260) (hi : i < 26) : Met l yL_cell wsL_cell ({ frames := 0, cells := 0, slots := 0, locals := 8 }) (PcC b L xs [.ref b, .int (nI i)]) (vp_Si (fun _ => True)) 0 0 (fun _ => False) := by
  refine Met.ofW (cc := cL_cell) (maxL := 2) (ret := some .int) (by decide) rfl ?_
  intro p e s m args below meth c s₁ BL hml hv
  obtain ⟨rfl, hX, hbl⟩ := hv
  have hx := BL.exec
  have hb := BL.bytes
  have hr := BL.returns
  have hts := atoms_spec (ws := wsL_cell) BL.pre
  have hown : s.vm.findClass RL = some m.cls := findClass_of_methodNamed BL.named
  have hlocks := BL.notSynchronized
  have hS : va_S (fun _ => False) s.heap s.heap [] := va_S.rf
  have hl := lv_entry ([.ref b, .int (nI i)]) (n := 2) (Nat.le_of_ble_eq_true rfl)
  rw [lg_entry_eq]
  generalize (lg_sl ([.ref b, .int (nI i)]) ++ List.replicate (2 - (lg_sl ([.ref b, .int (nI i)])).length) Slot.unset).toArray = ls at hl ⊢
  have hl : lv_has ls 2 [(0, .ref b), (1, .int (nI i))] := hl
  refine lv_iload_n hx hb dL_cell_0 rfl (lv_at hl 1 rfl) ?_
  refine lv_aload_n hx hb dL_cell_1 rfl (lv_at hl 0 rfl) ?_
  refine va_slen hx hb hX hbl (fun h => h) hS dL_cell_2 ?_
  refine lv_icmp_ge (tgt := 12) hx hb dL_cell_3 (by decide) (fun h => ?_) (fun h => ?_)
  · refine lv_ldc hx hb hown (hts (.constant RL 7 40503) (by decide +kernel)) dL_cell_12 ?_
    refine lv_iload_n hx hb dL_cell_14 rfl (lv_at hl 1 rfl) ?_
    refine lv_imul hx hb dL_cell_15 ?_
    refine lv_bipush (v := nI 17) hx hb dL_cell_16 (by decide +kernel) ?_
    refine lv_iadd hx hb dL_cell_18 ?_
    exact W.iret hx hb hr (fun t ht hW => ⟨_, rfl, trivial, ht⟩) (fun _ h => nomatch h) dL_cell_19
  · have hiL : i < L := Nat.lt_of_not_le (fun q => h ((nI_leI (by omega) (by omega)).mpr q))
    refine lv_aload_n hx hb dL_cell_6 rfl (lv_at hl 0 rfl) ?_
    refine lv_iload_n hx hb dL_cell_7 rfl (lv_at hl 1 rfl) ?_
    refine va_sld hx hb hX hbl (fun h => h) hS (vp_in_nI hiL (by omega)) dL_cell_8 ?_
    refine lv_goto (tgt := 19) hx hb dL_cell_9 (by decide) ?_
    exact W.iret hx hb hr (fun t ht hW => ⟨_, rfl, trivial, ht⟩) (fun _ h => nomatch h) dL_cell_19
section ZC
variable {p : Program} {l : Launch} {e : Env} {R : Room} {s : State} {m : MethodId} {args : Array Value} {below : List Frame} {meth : Method} {c : Code} {H : Heap} {locs : List Loc} {cells slots : Nat} {Q9 : State → Prop} {cc : ByteArray} {pc : Nat} {ls : Array Slot} {rest stk : List Value}
variable {nL index : Nat} {Ts : List Cond} {own : String} {b L i : Nat} {xs : Nat → Int32} {A : Nat → Prop}
theorem z_C (S : CallFix p m c cc nL s args Ts own) (cw : CallB R s args own index yL_cell cL_cell 2 (some .int) wsL_cell ({ frames := 0, cells := 0, slots := 0, locals := 8 }) 0 0 2 ∧ (Cond.static yL_cell).before args s = true) (hX : va_X b L xs s s.heap) (hbl : b < s.heap.size) (hbA : ¬ A b) (hS : va_S A s.heap H locs) (hL : L ≤ 260) (hi : i < 26) (hn : ([.ref b, .int (nI i)] : List Value).length = 2) (hsize : ls.size = nL) (hstk : stk = ([.ref b, .int (nI i)] : List Value).reverse ++ rest) (hW8 : (rest.map fun v => v.category).sum ≤ 8) (hdg : decode cc pc = .ok (.invokestatic index, 3)) (hf : cells ≤ R.cells ∧ slots ≤ R.slots)
    (kk : ∀ x : Int32, W p l e R s m args below meth c H locs cells slots Q9 (F0 m (pc + 3) ls (.int x :: rest))) : W p l e R s m args below meth c H locs cells slots Q9 (F0 m pc ls stk) :=
  vp_callSi (va_Run.run (va_runS (As := [.ref b, .int (nI i)]) (rest := rest) S (kL_cell l b L xs i hL hi) cw ⟨PcC_blind _ _ _ _, fun U hU hW9 => ⟨rfl, by rw [hU]; exact va_X.moved hW9.alike (hX.kept (hS.2.1 b hbl hbA)), by rw [hU]; exact Nat.lt_of_lt_of_le hbl hS.1⟩⟩ rfl hn hsize hstk (lv_room hW8) hdg hf)) (fun r _ => kk r)
end ZC
