/-! the law's own state: the class's cells say n mails and the box B; the rest is hidden -/
abbrev tyZ (cI cZ cA : ClassId) : List (ClassId × FieldType) := [(cI, .int), (cZ, .boolean), (cA, .array .int)]
def LWh (D : va_G) (cI cZ cA : ClassId) (ax : Nat → Nat) (A : Nat → Prop) (n : Nat) (B : Nat → Nat → Nat) (H : Heap) : Prop :=
  ∃ (Q : Nat → Option Nat) (cn : Nat → Bool) (rt : Nat → Nat) (wd qf : Nat → Option Nat) (T : Nat → Nat → Nat), QA n B Q ∧ TB T ∧ va_P D vwCl (wX cI cZ cA ax n B Q cn rt wd qf T) H ∧ va_D A (wX cI cZ cA ax n B Q cn rt wd qf T)
def PcZ (D : va_G) (cI cZ cA : ClassId) (ax : Nat → Nat) (A : Nat → Prop) (n : Nat) (B : Nat → Nat → Nat) (av : List Value) : Array Value → State → Prop := va_Pc av (fun U => LWh D cI cZ cA ax A n B U.heap ∧ va_K D vwCl (tyZ cI cZ cA) U ∧ EV A U U.heap ∧ NCs U ∧ ∀ q : Nat, U.heap.size ≤ q → A q)
theorem PcZ_blind (D : va_G) (cI cZ cA : ClassId) (ax : Nat → Nat) (A : Nat → Prop) (n : Nat) (B : Nat → Nat → Nat) (av : List Value) : FrameBlind (PcZ D cI cZ cA ax A n B av) := fun a U g mk q => ⟨q.1, q.2.1, va_K.moved (u := U) (U := U.calling g mk a) (Vm.Alike.refl U.vm) q.2.2.1, EV.same (s := U) (U := U.calling g mk a) rfl q.2.2.2.1, NCs.moved (u := U) (U := U.calling g mk a) (Vm.Alike.refl U.vm) q.2.2.2.2.1, q.2.2.2.2.2⟩
def QZ (D : va_G) (cI cZ cA : ClassId) (ax : Nat → Nat) (A : Nat → Prop) (v : Int32) (n : Nat) (B : Nat → Nat → Nat) : Array Value → State → Outcome → State → Prop := va_Qi (fun (r : Int32) (_ : Unit) => r = v) (fun _ t => LWh D cI cZ cA ax A n B t.heap) A
theorem va_A_in {A : Nat → Prop} {w : va_W} {sz : Nat} (hD : va_D A w) (hA : ∀ q, sz ≤ q → A q) : ∀ q, va_A w sz q → A q := fun q h => by
  rcases h with ⟨k, e, h⟩ | h
  · exact hD.2 k (q, e) h
  · exact hA q h
section ZL
variable {p : Program} {l : Launch} {e : Env} {R : Room} {s : State} {m : MethodId} {args : Array Value} {below : List Frame} {meth : Method} {c : Code} {H : Heap} {locs : List Loc} {cells slots : Nat} {Q9 : State → Prop} {cc : ByteArray} {pc : Nat} {ls : Array Slot} {rest : List Value}
variable {y : MethodName} {bytes : ByteArray} {maxL nL k index : Nat} {ret : Option FieldType} {ws : List Cond} {rm : Room} {Ts : List Cond} {own : String} {As stk : List Value} {D : va_G} {cI cZ cA : ClassId} {ax : Nat → Nat} {n n' : Nat} {B B' : Nat → Nat → Nat} {mc ms : Nat} {A : Nat → Prop} {H0 : Heap} {v : Int32}
theorem z_pre (hK : va_K D vwCl (tyZ cI cZ cA) s) (hW : LWh D cI cZ cA ax A n B H) (hS : va_S A H0 H locs) (hA : ∀ q, H0.size ≤ q → A q) (hE : EV A s H0) (hNC : NCs s) : PreS s H (PcZ D cI cZ cA ax A n B As) As :=
  ⟨PcZ_blind _ _ _ _ _ _ _ _ _, fun U hU hW9 => ⟨rfl, by rw [hU]; exact hW, va_K.moved hW9.alike hK, by rw [hU]; exact EV.warm hW9 (hE.kept hS.2.1), NCs.moved hW9.alike hNC, fun q hq => hA q (Nat.le_trans hS.1 (by rw [hU] at hq; exact hq))⟩⟩
/-- a static call of a method that catches -/
theorem z_SX {hh : List (Nat × Nat × Nat × Nat)} (S : CallFix p m c cc nL s args Ts own) (hM : vx_Met l y ws rm (PcZ D cI cZ cA ax A n B As) (QZ D cI cZ cA ax A v n' B') (fun _ _ _ => False) mc ms A) (cw : vx_CSW R s args own index y bytes maxL ret hh ws rm mc ms k) (hK : va_K D vwCl (tyZ cI cZ cA) s) (hW : LWh D cI cZ cA ax A n B H) (hS : va_S A H0 H locs) (hA : ∀ q, H0.size ≤ q → A q) (hE : EV A s H0) (hNC : NCs s) (hn : As.length = k) (hsize : ls.size = nL) (hstk : stk = As.reverse ++ rest) (hW8 : (rest.map fun v => v.category).sum ≤ 8) (hdg : decode cc pc = .ok (.invokestatic index, 3)) (hf : cells + mc ≤ R.cells ∧ slots + ms ≤ R.slots)
    (kk : ∀ (H1 : Heap) (locs1 : List Loc), LWh D cI cZ cA ax A n' B' H1 → va_S A H0 H1 locs1 → W p l e R s m args below meth c H1 locs1 (cells + mc) (slots + ms) Q9 (F0 m (pc + 3) ls (.int v :: rest))) : W p l e R s m args below meth c H locs cells slots Q9 (F0 m pc ls stk) := by
  have hr := vx_runSX (As := As) (rest := rest) (H := H) (locs := locs) (cells := cells) (slots := slots) (below := below) (meth := meth) (e := e) (g := F0 m pc ls stk) S hM cw (z_pre hK hW hS hA hE hNC) rfl hn hsize hstk (lv_room hW8) hdg hf
  intro T hT X
  rcases hr T hT X with ⟨v, st₀, t, T', L, h0, X', hL, e1, e2, ⟨⟨r, u, hv, hp, hB⟩, hF⟩, st⟩ | ⟨q, st₀, t, T', L, E, ce, h0, X', hL, e1, e2, hF, hce, hcv, hcl, st⟩
  · cases hv
    cases hp
    obtain ⟨k1, k2, k3⟩ := vx_keep h0 e1 hS (fun q _ h => h) (fun q h => h) hL hF
    rw [← e1] at hB
    obtain ⟨t2, a1, b1⟩ := kk T'.heap (locs ++ L) hB k3 T' rfl X'
    exact ⟨t2, st t2 a1, b1⟩
  · exact hF.elim
/-- a static call of a method without a table -/
theorem z_S (S : CallFix p m c cc nL s args Ts own) (hM : Met l y ws rm (PcZ D cI cZ cA ax A n B As) (QZ D cI cZ cA ax A v n' B') mc ms A) (cw : CallB R s args own index y bytes maxL ret ws rm mc ms k ∧ (Cond.static y).before args s = true) (hK : va_K D vwCl (tyZ cI cZ cA) s) (hW : LWh D cI cZ cA ax A n B H) (hS : va_S A H0 H locs) (hA : ∀ q, H0.size ≤ q → A q) (hE : EV A s H0) (hNC : NCs s) (hn : As.length = k) (hsize : ls.size = nL) (hstk : stk = As.reverse ++ rest) (hW8 : (rest.map fun v => v.category).sum ≤ 8) (hdg : decode cc pc = .ok (.invokestatic index, 3)) (hf : cells + mc ≤ R.cells ∧ slots + ms ≤ R.slots)
    (kk : ∀ (H1 : Heap) (locs1 : List Loc), LWh D cI cZ cA ax A n' B' H1 → va_S A H0 H1 locs1 → W p l e R s m args below meth c H1 locs1 (cells + mc) (slots + ms) Q9 (F0 m (pc + 3) ls (.int v :: rest))) : W p l e R s m args below meth c H locs cells slots Q9 (F0 m pc ls stk) := by
  refine va_calli (va_runS (As := As) (rest := rest) S hM cw (z_pre hK hW hS hA hE hNC) rfl hn hsize hstk (lv_room hW8) hdg hf) hS (fun q _ h => h) (fun q h => h) (fun r u t H1 locs1 ht hvm hw hB hz hk hS1 => ?_)
  cases hw
  rw [ht] at hB
  exact kk H1 locs1 hB hS1
/-- a call of the class that only reads -/
theorem z_Vr {C : String} {cq : vw_C} (S : CallFix p m c cc nL s args Ts own) (hM : ∀ (Q : Nat → Option Nat) (cn : Nat → Bool) (rt : Nat → Nat) (wd qf : Nat → Option Nat) (T : Nat → Nat → Nat), QA n B Q → Met l y ws rm (PcR D (tyZ cI cZ cA) (wX cI cZ cA ax n B Q cn rt wd qf T) (.ref (ax 0) :: As)) (vp_Si (fun r => r = v)) 0 0 (fun _ => False)) (cw : CallW R s args own C index y bytes maxL ret ws rm 0 0 k) (hK : va_K D vwCl (tyZ cI cZ cA) s) (hW : LWh D cI cZ cA ax A n B H) (hC : C = RX1) (hn : As.length = k) (hsize : ls.size = nL) (hstk : stk = As.reverse ++ .ref (ax 0) :: rest) (hW8 : (rest.map fun v => v.category).sum ≤ 8) (hdg : decode cc pc = .ok (.invokevirtual index, 3)) (hf : cells ≤ R.cells ∧ slots ≤ R.slots)
    (kk : W p l e R s m args below meth c H locs cells slots Q9 (F0 m (pc + 3) ls (.int v :: rest))) : W p l e R s m args below meth c H locs cells slots Q9 (F0 m pc ls stk) := by
  obtain ⟨Q, cn, rt, wd, qf, T, hQ, hT, hP, hD⟩ := hW
  subst hC
  exact ro_V S (hM Q cn rt wd qf T hQ) cw hK hP (ci := 3) (q0 := 0) rfl rfl rfl hn hsize hstk hW8 hdg hf kk
/-- a call of the class that writes what is hidden -/
theorem z_Vm {C : String} (S : CallFix p m c cc nL s args Ts own) (hM : ∀ (Q : Nat → Option Nat) (cn : Nat → Bool) (rt : Nat → Nat) (wd qf : Nat → Option Nat) (T : Nat → Nat → Nat) (sz : Nat), QA n B Q → Met l y ws rm (PcM D (tyZ cI cZ cA) (wX cI cZ cA ax n B Q cn rt wd qf T) sz (.ref (ax 0) :: As)) (va_Qi (fun (r : Int32) (_ : Nat → Bool) => r = v) (fun cn9 t => AtW D (tyZ cI cZ cA) (va_A (wX cI cZ cA ax n B Q cn rt wd qf T) sz) (wX cI cZ cA ax n B Q cn9 rt wd qf T) t) (va_A (wX cI cZ cA ax n B Q cn rt wd qf T) sz)) mc ms (va_A (wX cI cZ cA ax n B Q cn rt wd qf T) sz)) (cw : CallW R s args own C index y bytes maxL ret ws rm mc ms k) (hK : va_K D vwCl (tyZ cI cZ cA) s) (hW : LWh D cI cZ cA ax A n B H) (hS : va_S A H0 H locs) (hA : ∀ q, H0.size ≤ q → A q) (hC : C = RX1) (hn : As.length = k) (hsize : ls.size = nL) (hstk : stk = As.reverse ++ .ref (ax 0) :: rest) (hW8 : (rest.map fun v => v.category).sum ≤ 8) (hdg : decode cc pc = .ok (.invokevirtual index, 3)) (hf : cells + mc ≤ R.cells ∧ slots + ms ≤ R.slots)
    (kk : ∀ (H1 : Heap) (locs1 : List Loc), LWh D cI cZ cA ax A n B H1 → va_S A H0 H1 locs1 → W p l e R s m args below meth c H1 locs1 (cells + mc) (slots + ms) Q9 (F0 m (pc + 3) ls (.int v :: rest))) : W p l e R s m args below meth c H locs cells slots Q9 (F0 m pc ls stk) := by
  obtain ⟨Q, cn, rt, wd, qf, T, hQ, hT, hP, hD⟩ := hW
  subst hC
  have hP' : va_P D vwCl ([] ++ wX cI cZ cA ax n B Q cn rt wd qf T) H := hP
  have hD' : va_D A ([] ++ wX cI cZ cA ax n B Q cn rt wd qf T) := hD
  refine va_calli (va_runV (As := As) (rest := rest) S (hM Q cn rt wd qf T H.size hQ) cw ⟨PcM_blind _ _ _ _ _, va_recv hK hP (ci := 3) (q0 := 0) rfl rfl, fun U hU hW9 => ⟨rfl, by rw [hU], by rw [hU]; exact hP, va_K.moved hW9.alike hK, hD.weaken (fun _ _ _ _ => trivial)⟩⟩ rfl hn hsize hstk (lv_room hW8) hdg hf) hS (fun q _ h => va_sub2 hD' hS hA q h) (va_sub2 hD' hS hA) (fun r u t H1 locs1 ht hvm hw hB hz hk hS1 => ?_)
  obtain ⟨b1, b2, b3⟩ := hB
  cases hw
  rw [ht] at b1
  exact kk H1 locs1 ⟨Q, u, rt, wd, qf, T, hQ, hT, b1, b3.weaken (fun k q _ h => va_sub2 hD' hS hA q.1 h)⟩ hS1
end ZL
