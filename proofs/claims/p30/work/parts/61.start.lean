theorem arrP {args : Array Value} {s : State} {ty : FieldType} (h : (Cond.arrayClass ty).before args s = true) : ∃ cA, s.vm.findClass ("[" ++ ty.toString) = some cA ∧ ArrOfT s cA ty := by
  obtain ⟨c, k, comp, h1, h2, h3⟩ := Cond.arrayClass_spec h
  exact ⟨c, h1, fun n z => ⟨fun q hq => (by cases hq), k, h2, comp, h3⟩⟩
theorem arrO {args : Array Value} {s : State} (h : (Cond.arrayOver (.array .int)).before args s = true) : ∃ cA, s.vm.findClass ("[" ++ (FieldType.array .int).toString) = some cA ∧ ArrOfT s cA (.array .int) := by
  obtain ⟨comp, c, k, h1, h2, h3, h4, h5⟩ := Jvm.Stand.arrayOver_specB h
  exact ⟨c, h5, fun n z => ⟨fun q hq => (by cases hq), k, h3, comp, h4⟩⟩
def LA (s : State) : Nat → Prop := fun q => s.heap.size ≤ q
/-- the classes and the arrays' classes -/
theorem st_K {args : Array Value} {s : State} (hts : ∀ w ∈ lw_tbl, w.before args s = true) : ∃ (D : va_G) (cI cZ cA : ClassId), va_K D vwCl (tyZ cI cZ cA) s := by
  obtain ⟨c0, i0, k0⟩ := u_known (C := RJ0) (T := TJ0) (N := 2) (n := 4) hts inJ0 (hts (.instantiable RJ0 4) (by decide +kernel))
  obtain ⟨c1, i1, k1⟩ := u_known (C := RJx00060) (T := TJx00060) (N := 6) (n := 6) hts inJx00060 (hts (.instantiable RJx00060 6) (by decide +kernel))
  obtain ⟨c2, i2, k2⟩ := u_known (C := RX0) (T := TX0) (N := 3) (n := 3) hts inX0 (hts (.instantiable RX0 3) (by decide +kernel))
  obtain ⟨c3, i3, k3⟩ := u_known (C := RX1) (T := TX1) (N := 12) (n := 12) hts inX1 (hts (.instantiable RX1 12) (by decide +kernel))
  obtain ⟨cI, a1, b1⟩ := arrP (hts (.arrayClass .int) (by decide +kernel))
  obtain ⟨cZ, a2, b2⟩ := arrP (hts (.arrayClass .boolean) (by decide +kernel))
  obtain ⟨cA, a3, b3⟩ := arrO (hts (.arrayOver (.array .int)) (by decide +kernel))
  refine ⟨(fun k => match k with | 0 => c0 | 1 => c1 | 2 => c2 | _ => c3, fun k => match k with | 0 => i0 | 1 => i1 | 2 => i2 | _ => i3), cI, cZ, cA, fun k q hq => ?_, fun k q hq => ?_⟩
  · match k, hq with
    | 0, hq => cases hq; exact k0
    | 1, hq => cases hq; exact k1
    | 2, hq => cases hq; exact k2
    | 3, hq => cases hq; exact k3
    | k + 4, hq => cases hq
  · match k, hq with
    | 0, hq => cases hq; exact ⟨b1, a1⟩
    | 1, hq => cases hq; exact ⟨b2, a2⟩
    | 2, hq => cases hq; exact ⟨b3, a3⟩
    | k + 3, hq => cases hq
theorem st_xW : ∀ w ∈ xW, w ∈ lw_tbl := by decide +kernel
theorem st_xWt : ∀ w ∈ xW, w.onTables = true := by decide +kernel
theorem st_xS : ∀ q ∈ xS, Cond.stringRef RX1 q.1 q.2 ∈ lw_tbl := by decide +kernel
theorem st_xE : ∀ q ∈ xS, Cond.exactly (.string RX1 q.1) "java/lang/String" ∈ flatC (Jvm.Cond.and given_1 narrow_1) := by decide +kernel
theorem st_xT : ∀ q ∈ xT, Cond.not (.castable q.1 q.2) ∈ flatC (Jvm.Cond.and given_1 narrow_1) := by decide +kernel
theorem st_EV {args : Array Value} {s : State} (hts : ∀ w ∈ lw_tbl, w.before args s = true) (hgv : (Jvm.Cond.and given_1 narrow_1).before args s = true) : EV (LA s) s s.heap := by
  have hq := flat_of_before _ hgv
  refine ⟨vx_Zqof (args := args) (hts (.laysStatic Bundle.tN "UNASSIGNED_STACK" Bundle.steD) (by decide +kernel)) (hts (.initialized Bundle.tN) (by decide +kernel)) (hq (.isRef (.static Bundle.tN "UNASSIGNED_STACK" Bundle.steD)) (by decide +kernel)) (fun a h => Nat.not_le.mpr h), vx_Zqof (args := args) (hts (.laysStatic Bundle.tN "SUPPRESSED_SENTINEL" Bundle.listD) (by decide +kernel)) (hts (.initialized Bundle.tN) (by decide +kernel)) (hq (.isRef (.static Bundle.tN "SUPPRESSED_SENTINEL" Bundle.listD)) (by decide +kernel)) (fun a h => Nat.not_le.mpr h), fun w hw => va_Nw.of (st_xWt w hw) (hts w (st_xW w hw)), fun q hx => ?_, va_Nw.of rfl (hts (.methodLinkNest RX0 23 yX1_isWithin RX1) (by decide +kernel))⟩
  obtain ⟨a, c, cell, k, h1, -⟩ := Cond.exactly_spec (hq _ (st_xE q hx))
  exact ⟨a, vk_R.of (hts _ (st_xS q hx)) h1⟩
theorem st_NC {args : Array Value} {s : State} (hgv : (Jvm.Cond.and given_1 narrow_1).before args s = true) : NCs s := fun q hx => va_Nc.of (flat_of_before _ hgv _ (st_xT q hx))
theorem st_B : Bok 0 (fun _ _ => 0) := ⟨Nat.zero_le _, fun _ _ => Nat.zero_le _, fun _ => Nat.zero_le _, fun _ h => absurd h (Nat.not_lt_zero _), fun _ _ _ h => absurd h (Nat.not_lt_zero _), fun _ => Nat.zero_le _, fun _ _ => rfl⟩
theorem st_Q {Q : Nat → Option Nat} (h : ∀ k, k < 80 → Q k = none) : QA 0 (fun _ _ => 0) Q := fun x hx => by
  rw [h x hx, s_q_none]
  unfold s_ln
  simp
theorem st_T : TB (fun _ _ => 0) := fun _ _ => ⟨rfl, rfl⟩
