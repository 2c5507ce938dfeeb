section XW
variable {p : Program} {l : Launch} {e : Env} {R : Room} {s : State} {m : MethodId} {args : Array Value} {below : List Frame} {meth : Method} {c : Code} {H : Heap} {locs : List Loc} {cells slots : Nat} {Q : State → Prop} {cc : ByteArray} {pc : Nat} {ls : Array Slot} {rest : List Value}
theorem xw_S {y : MethodName} {bytes : ByteArray} {maxL nL k index : Nat} {ret : Option FieldType} {ws : List Cond} {rm : Room} {Ts : List Cond} {own : String} {As stk : List Value} {D : va_G} {tys0 : List (ClassId × FieldType)} {w wr : va_W} {mc ms : Nat} {hh : List (Nat × Nat × Nat × Nat)} {S9 : Type} {post : Int32 → S9 → Prop} {w' : S9 → va_W} {A : Nat → Prop} {H0 : Heap} (S : CallFix p m c cc nL s args Ts own) (hM : vx_Met l y ws rm (PcW D tys0 w H.size As) (va_Qi post (fun u t => AtW D tys0 (va_A w H.size) (w' u) t) (va_A w H.size)) (fun _ _ _ => False) mc ms (va_A w H.size)) (cw : vx_CSW R s args own index y bytes maxL ret hh ws rm mc ms k) (hK0 : va_K D vwCl tys0 s) (hP : va_P D vwCl (wr ++ w) H) (hD : va_D A (wr ++ w)) (hS : va_S A H0 H locs) (hA : ∀ q, H0.size ≤ q → A q) (hE : EV A s H) (hNC : NCs s) (hn : As.length = k) (hsize : ls.size = nL) (hstk : stk = As.reverse ++ rest) (hW : (rest.map fun v => v.category).sum ≤ 8) (hdg : decode cc pc = .ok (.invokestatic index, 3)) (hf : cells + mc ≤ R.cells ∧ slots + ms ≤ R.slots)
    (kk : ∀ (r : Int32) (u : S9) (H1 : Heap) (locs1 : List Loc), post r u → va_P D vwCl (wr ++ w' u) H1 → va_D A (wr ++ w' u) → va_S A H0 H1 locs1 → W p l e R s m args below meth c H1 locs1 (cells + mc) (slots + ms) Q (F0 m (pc + 3) ls (.int r :: rest))) : W p l e R s m args below meth c H locs cells slots Q (F0 m pc ls stk) := by
  have hr := vx_runSX (As := As) (rest := rest) (H := H) (locs := locs) (cells := cells) (slots := slots) (below := below) (meth := meth) (e := e) (g := F0 m pc ls stk) S hM cw ⟨PcW_blind _ _ _ _ _, fun U hU hW9 => ⟨rfl, by rw [hU], by rw [hU]; exact (va_apP hP).2, va_K.moved hW9.alike hK0, (va_apD hD).2.1.weaken (fun _ _ _ _ => trivial), by rw [hU]; exact EV.warm hW9 (hE.narrow (va_sub2 hD hS hA)), NCs.moved hW9.alike hNC⟩⟩ rfl hn hsize hstk (lv_room hW) hdg hf
  intro T hT X
  rcases hr T hT X with ⟨v, st₀, t, T', L, h0, X', hL, e1, e2, ⟨⟨r, u, hv, hp, hB⟩, hF⟩, st⟩ | ⟨q, st₀, t, T', L, E, ce, h0, X', hL, e1, e2, hF, hce, hcv, hcl, st⟩
  · cases hv
    obtain ⟨k1, k2, k3⟩ := vx_keep h0 e1 hS (fun q _ h => va_sub2 hD hS hA q h) (fun q h => va_sub2 hD hS hA q h) hL hF
    obtain ⟨b1, b2, b3⟩ := hB
    rw [← e1] at b1
    obtain ⟨j1, j2⟩ := va_join2 hP hD k2 (va_sub2 hD hS hA) b1 b3
    obtain ⟨t2, a1, b1⟩ := kk r u T'.heap (locs ++ L) hp j1 j2 k3 T' rfl X'
    exact ⟨t2, st t2 a1, b1⟩
  · exact hF.elim
theorem mo2_Vf {y : MethodName} {bytes : ByteArray} {maxL nL k index : Nat} {ret : Option FieldType} {ws : List Cond} {rm : Room} {Ts : List Cond} {own : String} {C : String} {b : Nat} {As stk : List Value} {D : va_G} {tys0 : List (ClassId × FieldType)} {w wr : va_W} {mc ms : Nat} {Pc : Array Value → State → Prop} {S9 : Type} {post : UInt32 → S9 → Prop} {w' : S9 → va_W} {A : Nat → Prop} {H0 : Heap} (S0 : CallFix p m c cc nL s args Ts own) (hM : Met l y ws rm Pc (va_Qf post (fun u t => AtW D tys0 (va_A w H.size) (w' u) t) (va_A w H.size)) mc ms (va_A w H.size)) (cw : CallW R s args own C index y bytes maxL ret ws rm mc ms k) (hp : PreV s H C b Pc As) (hP : va_P D vwCl (wr ++ w) H) (hD : va_D A (wr ++ w)) (hS : va_S A H0 H locs) (hA : ∀ q, H0.size ≤ q → A q) (hn : As.length = k) (hsize : ls.size = nL) (hstk : stk = As.reverse ++ .ref b :: rest) (hW : (rest.map fun v => v.category).sum ≤ 8) (hdg : decode cc pc = .ok (.invokevirtual index, 3)) (hf : cells + mc ≤ R.cells ∧ slots + ms ≤ R.slots) (kk : ∀ (r : UInt32) (u : S9) (H1 : Heap) (locs1 : List Loc), post r u → va_P D vwCl (wr ++ w' u) H1 → va_D A (wr ++ w' u) → va_S A H0 H1 locs1 → W p l e R s m args below meth c H1 locs1 (cells + mc) (slots + ms) Q (F0 m (pc + 3) ls (.float r :: rest))) : W p l e R s m args below meth c H locs cells slots Q (F0 m pc ls stk) := by
  refine va_callf (va_runV (As := As) (rest := rest) S0 hM cw hp rfl hn hsize hstk (lv_room hW) hdg hf) hS (fun q _ h => va_sub2 hD hS hA q h) (va_sub2 hD hS hA) (fun r u t H1 locs1 ht hvm hw hB hz hk hS1 => ?_)
  obtain ⟨b1, b2, b3⟩ := hB
  rw [ht] at b1
  obtain ⟨j1, j2⟩ := va_join2 hP hD hk (va_sub2 hD hS hA) b1 b3
  exact kk r u H1 locs1 hw j1 j2 hS1
theorem mo2_Vd {y : MethodName} {bytes : ByteArray} {maxL nL k index : Nat} {ret : Option FieldType} {ws : List Cond} {rm : Room} {Ts : List Cond} {own : String} {C : String} {b : Nat} {As stk : List Value} {D : va_G} {tys0 : List (ClassId × FieldType)} {w wr : va_W} {mc ms : Nat} {Pc : Array Value → State → Prop} {S9 : Type} {post : UInt64 → S9 → Prop} {w' : S9 → va_W} {A : Nat → Prop} {H0 : Heap} (S0 : CallFix p m c cc nL s args Ts own) (hM : Met l y ws rm Pc (va_Qd post (fun u t => AtW D tys0 (va_A w H.size) (w' u) t) (va_A w H.size)) mc ms (va_A w H.size)) (cw : CallW R s args own C index y bytes maxL ret ws rm mc ms k) (hp : PreV s H C b Pc As) (hP : va_P D vwCl (wr ++ w) H) (hD : va_D A (wr ++ w)) (hS : va_S A H0 H locs) (hA : ∀ q, H0.size ≤ q → A q) (hn : As.length = k) (hsize : ls.size = nL) (hstk : stk = As.reverse ++ .ref b :: rest) (hW : (rest.map fun v => v.category).sum ≤ 8) (hdg : decode cc pc = .ok (.invokevirtual index, 3)) (hf : cells + mc ≤ R.cells ∧ slots + ms ≤ R.slots) (kk : ∀ (r : UInt64) (u : S9) (H1 : Heap) (locs1 : List Loc), post r u → va_P D vwCl (wr ++ w' u) H1 → va_D A (wr ++ w' u) → va_S A H0 H1 locs1 → W p l e R s m args below meth c H1 locs1 (cells + mc) (slots + ms) Q (F0 m (pc + 3) ls (.double r :: rest))) : W p l e R s m args below meth c H locs cells slots Q (F0 m pc ls stk) := by
  refine va_calld (va_runV (As := As) (rest := rest) S0 hM cw hp rfl hn hsize hstk (lv_room hW) hdg hf) hS (fun q _ h => va_sub2 hD hS hA q h) (va_sub2 hD hS hA) (fun r u t H1 locs1 ht hvm hw hB hz hk hS1 => ?_)
  obtain ⟨b1, b2, b3⟩ := hB
  rw [ht] at b1
  obtain ⟨j1, j2⟩ := va_join2 hP hD hk (va_sub2 hD hS hA) b1 b3
  exact kk r u H1 locs1 hw j1 j2 hS1
end XW
theorem ar_dated {f : Nat → Nat} {n w v : Nat} : s_dated (va_up f n v) w n = s_dated f w n := by
  have key : ∀ k, k ≤ n → s_dated (va_up f n v) w k = s_dated f w k := by
    intro k
    induction k with
    | zero => intro _; rfl
    | succ k ih =>
      intro h
      simp only [s_dated]
      rw [ih (by omega), show va_up f n v k = f k from if_neg (by omega)]
  exact key n (Nat.le_refl n)
theorem b_up_ne {B : Nat → Nat → Nat} {a i v x : Nat} (h : x ≠ a) : b_up B a i v x = B x := by unfold b_up; rw [if_neg h]
theorem b_up_eq {B : Nat → Nat → Nat} {a i v : Nat} : b_up B a i v a = va_up (B a) i v := by unfold b_up; rw [if_pos rfl]
theorem ar_0 {n d a t r : Nat} {B : Nat → Nat → Nat} : (b_up (b_up (b_up (b_up B 0 n d) 1 n a) 2 n t) 3 n r) 0 = va_up (B 0) n d := by
  rw [b_up_ne (by decide), b_up_ne (by decide), b_up_ne (by decide), b_up_eq]
theorem ar_3 {n d a t r : Nat} {B : Nat → Nat → Nat} : (b_up (b_up (b_up (b_up B 0 n d) 1 n a) 2 n t) 3 n r) 3 = va_up (B 3) n r := by
  rw [b_up_eq, b_up_ne (by decide), b_up_ne (by decide), b_up_ne (by decide)]
theorem ar_x {n d a t r x : Nat} {B : Nat → Nat → Nat} (h : 4 ≤ x) : (b_up (b_up (b_up (b_up B 0 n d) 1 n a) 2 n t) 3 n r) x = B x := by
  rw [b_up_ne (by omega), b_up_ne (by omega), b_up_ne (by omega), b_up_ne (by omega)]
theorem ar_par {n d a t r u : Nat} {B : Nat → Nat → Nat} (hB : Bok n B) (hd : s_dated (B 0) d n = none) (hu : u < n) : s_par (n + 1) (b_up (b_up (b_up (b_up B 0 n d) 1 n a) 2 n t) 3 n r) u = if s_par n B u = none ∧ ¬ B 3 u = 0 ∧ d = B 3 u then some n else s_par n B u := by
  unfold s_par
  rw [ar_3, ar_0, show va_up (B 3) n r u = B 3 u from if_neg (by omega)]
  by_cases h0 : B 3 u = 0
  · rw [if_pos h0, if_pos h0, if_neg (by simp [h0])]
  · rw [if_neg h0, if_neg h0]
    show (if va_up (B 0) n d n = B 3 u then some n else s_dated (va_up (B 0) n d) (B 3 u) n) = _
    rw [ar_dated, show va_up (B 0) n d n = d from if_pos rfl]
    by_cases h1 : d = B 3 u
    · rw [if_pos h1, if_pos ⟨by rw [← h1]; exact hd, h0, h1⟩]
    · rw [if_neg h1, if_neg (fun q => h1 q.2.2)]
theorem ar_QA {n d a t r : Nat} {B : Nat → Nat → Nat} {Q : Nat → Option Nat} (hB : Bok n B) (hd : s_dated (B 0) d n = none) (hQ : QA n B Q) : QA (n + 1) (b_up (b_up (b_up (b_up B 0 n d) 1 n a) 2 n t) 3 n r) Q := by
  intro x hx
  rw [hQ x hx]
  generalize hB' : (b_up (b_up (b_up (b_up B 0 n d) 1 n a) 2 n t) 3 n r) = B'
  have h4 : B' 4 = B 4 := by rw [← hB']; exact ar_x (by decide)
  have h5 : B' 5 = B 5 := by rw [← hB']; exact ar_x (by decide)
  have h6 : B' 6 = B 6 := by rw [← hB']; exact ar_x (by decide)
  unfold s_q
  have hln : s_ln B' x = s_ln B x := by unfold s_ln; rw [h4]
  rw [hln]
  by_cases hl : s_ln B x = true
  · rw [if_pos hl, if_pos hl]
    have hu := (s_ln_t hB hl).1
    have hp := ar_par (a := a) (t := t) (r := r) hB hd hu
    rw [hB'] at hp
    by_cases hc : s_par n B (x / 8) = none ∧ ¬ B 3 (x / 8) = 0 ∧ d = B 3 (x / 8)
    · rw [if_pos hc] at hp
      have e1 : s_pa (n + 1) B' (x / 8) (x % 8) = none := by
        cases hq : s_pa (n + 1) B' (x / 8) (x % 8) with
        | none => rfl
        | some j =>
          obtain ⟨q, q1, q2, q3, -⟩ := s_pa_some hq
          rw [hp] at q1
          cases q1
          rw [h4, hB.2.2.2.2.2.2 _ (Nat.le_refl _)] at q3
          omega
      rw [e1, s_pa_np hc.1]
    · rw [if_neg hc] at hp
      have e1 : s_pa (n + 1) B' (x / 8) (x % 8) = s_pa n B (x / 8) (x % 8) := by
        unfold s_pa
        have e2 : s_f (n + 1) B' (x / 8) = s_f n B (x / 8) := by
          unfold s_f s_fits
          rw [hp, h5, h6]
        have e3 : s_col (n + 1) B' (x / 8) = s_col n B (x / 8) := by
          unfold s_col
          rw [hp, h4]
        rw [e2, e3, h4]
      rw [e1, hp]
  · rw [if_neg hl, if_neg hl]
theorem ar_Bok {n d a t r : Nat} {B : Nat → Nat → Nat} (hB : Bok n B) (hn : n < 10) (hd : s_dated (B 0) d n = none) (h1 : d ≤ 99) (h2 : a ≤ 99) (h3 : t ≤ 99) (h4 : r < d) : Bok (n + 1) (b_up (b_up (b_up (b_up B 0 n d) 1 n a) 2 n t) 3 n r) := by
  refine ⟨by omega, fun i j => ?_, fun m => ?_, fun m hm => ?_, fun i j hi hj => ?_, fun q => ?_, fun m hm => ?_⟩
  · have := hB.2.1 i j
    simp only [b_up_at]
    repeat' split
    all_goals omega
  · rw [ar_x (by decide)]; exact hB.2.2.1 m
  · rw [ar_3, ar_0]
    unfold va_up
    by_cases q : m = n
    · rw [if_pos q, if_pos q]; exact h4
    · rw [if_neg q, if_neg q]; exact hB.2.2.2.1 m (by omega)
  · rw [ar_0]
    unfold va_up
    rw [if_neg (show ¬ i = n by omega)]
    by_cases q : j = n
    · rw [if_pos q]
      intro z
      rw [s_dated_at hB.2.2.2.2.1 (show i < n by omega) z] at hd
      cases hd
    · rw [if_neg q]
      exact hB.2.2.2.2.1 i j hi (by omega)
  · rw [ar_x (by decide)]; exact hB.2.2.2.2.2.1 q
  · rw [ar_x (by decide)]; exact hB.2.2.2.2.2.2 m (by omega)
theorem ar_all {n : Nat} {B : Nat → Nat → Nat} {Q : Nat → Option Nat} (hB : Bok n B) (hQ : QA n B Q) (d a t r : Int32) : Bok (s_arn n B d a t r) (s_arB n B d a t r) ∧ QA (s_arn n B d a t r) (s_arB n B d a t r) Q := by
  unfold s_arn s_arB
  by_cases h0 : s_arc n B d a t r = 0
  · rw [if_pos h0, if_pos h0]
    unfold s_arc at h0
    by_cases g1 : s_in d (nI 1) (nI 99) = true
    · rw [if_pos g1] at h0
      by_cases g2 : s_in a (nI 0) (nI 5) = true
      · rw [if_pos g2] at h0
        by_cases g3 : s_in t (nI 0) (nI 9) = true
        · rw [if_pos g3] at h0
          by_cases g4 : s_in r (nI 0) (nI (d.toNatClampNeg - 1)) = true
          · rw [if_pos g4] at h0
            by_cases g5 : s_dated (B 0) d.toNatClampNeg n = none
            · rw [if_pos g5] at h0
              by_cases g6 : n = 10
              · rw [if_pos g6] at h0; cases h0
              · obtain ⟨d', d1, d2, rfl⟩ := s_in_n (by decide) g1
                obtain ⟨a', a1, a2, rfl⟩ := s_in_n (by decide) g2
                obtain ⟨t', t1, t2, rfl⟩ := s_in_n (by decide) g3
                obtain ⟨r', r1, r2, rfl⟩ := s_in_n (by decide) g4
                rw [nI_clamp (show d' < 2 ^ 31 by omega)] at g5 r2 ⊢
                rw [nI_clamp (show a' < 2 ^ 31 by omega), nI_clamp (show t' < 2 ^ 31 by omega), nI_clamp (show r' < 2 ^ 31 by omega)]
                have := hB.1
                exact ⟨ar_Bok hB (by omega) g5 (by omega) (by omega) (by omega) (by omega), ar_QA hB g5 hQ⟩
            · rw [if_neg g5] at h0; cases h0
          · rw [if_neg g4] at h0; cases h0
        · rw [if_neg g3] at h0; cases h0
      · rw [if_neg g2] at h0; cases h0
    · rw [if_neg g1] at h0; cases h0
  · rw [if_neg h0, if_neg h0]
    exact ⟨hB, hQ⟩
abbrev tyD (cI cZ cA cD : ClassId) : List (ClassId × FieldType) := [(cI, .int), (cZ, .boolean), (cA, .array .int), (cD, .double)]
abbrev oD (o : Nat) (cD : ClassId) (v : UInt64) : Nat × va_E := (o, .inl (cD, 1, .inr (.inr (.inr (.inl (fun _ => v))))))
theorem oD_set {D : va_G} {A : Nat → Prop} {H : Heap} {o : Nat} {cD : ClassId} {v0 v : UInt64} {w : va_W} (hP : va_P D vwCl (([oD o cD v0] ++ w).set 0 (o, .inl (cD, 1, .inr (.inr (.inr (.inl (vf_upd (fun _ => v0) (nI 0).toNatClampNeg v))))))) H) (hD : va_D A (([oD o cD v0] ++ w).set 0 (o, .inl (cD, 1, .inr (.inr (.inr (.inl (vf_upd (fun _ => v0) (nI 0).toNatClampNeg v)))))))) : va_P D vwCl ([oD o cD v] ++ w) H ∧ va_D A ([oD o cD v] ++ w) := by
  have e5 : (([oD o cD v0] ++ w).set 0 (o, .inl (cD, 1, .inr (.inr (.inr (.inl (vf_upd (fun _ => v0) (nI 0).toNatClampNeg v)))))))[0]? = some (o, .inl (cD, 1, .inr (.inr (.inr (.inl (vf_upd (fun _ => v0) (nI 0).toNatClampNeg v)))))) := rfl
  have h9 := hP 0 _ e5
  have hP2 := hP.set hD e5 (e := .inl (cD, 1, .inr (.inr (.inr (.inl (fun _ => v)))))) (H1 := H) (by
    have e6 : vp_cell cD (1, .inr (.inr (.inr (.inl (vf_upd (fun _ => v0) (nI 0).toNatClampNeg v))))) = vp_cell cD (1, .inr (.inr (.inr (.inl (fun _ => v))))) := by
      rw [vp_cell_d, vp_cell_d]
      unfold arrV
      congr 1
      all_goals (refine congrArg Array.ofFn (funext fun j => ?_); have hj : j.1 = 0 := by omega; rw [hj]; rfl)
    show H[o]? = some (vp_cell cD _)
    rw [← e6]
    exact h9) (fun _ _ => rfl)
  exact ⟨hP2, hD.set e5⟩
theorem f2_all : ∀ a, a < 81 → ∀ b, b < 81 → b ≠ 0 → FP.f2d (FP.fdiv (FP.i2f (nI a)) (FP.i2f (nI b))) &&& 0x7fffffffffffffff ≤ 0x7ff0000000000000 := by decide +kernel
theorem f2_eq : ∀ a, a < 81 → ∀ b, b < 81 → b ≠ 0 → Op.cmpValue (FP.dcmp (FP.f2d (FP.fdiv (FP.i2f (nI a)) (FP.i2f (nI b)))) (FP.f2d (FP.fdiv (FP.i2f (nI a)) (FP.i2f (nI b))))) .l = 0 := by decide +kernel
theorem d2_eq : ∀ a, a < 11 → ∀ b, b < 11 → b ≠ 0 → Op.cmpValue (FP.dcmp (FP.ddiv (FP.i2d (nI a)) (FP.i2d (nI b))) (FP.ddiv (FP.i2d (nI a)) (FP.i2d (nI b)))) .l = 0 := by decide +kernel
theorem ns_f2 {n : Nat} {B : Nat → Nat → Nat} (hB : Bok n B) (h : s_sl B n ≠ 0) : vf_n64 (FP.f2d (s_ns n B)) := f2_all _ (by have := s_tk_le hB; omega) _ (by have := s_sl_80 hB; omega) h
theorem ns_eq {n : Nat} {B : Nat → Nat → Nat} (hB : Bok n B) (h : s_sl B n ≠ 0) : Op.cmpValue (FP.dcmp (FP.f2d (s_ns n B)) (FP.f2d (s_ns n B))) .l = 0 := f2_eq _ (by have := s_tk_le hB; omega) _ (by have := s_sl_80 hB; omega) h
theorem mz_eq {n : Nat} {B : Nat → Nat → Nat} (hB : Bok n B) (h : n ≠ 0) : Op.cmpValue (FP.dcmp (s_mz n B) (s_mz n B)) .l = 0 := d2_eq _ (by have := hB.1; omega) _ (by have := hB.1; have := heads_le n B; omega) (fun q => h ((heads_0 hB).mp q))
