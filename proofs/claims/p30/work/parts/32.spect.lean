/-! the two shares -/
theorem f_top {p : Program} {l : Launch} {e : Env} {R : Room} {s : State} {m : MethodId} {args : Array Value} {below : List Frame} {meth : Method} {c : Code} {H : Heap} {locs : List Loc} {cells slots : Nat} {Q : State → Prop} {pc : Nat} {ls : Array Slot} {rest : List Value} {x y : UInt32} (h : x = y) (k : W p l e R s m args below meth c H locs cells slots Q (F0 m pc ls (.float y :: rest))) : W p l e R s m args below meth c H locs cells slots Q (F0 m pc ls (.float x :: rest)) := h ▸ k
theorem d_top {p : Program} {l : Launch} {e : Env} {R : Room} {s : State} {m : MethodId} {args : Array Value} {below : List Frame} {meth : Method} {c : Code} {H : Heap} {locs : List Loc} {cells slots : Nat} {Q : State → Prop} {pc : Nat} {ls : Array Slot} {rest : List Value} {x y : UInt64} (h : x = y) (k : W p l e R s m args below meth c H locs cells slots Q (F0 m pc ls (.double y :: rest))) : W p l e R s m args below meth c H locs cells slots Q (F0 m pc ls (.double x :: rest)) := h ▸ k
theorem fq_all : ∀ a, a < 81 → ∀ b, b < 81 → b ≠ 0 → FP.fdiv (FP.i2f (nI a)) (FP.i2f (nI b)) &&& 0x7fffffff ≤ 0x7f800000 := by decide +kernel
theorem dq_all : ∀ a, a < 11 → ∀ b, b < 11 → b ≠ 0 → FP.ddiv (FP.i2d (nI a)) (FP.i2d (nI b)) &&& 0x7fffffffffffffff ≤ 0x7ff0000000000000 := by decide +kernel
def s_ns (n : Nat) (B : Nat → Nat → Nat) : UInt32 := FP.fdiv (FP.i2f (nI (s_tk n B))) (FP.i2f (nI (s_sl B n)))
def s_mz (n : Nat) (B : Nat → Nat → Nat) : UInt64 := FP.ddiv (FP.i2d (nI n)) (FP.i2d (nI (s_heads n B)))
theorem s_tk_le {n : Nat} {B : Nat → Nat → Nat} (hB : Bok n B) : s_tk n B ≤ 80 := by
  rw [← s_tl8_s hB]
  exact ct_le _ 80
theorem s_sl_80 {n : Nat} {B : Nat → Nat → Nat} (hB : Bok n B) : s_sl B n ≤ 80 := by
  have h1 := s_sl_le hB.2.2.1 n
  have h2 := hB.1
  omega
theorem ns_ok {n : Nat} {B : Nat → Nat → Nat} (hB : Bok n B) (h : s_sl B n ≠ 0) : vf_n32 (FP.fdiv (FP.i2f (nI (s_tk n B))) (FP.i2f (nI (s_sl B n)))) := fq_all _ (by have := s_tk_le hB; omega) _ (by have := s_sl_80 hB; omega) h
theorem heads_le (n : Nat) (B : Nat → Nat → Nat) : s_heads n B ≤ n := ct_le _ n
theorem root_root {n : Nat} {B : Nat → Nat → Nat} (hB : Bok n B) : ∀ k m, m < n → B 0 m < k → s_root n B (s_root n B m) = s_root n B m
  | 0, _, _, h => absurd h (Nat.not_lt_zero _)
  | k + 1, m, hm, h => by
    cases hp : s_pit n B m with
    | none =>
      have e : s_root n B m = m := s_rt_none hp
      rw [e, e]
    | some q =>
      have h1 := s_pit_B hB hm hp
      rw [s_root_s hB hm hp]
      exact root_root hB k q h1.1 (by omega)
theorem ct_pos {p : Nat → Bool} {j : Nat} (h : p j = true) : ∀ n, j < n → 0 < ct p n
  | 0, hj => absurd hj (Nat.not_lt_zero _)
  | n + 1, hj => by
    rcases Nat.lt_or_ge j n with r | r
    · have := ct_pos h n r
      simp only [ct]
      omega
    · rw [show n = j from by omega, ct_t h]
      omega
theorem heads_0 {n : Nat} {B : Nat → Nat → Nat} (hB : Bok n B) : s_heads n B = 0 ↔ n = 0 := by
  constructor
  · intro h
    rcases Nat.eq_zero_or_pos n with q | q
    · exact q
    · have h1 : s_root n B 0 < n := s_rt_lt q
      have h2 := root_root hB (B 0 0 + 1) 0 q (Nat.lt_succ_self _)
      have h3 : 0 < s_heads n B := ct_pos (j := s_root n B 0) (by rw [h2]; exact decide_eq_true rfl) n h1
      omega
  · intro h
    subst h
    rfl
theorem mz_ok {n : Nat} {B : Nat → Nat → Nat} (hB : Bok n B) (h : n ≠ 0) : vf_n64 (FP.ddiv (FP.i2d (nI n)) (FP.i2d (nI (s_heads n B)))) := dq_all _ (by have := hB.1; omega) _ (by have := hB.1; have := heads_le n B; omega) (fun q => h ((heads_0 hB).mp q))
