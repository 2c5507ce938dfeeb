/-! the pure facts of arrive -/
theorem ar_dated {f : Nat → Nat} {n w v : Nat} : s_dated (va_up f n v) w n = s_dated f w n := by
  have key : ∀ k, k ≤ n → s_dated (va_up f n v) w k = s_dated f w k := by
    intro k
    induction k with
    | zero => intro _; rfl
    | succ k ih =>
      intro h
      simp only [s_dated]
      rw [ih (by omega), show va_up f n v k = f k from if_neg (by omega)]
  exact key n (Nat.le_refl n)
theorem b_up_ne {B : Nat → Nat → Nat} {a i v x : Nat} (h : x ≠ a) : b_up B a i v x = B x := by unfold b_up; rw [if_neg h]
theorem b_up_eq {B : Nat → Nat → Nat} {a i v : Nat} : b_up B a i v a = va_up (B a) i v := by unfold b_up; rw [if_pos rfl]
theorem ar_0 {n d a t r : Nat} {B : Nat → Nat → Nat} : (b_up (b_up (b_up (b_up B 0 n d) 1 n a) 2 n t) 3 n r) 0 = va_up (B 0) n d := by
  rw [b_up_ne (by decide), b_up_ne (by decide), b_up_ne (by decide), b_up_eq]
theorem ar_3 {n d a t r : Nat} {B : Nat → Nat → Nat} : (b_up (b_up (b_up (b_up B 0 n d) 1 n a) 2 n t) 3 n r) 3 = va_up (B 3) n r := by
  rw [b_up_eq, b_up_ne (by decide), b_up_ne (by decide), b_up_ne (by decide)]
theorem ar_x {n d a t r x : Nat} {B : Nat → Nat → Nat} (h : 4 ≤ x) : (b_up (b_up (b_up (b_up B 0 n d) 1 n a) 2 n t) 3 n r) x = B x := by
  rw [b_up_ne (by omega), b_up_ne (by omega), b_up_ne (by omega), b_up_ne (by omega)]
theorem ar_par {n d a t r u : Nat} {B : Nat → Nat → Nat} (hB : Bok n B) (hd : s_dated (B 0) d n = none) (hu : u < n) : s_par (n + 1) (b_up (b_up (b_up (b_up B 0 n d) 1 n a) 2 n t) 3 n r) u = if s_par n B u = none ∧ ¬ B 3 u = 0 ∧ d = B 3 u then some n else s_par n B u := by
  unfold s_par
  rw [ar_3, ar_0, show va_up (B 3) n r u = B 3 u from if_neg (by omega)]
  by_cases h0 : B 3 u = 0
  · rw [if_pos h0, if_pos h0, if_neg (by simp [h0])]
  · rw [if_neg h0, if_neg h0]
    show (if va_up (B 0) n d n = B 3 u then some n else s_dated (va_up (B 0) n d) (B 3 u) n) = _
    rw [ar_dated, show va_up (B 0) n d n = d from if_pos rfl]
    by_cases h1 : d = B 3 u
    · rw [if_pos h1, if_pos ⟨by rw [← h1]; exact hd, h0, h1⟩]
    · rw [if_neg h1, if_neg (fun q => h1 q.2.2)]
theorem ar_QA {n d a t r : Nat} {B : Nat → Nat → Nat} {Q : Nat → Option Nat} (hB : Bok n B) (hd : s_dated (B 0) d n = none) (hQ : QA n B Q) : QA (n + 1) (b_up (b_up (b_up (b_up B 0 n d) 1 n a) 2 n t) 3 n r) Q := by
  intro x hx
  rw [hQ x hx]
  generalize hB' : (b_up (b_up (b_up (b_up B 0 n d) 1 n a) 2 n t) 3 n r) = B'
  have h4 : B' 4 = B 4 := by rw [← hB']; exact ar_x (by decide)
  have h5 : B' 5 = B 5 := by rw [← hB']; exact ar_x (by decide)
  have h6 : B' 6 = B 6 := by rw [← hB']; exact ar_x (by decide)
  unfold s_q
  have hln : s_ln B' x = s_ln B x := by unfold s_ln; rw [h4]
  rw [hln]
  by_cases hl : s_ln B x = true
  · rw [if_pos hl, if_pos hl]
    have hu := (s_ln_t hB hl).1
    have hp := ar_par (a := a) (t := t) (r := r) hB hd hu
    rw [hB'] at hp
    by_cases hc : s_par n B (x / 8) = none ∧ ¬ B 3 (x / 8) = 0 ∧ d = B 3 (x / 8)
    · rw [if_pos hc] at hp
      have e1 : s_pa (n + 1) B' (x / 8) (x % 8) = none := by
        cases hq : s_pa (n + 1) B' (x / 8) (x % 8) with
        | none => rfl
        | some j =>
          obtain ⟨q, q1, q2, q3, -⟩ := s_pa_some hq
          rw [hp] at q1
          cases q1
          rw [h4, hB.2.2.2.2.2.2 _ (Nat.le_refl _)] at q3
          omega
      rw [e1, s_pa_np hc.1]
    · rw [if_neg hc] at hp
      have e1 : s_pa (n + 1) B' (x / 8) (x % 8) = s_pa n B (x / 8) (x % 8) := by
        unfold s_pa
        have e2 : s_f (n + 1) B' (x / 8) = s_f n B (x / 8) := by
          unfold s_f s_fits
          rw [hp, h5, h6]
        have e3 : s_col (n + 1) B' (x / 8) = s_col n B (x / 8) := by
          unfold s_col
          rw [hp, h4]
        rw [e2, e3, h4]
      rw [e1, hp]
  · rw [if_neg hl, if_neg hl]
theorem ar_Bok {n d a t r : Nat} {B : Nat → Nat → Nat} (hB : Bok n B) (hn : n < 10) (hd : s_dated (B 0) d n = none) (h1 : d ≤ 99) (h2 : a ≤ 99) (h3 : t ≤ 99) (h4 : r < d) : Bok (n + 1) (b_up (b_up (b_up (b_up B 0 n d) 1 n a) 2 n t) 3 n r) := by
  refine ⟨by omega, fun i j => ?_, fun m => ?_, fun m hm => ?_, fun i j hi hj => ?_, fun q => ?_, fun m hm => ?_⟩
  · have := hB.2.1 i j
    simp only [b_up_at]
    repeat' split
    all_goals omega
  · rw [ar_x (by decide)]; exact hB.2.2.1 m
  · rw [ar_3, ar_0]
    unfold va_up
    by_cases q : m = n
    · rw [if_pos q, if_pos q]; exact h4
    · rw [if_neg q, if_neg q]; exact hB.2.2.2.1 m (by omega)
  · rw [ar_0]
    unfold va_up
    rw [if_neg (show ¬ i = n by omega)]
    by_cases q : j = n
    · rw [if_pos q]
      intro z
      rw [s_dated_at hB.2.2.2.2.1 (show i < n by omega) z] at hd
      cases hd
    · rw [if_neg q]
      exact hB.2.2.2.2.1 i j hi (by omega)
  · rw [ar_x (by decide)]; exact hB.2.2.2.2.2.1 q
  · rw [ar_x (by decide)]; exact hB.2.2.2.2.2.2 m (by omega)
theorem ar_all {n : Nat} {B : Nat → Nat → Nat} {Q : Nat → Option Nat} (hB : Bok n B) (hQ : QA n B Q) (d a t r : Int32) : Bok (s_arn n B d a t r) (s_arB n B d a t r) ∧ QA (s_arn n B d a t r) (s_arB n B d a t r) Q := by
  unfold s_arn s_arB
  by_cases h0 : s_arc n B d a t r = 0
  · rw [if_pos h0, if_pos h0]
    unfold s_arc at h0
    by_cases g1 : s_in d (nI 1) (nI 99) = true
    · rw [if_pos g1] at h0
      by_cases g2 : s_in a (nI 0) (nI 5) = true
      · rw [if_pos g2] at h0
        by_cases g3 : s_in t (nI 0) (nI 9) = true
        · rw [if_pos g3] at h0
          by_cases g4 : s_in r (nI 0) (nI (d.toNatClampNeg - 1)) = true
          · rw [if_pos g4] at h0
            by_cases g5 : s_dated (B 0) d.toNatClampNeg n = none
            · rw [if_pos g5] at h0
              by_cases g6 : n = 10
              · rw [if_pos g6] at h0; cases h0
              · obtain ⟨d', d1, d2, rfl⟩ := s_in_n (by decide) g1
                obtain ⟨a', a1, a2, rfl⟩ := s_in_n (by decide) g2
                obtain ⟨t', t1, t2, rfl⟩ := s_in_n (by decide) g3
                obtain ⟨r', r1, r2, rfl⟩ := s_in_n (by decide) g4
                rw [nI_clamp (show d' < 2 ^ 31 by omega)] at g5 r2 ⊢
                rw [nI_clamp (show a' < 2 ^ 31 by omega), nI_clamp (show t' < 2 ^ 31 by omega), nI_clamp (show r' < 2 ^ 31 by omega)]
                have := hB.1
                exact ⟨ar_Bok hB (by omega) g5 (by omega) (by omega) (by omega) (by omega), ar_QA hB g5 hQ⟩
            · rw [if_neg g5] at h0; cases h0
          · rw [if_neg g4] at h0; cases h0
        · rw [if_neg g3] at h0; cases h0
      · rw [if_neg g2] at h0; cases h0
    · rw [if_neg g1] at h0; cases h0
  · rw [if_neg h0, if_neg h0]
    exact ⟨hB, hQ⟩
