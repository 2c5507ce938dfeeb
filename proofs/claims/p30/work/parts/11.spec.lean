/-! what the mail box says, over naturals: n mails; B 0 dates, B 1 authors, B 2 subjects, B 3 answered, B 4 lines, B 5 marks, B 6 words -/
def Bok (n : Nat) (B : Nat → Nat → Nat) : Prop := n ≤ 10 ∧ (∀ i j, B i j ≤ 99) ∧ (∀ m, B 4 m ≤ 8) ∧ (∀ m, m < n → B 3 m < B 0 m) ∧ (∀ i j, i < j → j < n → B 0 i ≠ B 0 j) ∧ (∀ p, B 5 p ≤ 3) ∧ (∀ m, n ≤ m → B 4 m = 0)
/-- the box with one number written anew -/
def b_up (B : Nat → Nat → Nat) (a i v : Nat) : Nat → Nat → Nat := fun x => if x = a then va_up (B a) i v else B x
def an (p : Nat → Bool) : Nat → Bool
  | 0 => false
  | k + 1 => an p k || p k
def ct (p : Nat → Bool) : Nat → Nat
  | 0 => 0
  | k + 1 => ct p k + if p k then 1 else 0
theorem ct_t {p : Nat → Bool} {k : Nat} (h : p k = true) : ct p (k + 1) = ct p k + 1 := by simp [ct, h]
theorem ct_f {p : Nat → Bool} {k : Nat} (h : p k = false) : ct p (k + 1) = ct p k := by simp [ct, h]
theorem ct_le (p : Nat → Bool) : ∀ k, ct p k ≤ k
  | 0 => Nat.le_refl 0
  | k + 1 => by
    have h := ct_le p k
    simp only [ct]
    split <;> omega
def s_dated (f : Nat → Nat) (w : Nat) : Nat → Option Nat
  | 0 => none
  | m + 1 => if f m = w then some m else s_dated f w m
theorem s_dated_lt {f : Nat → Nat} {w : Nat} : ∀ {n k : Nat}, s_dated f w n = some k → k < n ∧ f k = w
  | 0, k, h => by simp [s_dated] at h
  | n + 1, k, h => by
    simp only [s_dated] at h
    split at h
    · cases h; exact ⟨Nat.lt_succ_self _, by assumption⟩
    · have := s_dated_lt h; exact ⟨by omega, this.2⟩
theorem s_dated_b {f : Nat → Nat} {w n : Nat} (hn : n ≤ 10) : ∀ k, s_dated f w n = some k → k < 2 ^ 31 := fun k h => by have := (s_dated_lt h).1; omega
def s_par (n : Nat) (B : Nat → Nat → Nat) (m : Nat) : Option Nat := if B 3 m = 0 then none else s_dated (B 0) (B 3 m) n
theorem s_par_lt {n : Nat} {B : Nat → Nat → Nat} {m k : Nat} (h : s_par n B m = some k) : k < n ∧ B 0 k = B 3 m := by
  unfold s_par at h
  split at h
  · cases h
  · exact s_dated_lt h
theorem s_par_b {n : Nat} {B : Nat → Nat → Nat} (hn : n ≤ 10) {m : Nat} : ∀ k, s_par n B m = some k → k < 2 ^ 31 := fun k h => by have := (s_par_lt h).1; omega
def s_fits (B : Nat → Nat → Nat) (a b : Nat) : Bool := decide (0 < B 5 a) && (decide (B 6 a = B 6 b) && decide (B 5 a = B 5 b + 1))
/-- the most partners of the lines from i on among the parent's from j on, by rows: r lines are left, c columns -/
def s_in2 (f : Nat → Bool) (nx : Nat → Nat) (C : Nat) : Nat → Nat
  | 0 => 0
  | c + 1 => max (if f (C - (c + 1)) then 1 + nx (C - (c + 1) + 1) else 0) (max (nx (C - (c + 1))) (s_in2 f nx C c))
def s_rw (f : Nat → Nat → Bool) (R C : Nat) : Nat → Nat → Nat
  | 0 => fun _ => 0
  | r + 1 => fun j => s_in2 (f (R - (r + 1))) (s_rw f R C r) C (C - j)
def s_L (f : Nat → Nat → Bool) (R C i j : Nat) : Nat := s_rw f R C (R - i) j
theorem s_L_R {f : Nat → Nat → Bool} {R C i j : Nat} (h : R ≤ i) : s_L f R C i j = 0 := by
  unfold s_L
  rw [Nat.sub_eq_zero_of_le h]; rfl
theorem s_L_C {f : Nat → Nat → Bool} {R C i j : Nat} (h : C ≤ j) : s_L f R C i j = 0 := by
  unfold s_L
  cases R - i with
  | zero => rfl
  | succ r => show s_in2 _ _ C (C - j) = 0; rw [Nat.sub_eq_zero_of_le h]; rfl
theorem s_L_s {f : Nat → Nat → Bool} {R C i j : Nat} (hi : i < R) (hj : j < C) : s_L f R C i j = max (if f i j then 1 + s_L f R C (i + 1) (j + 1) else 0) (max (s_L f R C (i + 1) j) (s_L f R C i (j + 1))) := by
  unfold s_L
  obtain ⟨r, hr⟩ : ∃ r, R - i = r + 1 := ⟨R - i - 1, by omega⟩
  obtain ⟨c, hc⟩ : ∃ c, C - j = c + 1 := ⟨C - j - 1, by omega⟩
  have h1 : R - (i + 1) = r := by omega
  have h2 : R - (r + 1) = i := by omega
  have h3 : C - (c + 1) = j := by omega
  have h4 : C - (j + 1) = c := by omega
  rw [h1, hr]
  show s_in2 (f (R - (r + 1))) (s_rw f R C r) C (C - j) = max _ (max _ (s_in2 (f (R - (r + 1))) (s_rw f R C r) C (C - (j + 1))))
  rw [hc, h4, h2]
  show max (if f i (C - (c + 1)) then 1 + s_rw f R C r (C - (c + 1) + 1) else 0) (max (s_rw f R C r (C - (c + 1))) (s_in2 (f i) (s_rw f R C r) C c)) = _
  rw [h3]
theorem s_L_le {f : Nat → Nat → Bool} {R C : Nat} : ∀ (r i j : Nat), R - i = r → s_L f R C i j ≤ r
  | 0, i, j, h => by rw [s_L_R (by omega)]; exact Nat.le_refl 0
  | r + 1, i, j, h => by
    obtain ⟨c, hc⟩ : ∃ c, C - j = c := ⟨_, rfl⟩
    induction c generalizing j with
    | zero => rw [s_L_C (by omega)]; exact Nat.zero_le _
    | succ c ih =>
      rw [s_L_s (by omega) (by omega)]
      have a1 := s_L_le (f := f) (R := R) (C := C) r (i + 1) (j + 1) (by omega)
      have a2 := s_L_le (f := f) (R := R) (C := C) r (i + 1) j (by omega)
      have a3 := ih (j + 1) (by omega)
      split <;> omega
/-- the first number from a on, among so many, of which p holds -/
def s_fst (p : Nat → Bool) (a : Nat) : Nat → Option Nat
  | 0 => none
  | c + 1 => match s_fst p a c with
    | some x => some x
    | none => if p (a + c) then some (a + c) else none
theorem s_fst_some {p : Nat → Bool} {a x : Nat} : ∀ {c : Nat}, s_fst p a c = some x → a ≤ x ∧ x < a + c ∧ p x = true
  | 0, h => by cases h
  | c + 1, h => by
    simp only [s_fst] at h
    cases hq : s_fst p a c with
    | some y =>
      rw [hq] at h; cases h
      have := s_fst_some hq
      exact ⟨this.1, by omega, this.2.2⟩
    | none =>
      rw [hq] at h
      simp only at h
      split at h
      · cases h; exact ⟨by omega, by omega, by assumption⟩
      · cases h
theorem s_fst_more {p : Nat → Bool} {a x c : Nat} (h : s_fst p a c = some x) : ∀ d, s_fst p a (c + d) = some x
  | 0 => h
  | d + 1 => by
    show (match s_fst p a (c + d) with | some x => some x | none => if p (a + (c + d)) then some (a + (c + d)) else none) = some x
    rw [s_fst_more h d]
def s_hit (f : Nat → Nat → Bool) (R C i a j : Nat) : Bool := f i j && decide (1 + s_L f R C (i + 1) (j + 1) = s_L f R C i a)
def s_pt (f : Nat → Nat → Bool) (R C i a : Nat) : Option Nat := s_fst (s_hit f R C i a) a (C - a)
def s_frm (f : Nat → Nat → Bool) (R C : Nat) : Nat → Nat
  | 0 => 0
  | i + 1 => match s_pt f R C i (s_frm f R C i) with
    | none => s_frm f R C i
    | some x => x + 1
theorem s_pt_some {f : Nat → Nat → Bool} {R C i a x : Nat} (h : s_pt f R C i a = some x) : a ≤ x ∧ x < C ∧ f i x = true := by
  have := s_fst_some h
  refine ⟨this.1, by omega, ?_⟩
  have h2 := this.2.2
  unfold s_hit at h2
  exact (Bool.and_eq_true_iff.mp h2).1
theorem s_frm_le {f : Nat → Nat → Bool} {R C : Nat} : ∀ i, s_frm f R C i ≤ C
  | 0 => Nat.zero_le _
  | i + 1 => by
    unfold s_frm
    cases h : s_pt f R C i (s_frm f R C i) with
    | none => exact s_frm_le i
    | some x => exact (s_pt_some h).2.1
def s_f (n : Nat) (B : Nat → Nat → Nat) (u : Nat) : Nat → Nat → Bool := fun i j => s_fits B (8 * u + i) (8 * (s_par n B u).getD 0 + j)
def s_col (n : Nat) (B : Nat → Nat → Nat) (u : Nat) : Nat := match s_par n B u with
  | none => 0
  | some q => B 4 q
theorem s_col_le {n : Nat} {B : Nat → Nat → Nat} (h : ∀ m, B 4 m ≤ 8) (u : Nat) : s_col n B u ≤ 8 := by
  unfold s_col
  split
  · omega
  · exact h _
/-- the partner of a line: the number of the parent's line -/
def s_pa (n : Nat) (B : Nat → Nat → Nat) (u i : Nat) : Option Nat := s_pt (s_f n B u) (B 4 u) (s_col n B u) i (s_frm (s_f n B u) (B 4 u) (s_col n B u) i)
def PA (n : Nat) (B : Nat → Nat → Nat) (P : Nat → Option Nat) : Prop := ∀ u i, u < n → i < B 4 u → P (8 * u + i) = s_pa n B u i
theorem s_pa_some {n : Nat} {B : Nat → Nat → Nat} {u i j : Nat} (h : s_pa n B u i = some j) : ∃ q, s_par n B u = some q ∧ q < n ∧ j < B 4 q ∧ B 5 (8 * q + j) + 1 = B 5 (8 * u + i) ∧ B 6 (8 * q + j) = B 6 (8 * u + i) := by
  have h1 := s_pt_some h
  unfold s_col at h1
  cases hp : s_par n B u with
  | none => rw [hp] at h1; exact absurd h1.2.1 (Nat.not_lt_zero _)
  | some q =>
    rw [hp] at h1
    have h2 := h1.2.2
    unfold s_f s_fits at h2
    rw [hp] at h2
    simp at h2
    exact ⟨q, rfl, (s_par_lt hp).1, h1.2.1, h2.2.2.symm, h2.2.1.symm⟩
theorem s_pa_b {n : Nat} {B : Nat → Nat → Nat} (h : ∀ m, B 4 m ≤ 8) {u i : Nat} : ∀ k, s_pa n B u i = some k → k < 2 ^ 31 := fun k hk => by
  obtain ⟨q, -, -, h2, -⟩ := s_pa_some hk
  have := h q
  omega
def s_tl (B : Nat → Nat → Nat) (a b k : Nat) : Bool := decide (B 5 (8 * a + B 4 a - k) = 0) && (decide (B 5 (8 * b + B 4 b - k) = 0) && decide (B 6 (8 * a + B 4 a - k) = B 6 (8 * b + B 4 b - k)))
def s_eq (B : Nat → Nat → Nat) (a b : Nat) : Nat → Bool
  | 0 => true
  | k + 1 => s_eq B a b k && s_tl B a b (k + 1)
theorem s_eq_mono {B : Nat → Nat → Nat} {a b : Nat} : ∀ {j k : Nat}, j ≤ k → s_eq B a b j = false → s_eq B a b k = false
  | j, 0, h, q => by
    have : j = 0 := by omega
    rw [this] at q; exact q
  | j, k + 1, h, q => by
    rcases Nat.lt_or_ge j (k + 1) with r | r
    · simp only [s_eq, s_eq_mono (Nat.le_of_lt_succ r) q, Bool.false_and]
    · have : j = k + 1 := by omega
      rw [this] at q; exact q
def s_ea (B : Nat → Nat → Nat) (a b n : Nat) : Bool := (decide (n ≤ B 4 a) && decide (n ≤ B 4 b)) && s_eq B a b n
def s_sgp (B : Nat → Nat → Nat) (a k m : Nat) : Bool := (decide (¬ m = a) && decide (B 1 m = B 1 a)) && s_ea B a m k
def s_sgN (n : Nat) (B : Nat → Nat → Nat) (a : Nat) : Nat → Nat
  | 0 => 0
  | k + 1 => if an (s_sgp B a (k + 1)) n then k + 1 else s_sgN n B a k
theorem s_sgN_le (n : Nat) (B : Nat → Nat → Nat) (a : Nat) : ∀ k, s_sgN n B a k ≤ k
  | 0 => Nat.le_refl 0
  | k + 1 => by
    have h := s_sgN_le n B a k
    simp only [s_sgN]
    split <;> omega
def s_sig (n : Nat) (B : Nat → Nat → Nat) (a : Nat) : Nat := s_sgN n B a 3
def s_sbk (B : Nat → Nat → Nat) (a i m k : Nat) : Bool := decide (B 5 (8 * m + k) = 1) && decide (B 6 (8 * m + k) = B 6 (8 * a + i))
def s_lim (B : Nat → Nat → Nat) (a i m : Nat) : Nat := if m = a then i else B 4 m
theorem s_lim_le {n : Nat} {B : Nat → Nat → Nat} (hB : Bok n B) {a i : Nat} (h : i < B 4 a) (m : Nat) : s_lim B a i m ≤ B 4 m ∧ s_lim B a i m ≤ 8 := by
  have h1 := hB.2.2.1 m
  unfold s_lim
  split
  · rename_i q; subst q; omega
  · omega
def s_sbm (B : Nat → Nat → Nat) (a i m : Nat) : Bool := (decide (B 3 m = B 3 a) && decide (B 0 m ≤ B 0 a)) && an (s_sbk B a i m) (s_lim B a i m)
def s_sb (n : Nat) (B : Nat → Nat → Nat) (a i : Nat) : Bool := an (s_sbm B a i) n
theorem s_ea_d {x a b : Nat} {y : Bool} (h : ((decide (x ≤ a) && decide (x ≤ b)) && y) = true) : x ≤ a ∧ x ≤ b ∧ y = true := by
  simp at h
  exact ⟨h.1.1, h.1.2, h.2⟩
theorem s_ea_fb {B : Nat → Nat → Nat} {u w x z : Nat} (h : ((decide (x ≤ B 4 u) && decide (x ≤ B 4 w)) && s_eq B u w z) = false) (hz : z ≤ x) : bI ((decide (x ≤ B 4 u) && decide (x ≤ B 4 w)) && s_eq B u w z) = bI (s_ea B u w x) := by
  rw [h]
  congr 1
  unfold s_ea
  cases hD : (decide (x ≤ B 4 u) && decide (x ≤ B 4 w)) with
  | false => rfl
  | true =>
    rw [hD, Bool.true_and] at h
    rw [s_eq_mono hz h]; rfl
theorem an_some {p : Nat → Bool} : ∀ {k : Nat}, an p k = true → ∃ j, j < k ∧ p j = true
  | 0, h => by cases h
  | k + 1, h => by
    simp only [an, Bool.or_eq_true] at h
    rcases h with h | h
    · obtain ⟨j, h1, h2⟩ := an_some h; exact ⟨j, by omega, h2⟩
    · exact ⟨k, by omega, h⟩
theorem s_sgN_le2 (n : Nat) (B : Nat → Nat → Nat) (a : Nat) : ∀ k, s_sgN n B a k ≤ B 4 a
  | 0 => Nat.zero_le _
  | k + 1 => by
    simp only [s_sgN]
    split
    · rename_i h
      obtain ⟨j, -, h2⟩ := an_some h
      unfold s_sgp s_ea at h2
      simp at h2
      exact h2.2.1.1
    · exact s_sgN_le2 n B a k
theorem s_sig_le (n : Nat) (B : Nat → Nat → Nat) (a : Nat) : s_sig n B a ≤ B 4 a := s_sgN_le2 n B a 3
/-- a line's kind as a character: s 115, n 110, q 113, x 120, d 100, r 114 -/
def s_knd (n : Nat) (B : Nat → Nat → Nat) (a i : Nat) : Nat :=
  if B 5 (8 * a + i) = 0 then (if B 4 a - s_sig n B a ≤ i then 115 else 110)
  else if s_pa n B a i ≠ none then 113
  else if 1 < B 5 (8 * a + i) ∨ B 3 a = 0 ∨ s_par n B a ≠ none then 120
  else if s_sb n B a i then 100 else 114
theorem s_knd_b (n : Nat) (B : Nat → Nat → Nat) (a i : Nat) : s_knd n B a i ≤ 120 := by
  unfold s_knd
  repeat (first | omega | split)
/-- the place of a line's origin: eight times the mail, and the line; at most so many steps -/
def s_or (n : Nat) (B : Nat → Nat → Nat) : Nat → Nat → Nat → Nat
  | 0, m, i => 8 * m + i
  | k + 1, m, i => match s_pa n B m i with
    | none => 8 * m + i
    | some j => s_or n B k ((s_par n B m).getD 0) j
def s_org (n : Nat) (B : Nat → Nat → Nat) (m i : Nat) : Nat := s_or n B 4 m i
theorem s_or_lt {n : Nat} {B : Nat → Nat → Nat} (h8 : ∀ m, B 4 m ≤ 8) : ∀ {k m i : Nat}, m < n → i < B 4 m → s_or n B k m i < 8 * n
  | 0, m, i, hm, hi => by have := h8 m; unfold s_or; omega
  | k + 1, m, i, hm, hi => by
    unfold s_or
    cases hp : s_pa n B m i with
    | none => have := h8 m; show 8 * m + i < _; omega
    | some j =>
      obtain ⟨q, hq, h1, h2, -⟩ := s_pa_some hp
      show s_or n B k ((s_par n B m).getD 0) j < _
      rw [hq]
      exact s_or_lt h8 h1 h2
theorem s_or_step {n : Nat} {B : Nat → Nat → Nat} {X k z y j q : Nat} (h : X = s_or n B k z y) (h1 : s_pa n B z y = some j) (h2 : s_par n B z = some q) (h3 : 0 < k) : X = s_or n B (k - 1) q j := by
  obtain ⟨k', rfl⟩ : ∃ k', k = k' + 1 := ⟨k - 1, by omega⟩
  rw [h, Nat.add_sub_cancel]
  simp only [s_or, h1, h2, Option.getD_some]
theorem s_or_none {n : Nat} {B : Nat → Nat → Nat} {k z y : Nat} (h : s_pa n B z y = none) : s_or n B k z y = 8 * z + y := by
  cases k <;> simp only [s_or, h]
def s_talk (n : Nat) (B : Nat → Nat → Nat) (a i : Nat) : Bool := decide (s_knd n B a i = 110) || decide (s_knd n B a i = 114)
def s_an (n : Nat) (B : Nat → Nat → Nat) (a : Nat) : Nat → Option Nat
  | 0 => none
  | k + 1 => if s_knd n B a k = 113 then some (s_org n B a k) else s_an n B a k
theorem s_an_b {n : Nat} {B : Nat → Nat → Nat} (hB : Bok n B) {a : Nat} (ha : a < n) : ∀ {i : Nat}, i ≤ B 4 a → ∀ k, s_an n B a i = some k → k < 80
  | 0, _, k, h => by cases h
  | i + 1, hi, k, h => by
    unfold s_an at h
    split at h
    · cases h
      have := s_or_lt hB.2.2.1 (k := 4) ha (show i < B 4 a by omega)
      have := hB.1
      unfold s_org; omega
    · exact s_an_b hB ha (by omega) k h
def s_pit (n : Nat) (B : Nat → Nat → Nat) (m : Nat) : Option Nat := match s_par n B m with
  | none => none
  | some q => if B 2 q = B 2 m then some q else none
def s_rt (n : Nat) (B : Nat → Nat → Nat) : Nat → Nat → Nat
  | 0, m => m
  | k + 1, m => match s_pit n B m with
    | none => m
    | some q => s_rt n B k q
def s_root (n : Nat) (B : Nat → Nat → Nat) (m : Nat) : Nat := s_rt n B 100 m
theorem s_pit_lt {n : Nat} {B : Nat → Nat → Nat} {m q : Nat} (h : s_pit n B m = some q) : q < n ∧ B 0 q = B 3 m := by
  unfold s_pit at h
  cases hp : s_par n B m with
  | none => rw [hp] at h; cases h
  | some r =>
    rw [hp] at h
    by_cases hq : B 2 r = B 2 m
    · simp [hq] at h; cases h; exact s_par_lt hp
    · simp [hq] at h
theorem s_rt_lt {n : Nat} {B : Nat → Nat → Nat} : ∀ {k m : Nat}, m < n → s_rt n B k m < n
  | 0, m, h => h
  | k + 1, m, h => by
    unfold s_rt
    cases hp : s_pit n B m with
    | none => exact h
    | some q => exact s_rt_lt (s_pit_lt hp).1
theorem s_rt_step {n : Nat} {B : Nat → Nat → Nat} {X k z q : Nat} (h : X = s_rt n B k z) (h3 : 0 < k) (h1 : s_pit n B z = some q) : X = s_rt n B (k - 1) q := by
  obtain ⟨k', rfl⟩ : ∃ k', k = k' + 1 := ⟨k - 1, by omega⟩
  rw [h, Nat.add_sub_cancel]
  simp only [s_rt, h1]
theorem s_rt_none {n : Nat} {B : Nat → Nat → Nat} {k z : Nat} (h : s_pit n B z = none) : s_rt n B k z = z := by
  cases k <;> simp only [s_rt, h]
def s_heads (n : Nat) (B : Nat → Nat → Nat) : Nat := ct (fun m => decide (s_root n B m = m)) n
theorem oI_s (k : Nat) : oI (some k) = nI k := rfl
theorem bI_t : bI true = nI 1 := by decide +kernel
theorem bI_f : bI false = nI 0 := by decide +kernel
/-- the reference's world -/
abbrev wM (cI : ClassId) (ad : Nat → Nat) (th n : Nat) (B : Nat → Nat → Nat) (P : Nat → Option Nat) (bs : Nat → Nat) : va_W :=
  [(ad 0, .inr (4, [.int (nI th), .int (nI n), .ref (ad 1), .ref (ad 2), .ref (ad 3), .ref (ad 4), .ref (ad 5), .ref (ad 6), .ref (ad 7), .ref (ad 8), .ref (ad 9)])),
   (ad 1, .inl (cI, 10, .inl (fun k => nI (B 0 k)))), (ad 2, .inl (cI, 10, .inl (fun k => nI (B 1 k)))), (ad 3, .inl (cI, 10, .inl (fun k => nI (B 2 k)))), (ad 4, .inl (cI, 10, .inl (fun k => nI (B 3 k)))), (ad 5, .inl (cI, 10, .inl (fun k => nI (B 4 k)))),
   (ad 6, .inl (cI, 80, .inl (fun k => nI (B 5 k)))), (ad 7, .inl (cI, 80, .inl (fun k => nI (B 6 k)))), (ad 8, .inl (cI, 80, .inl (fun k => oI (P k)))), (ad 9, .inl (cI, 81, .inl (fun k => nI (bs k))))]
def s_in (v a b : Int32) : Bool := if v < a then false else if b < v then false else true
def s_ism (n : Nat) (v : Int32) : Bool := s_in v (nI 0) (nI n - 1)
def s_isl (n : Nat) (B : Nat → Nat → Nat) (v w : Int32) : Bool := s_ism n v && s_ism (B 4 v.toNatClampNeg) w
theorem s_ism_t {n : Nat} (hn : n ≤ 10) {v : Int32} (h : s_ism n v = true) : ∃ k, k < n ∧ v = nI k := by
  unfold s_ism s_in at h
  split at h
  · cases h
  · split at h
    · cases h
    · rename_i h1 h2
      rw [nI_0] at h1
      obtain ⟨k, hk, rfl⟩ := nI_of h1
      refine ⟨k, ?_, rfl⟩
      cases n with
      | zero => exact absurd (by
          show nI 0 - 1 < nI k
          rw [Int32.lt_iff_toInt_lt, nI_toInt hk, show (nI 0 - 1).toInt = -1 from by decide +kernel]
          omega) h2
      | succ n =>
        rw [nI_pred] at h2
        rcases Nat.lt_or_ge n k with q | q
        · exact absurd (nI_lt q hk) h2
        · omega
theorem s_ism_o {n k : Nat} (hn : n ≤ 10) (h : k < n) : s_ism n (nI k) = true := by
  unfold s_ism s_in
  rw [if_neg (by rw [nI_0]; exact nI_pos (by omega)), if_neg]
  cases n with
  | zero => omega
  | succ n => rw [nI_pred]; exact nI_nlt (by omega) (by omega)
theorem s_isl_o {n k : Nat} {B : Nat → Nat → Nat} (hn : n ≤ 10) (h : k < n) (w : Int32) : s_isl n B (nI k) w = s_ism (B 4 k) w := by
  unfold s_isl
  rw [s_ism_o hn h, nI_clamp (by omega), Bool.true_and]
theorem s_isl_t {n : Nat} {B : Nat → Nat → Nat} (hB : Bok n B) {v w : Int32} (h : s_isl n B v w = true) : ∃ k j, k < n ∧ j < B 4 k ∧ v = nI k ∧ w = nI j := by
  have h0 : s_ism n v = true := by
    unfold s_isl at h
    cases hq : s_ism n v with
    | false => rw [hq] at h; cases h
    | true => rfl
  obtain ⟨k, hk, rfl⟩ := s_ism_t hB.1 h0
  rw [s_isl_o hB.1 hk] at h
  obtain ⟨j, hj, rfl⟩ := s_ism_t (Nat.le_trans (hB.2.2.1 k) (by decide)) h
  exact ⟨k, j, hk, hj, rfl, rfl⟩
/-- what a call answers: 0 and a number, or the place of its exception -/
def s_lines (n : Nat) (B : Nat → Nat → Nat) (u : Int32) : Nat × Nat := if s_ism n u = true then (0, B 4 u.toNatClampNeg) else (1, 0)
def s_word (n : Nat) (B : Nat → Nat → Nat) (u w : Int32) : Nat × Nat := if s_isl n B u w = true then (0, B 6 (8 * u.toNatClampNeg + w.toNatClampNeg)) else (1, 0)
def s_ocode (c : Nat) (o : Option Nat) : Nat × Nat := match o with
  | none => (c, 0)
  | some q => (0, q)
def s_parent (n : Nat) (B : Nat → Nat → Nat) (u : Int32) : Nat × Nat := if s_ism n u = true then s_ocode 2 (s_par n B u.toNatClampNeg) else (1, 0)
def s_LL (n : Nat) (B : Nat → Nat → Nat) (u i j : Nat) : Nat := s_L (s_f n B u) (B 4 u) (s_col n B u) i j
theorem s_LL_le {n : Nat} {B : Nat → Nat → Nat} (h : ∀ m, B 4 m ≤ 8) (u i j : Nat) : s_LL n B u i j ≤ 8 := by
  have h1 := s_L_le (f := s_f n B u) (R := B 4 u) (C := s_col n B u) (B 4 u - i) i j rfl
  have h2 := h u
  unfold s_LL
  omega
theorem s_LL_s {n : Nat} {B : Nat → Nat → Nat} {u i j : Nat} (hi : i < B 4 u) (hj : j < s_col n B u) : s_LL n B u i j = max (if s_f n B u i j then 1 + s_LL n B u (i + 1) (j + 1) else 0) (max (s_LL n B u (i + 1) j) (s_LL n B u i (j + 1))) := s_L_s hi hj
theorem s_f_q {n : Nat} {B : Nat → Nat → Nat} {u q i j : Nat} (h : s_par n B u = some q) : s_f n B u i j = s_fits B (8 * u + i) (8 * q + j) := by
  unfold s_f
  rw [h]; rfl
theorem s_col_pos {n : Nat} {B : Nat → Nat → Nat} {u j : Nat} (h : j < s_col n B u) : ∃ q, s_par n B u = some q ∧ q < n ∧ s_col n B u = B 4 q := by
  unfold s_col at h ⊢
  cases hp : s_par n B u with
  | none => rw [hp] at h; exact absurd h (Nat.not_lt_zero _)
  | some q => exact ⟨q, rfl, (s_par_lt hp).1, rfl⟩
def s_tbO (n : Nat) (B : Nat → Nat → Nat) (u x : Nat) (b : Nat → Nat) : Prop := ∀ i j, i ≤ 8 → j ≤ 8 → b (9 * i + j) = if x ≤ i then s_LL n B u i j else 0
def s_tbI (n : Nat) (B : Nat → Nat → Nat) (u x y : Nat) (b : Nat → Nat) : Prop := ∀ i j, i ≤ 8 → j ≤ 8 → b (9 * i + j) = if x < i ∨ (i = x ∧ y ≤ j) then s_LL n B u i j else 0
theorem s_tbO_0 {n : Nat} {B : Nat → Nat → Nat} {u : Nat} {b : Nat → Nat} (h : ∀ j, j < 81 → b j = 0) : s_tbO n B u (B 4 u) b := by
  intro i j hi hj
  rw [h _ (by omega)]
  split
  · unfold s_LL; rw [s_L_R (by assumption)]
  · rfl
theorem s_tbO_I {n : Nat} {B : Nat → Nat → Nat} {u x : Nat} {b : Nat → Nat} (h : s_tbO n B u (x + 1) b) : s_tbI n B u x (s_col n B u) b := by
  intro i j hi hj
  rw [h i j hi hj]
  by_cases h1 : x + 1 ≤ i
  · rw [if_pos h1, if_pos (Or.inl (by omega))]
  · rw [if_neg h1]
    split
    · rename_i q
      rcases q with q | q
      · omega
      · unfold s_LL; rw [s_L_C q.2]
    · rfl
theorem s_tbI_O {n : Nat} {B : Nat → Nat → Nat} {u x : Nat} {b : Nat → Nat} (h : s_tbI n B u x 0 b) : s_tbO n B u x b := by
  intro i j hi hj
  rw [h i j hi hj]
  by_cases h1 : x ≤ i
  · rw [if_pos h1, if_pos (by omega)]
  · rw [if_neg h1, if_neg (by omega)]
theorem s_tbI_s {n : Nat} {B : Nat → Nat → Nat} {u x y : Nat} {b : Nat → Nat} (h : s_tbI n B u x (y + 1) b) (hx : x ≤ 8) (hy : y ≤ 8) : s_tbI n B u x y (va_up b (9 * x + y) (s_LL n B u x y)) := by
  intro i j hi hj
  unfold va_up
  by_cases h1 : 9 * i + j = 9 * x + y
  · have h2 : i = x := by omega
    have h3 : j = y := by omega
    subst h2; subst h3
    rw [if_pos rfl, if_pos (Or.inr ⟨rfl, Nat.le_refl _⟩)]
  · rw [if_neg h1, h i j hi hj]
    by_cases h2 : x < i ∨ (i = x ∧ y ≤ j)
    · rw [if_pos h2, if_pos (by omega)]
    · rw [if_neg h2, if_neg (by omega)]
theorem s_tbI_at {n : Nat} {B : Nat → Nat → Nat} {u x y i j : Nat} {b : Nat → Nat} (h : s_tbI n B u x y b) (hi : i ≤ 8) (hj : j ≤ 8) (q : x < i ∨ (i = x ∧ y ≤ j)) : b (9 * i + j) = s_LL n B u i j := by rw [h i j hi hj, if_pos q]
theorem s_tbO_at {n : Nat} {B : Nat → Nat → Nat} {u i j : Nat} {b : Nat → Nat} (h : s_tbO n B u 0 b) (hi : i ≤ 8) (hj : j ≤ 8) : b (9 * i + j) = s_LL n B u i j := by rw [h i j hi hj, if_pos (Nat.zero_le _)]
theorem up0 {f : Nat → Nat} {z : Nat} (h : ∀ j, j < z → f j = 0) : ∀ j, j < z + 1 → va_up f z 0 j = 0 := by
  intro j hj
  unfold va_up
  split
  · rfl
  · exact h j (by omega)
def s_fr (n : Nat) (B : Nat → Nat → Nat) (u z : Nat) : Nat := s_frm (s_f n B u) (B 4 u) (s_col n B u) z
theorem s_fr_le {n : Nat} {B : Nat → Nat → Nat} {u z : Nat} : s_fr n B u z ≤ s_col n B u := s_frm_le z
theorem s_fr_s {n : Nat} {B : Nat → Nat → Nat} {u z : Nat} : s_fr n B u (z + 1) = match s_pa n B u z with
  | none => s_fr n B u z
  | some x => x + 1 := rfl
def s_sr (n : Nat) (B : Nat → Nat → Nat) (u z y : Nat) : Option Nat := s_fst (s_hit (s_f n B u) (B 4 u) (s_col n B u) z (s_fr n B u z)) (s_fr n B u z) (y - s_fr n B u z)
theorem s_sr_0 {n : Nat} {B : Nat → Nat → Nat} {u z : Nat} : s_sr n B u z (s_fr n B u z) = none := by
  unfold s_sr
  rw [Nat.sub_self]; rfl
theorem s_sr_C {n : Nat} {B : Nat → Nat → Nat} {u z y : Nat} (h : y = s_col n B u) : s_sr n B u z y = s_pa n B u z := by
  subst h; rfl
theorem s_sr_k {n : Nat} {B : Nat → Nat → Nat} {u z y k : Nat} (h : s_sr n B u z y = some k) (h1 : y ≤ s_col n B u) (h2 : s_fr n B u z ≤ y) : s_pa n B u z = some k := by
  have := s_fst_more h (s_col n B u - y)
  rw [← s_sr_C rfl]
  unfold s_sr
  rw [show s_col n B u - s_fr n B u z = y - s_fr n B u z + (s_col n B u - y) from by omega]
  exact this
theorem s_hit_e {n : Nat} {B : Nat → Nat → Nat} {u z y q : Nat} (h : s_par n B u = some q) : s_hit (s_f n B u) (B 4 u) (s_col n B u) z (s_fr n B u z) y = (s_fits B (8 * u + z) (8 * q + y) && decide (1 + s_LL n B u (z + 1) (y + 1) = s_LL n B u z (s_fr n B u z))) := by
  unfold s_hit
  rw [s_f_q h]; rfl
theorem s_sr_s {n : Nat} {B : Nat → Nat → Nat} {u z y q : Nat} (h : s_sr n B u z y = none) (hq : s_par n B u = some q) (h2 : s_fr n B u z ≤ y) : s_sr n B u z (y + 1) = if (s_fits B (8 * u + z) (8 * q + y) && decide (1 + s_LL n B u (z + 1) (y + 1) = s_LL n B u z (s_fr n B u z))) = true then some y else none := by
  unfold s_sr at h ⊢
  rw [show y + 1 - s_fr n B u z = (y - s_fr n B u z) + 1 from by omega]
  show (match s_fst _ (s_fr n B u z) (y - s_fr n B u z) with | some x => some x | none => _) = _
  rw [h]
  rw [show s_fr n B u z + (y - s_fr n B u z) = y from by omega, s_hit_e hq]
def s_alk (n : Nat) (B : Nat → Nat → Nat) (u : Nat) (P : Nat → Option Nat) (z : Nat) : Nat → Option Nat := fun x => if 8 * u ≤ x ∧ x < 8 * u + z then s_pa n B u (x - 8 * u) else P x
def s_al (n : Nat) (B : Nat → Nat → Nat) (u : Nat) (P : Nat → Option Nat) : Nat → Option Nat := s_alk n B u P (B 4 u)
theorem s_alk_0 {n : Nat} {B : Nat → Nat → Nat} {u : Nat} {P : Nat → Option Nat} : P = s_alk n B u P 0 := by
  funext x
  unfold s_alk
  rw [if_neg (by omega)]
theorem s_alk_s {n : Nat} {B : Nat → Nat → Nat} {u z : Nat} {P : Nat → Option Nat} : va_up (s_alk n B u P z) (8 * u + z) (s_pa n B u z) = s_alk n B u P (z + 1) := by
  funext x
  unfold s_alk va_up
  by_cases h : x = 8 * u + z
  · rw [if_pos h, if_pos (by omega), h, Nat.add_sub_cancel_left]
  · rw [if_neg h]
    show (if 8 * u ≤ x ∧ x < 8 * u + z then s_pa n B u (x - 8 * u) else P x) = _
    by_cases h2 : 8 * u ≤ x ∧ x < 8 * u + z
    · rw [if_pos h2, if_pos (by omega)]
    · rw [if_neg h2, if_neg (by omega)]
def s_alA (n : Nat) (B : Nat → Nat → Nat) (P : Nat → Option Nat) : Nat → Nat → Option Nat
  | 0 => P
  | k + 1 => s_al n B k (s_alA n B P k)
theorem s_al_in {n : Nat} {B : Nat → Nat → Nat} {u i : Nat} {P : Nat → Option Nat} (h : i < B 4 u) : s_al n B u P (8 * u + i) = s_pa n B u i := by
  unfold s_al s_alk
  rw [if_pos (by omega), Nat.add_sub_cancel_left]
theorem s_al_out {n : Nat} {B : Nat → Nat → Nat} {u x : Nat} {P : Nat → Option Nat} (h : ¬ (8 * u ≤ x ∧ x < 8 * u + B 4 u)) : s_al n B u P x = P x := by
  unfold s_al s_alk
  rw [if_neg h]
theorem s_alA_at {n : Nat} {B : Nat → Nat → Nat} {P : Nat → Option Nat} (h8 : ∀ m, B 4 m ≤ 8) : ∀ {k u i : Nat}, u < k → i < B 4 u → s_alA n B P k (8 * u + i) = s_pa n B u i
  | 0, u, i, h, _ => absurd h (Nat.not_lt_zero _)
  | k + 1, u, i, h, hi => by
    show s_al n B k (s_alA n B P k) (8 * u + i) = _
    have a1 := h8 u
    have a2 := h8 k
    by_cases hu : u = k
    · subst hu; exact s_al_in hi
    · rw [s_al_out (by omega)]
      exact s_alA_at h8 (by omega) hi
theorem s_alA_PA {n : Nat} {B : Nat → Nat → Nat} {P : Nat → Option Nat} (h8 : ∀ m, B 4 m ≤ 8) : PA n B (s_alA n B P n) := fun _ _ hu hi => s_alA_at h8 hu hi
def s_pr (n : Nat) (B : Nat → Nat → Nat) (u w : Int32) : Nat × Nat := if s_isl n B u w = true then s_ocode 2 (s_pa n B u.toNatClampNeg w.toNatClampNeg) else (1, 0)
def s_orc (n : Nat) (B : Nat → Nat → Nat) (u w : Int32) : Nat × Nat := if s_isl n B u w = true then (0, s_org n B u.toNatClampNeg w.toNatClampNeg) else (1, 0)
def s_kd (n : Nat) (B : Nat → Nat → Nat) (u w : Int32) : Nat × Nat := if s_isl n B u w = true then (0, s_knd n B u.toNatClampNeg w.toNatClampNeg) else (1, 97)
def s_sgc (n : Nat) (B : Nat → Nat → Nat) (u : Int32) : Nat × Nat := if s_ism n u = true then (0, s_sig n B u.toNatClampNeg) else (1, 0)
def s_ans (n : Nat) (B : Nat → Nat → Nat) (u w : Int32) : Nat × Nat := if s_isl n B u w = true then (if s_knd n B u.toNatClampNeg w.toNatClampNeg = 110 then s_ocode 3 (s_an n B u.toNatClampNeg w.toNatClampNeg) else (2, 0)) else (1, 0)
def sm (p : Nat → Nat → Bool) (c : Nat → Nat) : Nat → Nat
  | 0 => 0
  | z + 1 => sm p c z + ct (p z) (c z)
theorem sm_le {p : Nat → Nat → Bool} {c : Nat → Nat} (h : ∀ m, c m ≤ 8) : ∀ z, sm p c z ≤ 8 * z
  | 0 => Nat.le_refl 0
  | z + 1 => by
    have h1 := sm_le (p := p) h z
    have h2 := ct_le (p z) (c z)
    have h3 := h z
    show sm p c z + ct (p z) (c z) ≤ _
    omega
def s_anp (n : Nat) (B : Nat → Nat → Nat) (x m k : Nat) : Bool := decide (s_knd n B m k = 110) && decide (s_an n B m k = some x)
theorem s_ans_b {n : Nat} {B : Nat → Nat → Nat} (hB : Bok n B) {u w : Int32} : (s_ans n B u w).1 ≤ 3 ∧ (s_ans n B u w).2 < 80 ∧ (0 < (s_ans n B u w).1 → (s_ans n B u w).2 = 0) := by
  unfold s_ans
  split
  · rename_i h
    obtain ⟨k, j, hk, hj, rfl, rfl⟩ := s_isl_t hB h
    have h8 := hB.2.2.1 k
    have h10 := hB.1
    rw [nI_clamp (by omega), nI_clamp (by omega)]
    split
    · unfold s_ocode
      cases hq : s_an n B k j with
      | none => exact ⟨Nat.le_refl _, by decide, fun _ => rfl⟩
      | some q => exact ⟨Nat.zero_le _, s_an_b hB hk (by omega) q hq, fun h => absurd h (Nat.lt_irrefl 0)⟩
    · exact ⟨by decide, by decide, fun _ => rfl⟩
  · exact ⟨by decide, by decide, fun _ => rfl⟩
theorem s_nar {k : Nat} (h : k ≤ 65535) : narrow .char (.int (nI k)) = .int (nI k) := (pk_charN (by omega)).1
def s_asn (n : Nat) (B : Nat → Nat → Nat) (u w : Int32) : Nat × Nat := if s_isl n B u w = true then (0, sm (s_anp n B (8 * u.toNatClampNeg + w.toNatClampNeg)) (B 4) n) else (1, 0)
def s_tk (n : Nat) (B : Nat → Nat → Nat) : Nat := sm (s_talk n B) (B 4) n
def s_cpp (n : Nat) (B : Nat → Nat → Nat) (x m k : Nat) : Bool := decide (s_org n B m k = x)
def s_cop (n : Nat) (B : Nat → Nat → Nat) (u w : Int32) : Nat × Nat := if s_isl n B u w = true then (if s_talk n B u.toNatClampNeg w.toNatClampNeg = true then (0, sm (s_cpp n B (8 * u.toNatClampNeg + w.toNatClampNeg)) (B 4) n) else (2, 0)) else (1, 0)
def s_rtc (n : Nat) (B : Nat → Nat → Nat) (u : Int32) : Nat × Nat := if s_ism n u = true then (0, s_root n B u.toNatClampNeg) else (1, 0)
def s_szp (n : Nat) (B : Nat → Nat → Nat) (u m : Nat) : Bool := decide (s_root n B m = s_root n B u)
def s_sz (n : Nat) (B : Nat → Nat → Nat) (u : Int32) : Nat × Nat := if s_ism n u = true then (0, ct (s_szp n B u.toNatClampNeg) n) else (1, 0)
def s_alp (n : Nat) (B : Nat → Nat → Nat) (u k : Nat) : Bool := decide (¬ s_pa n B u k = none)
def s_alc (n : Nat) (B : Nat → Nat → Nat) (u : Int32) : Nat × Nat := if s_ism n u = true then (0, ct (s_alp n B u.toNatClampNeg) (B 4 u.toNatClampNeg)) else (1, 0)
def s_msa (B : Nat → Nat → Nat) (d m : Nat) : Bool := decide (B 3 m = d)
def s_msd (n : Nat) (B : Nat → Nat → Nat) (d : Nat) : Bool := an (s_msa B (d + 1)) n && decide (s_dated (B 0) (d + 1) n = none)
def s_ms (n : Nat) (B : Nat → Nat → Nat) : Nat := ct (s_msd n B) 98
def s_sl (B : Nat → Nat → Nat) : Nat → Nat
  | 0 => 0
  | z + 1 => s_sl B z + B 4 z
theorem s_sl_le {B : Nat → Nat → Nat} (h : ∀ m, B 4 m ≤ 8) : ∀ z, s_sl B z ≤ 8 * z
  | 0 => Nat.le_refl 0
  | z + 1 => by
    have h1 := s_sl_le h z
    have h3 := h z
    show s_sl B z + B 4 z ≤ _
    omega
theorem s_in_n {v : Int32} {a b : Nat} (ha : a < 2 ^ 31) (h : s_in v (nI a) (nI b) = true) : ∃ k, a ≤ k ∧ k ≤ b ∧ v = nI k := by
  unfold s_in at h
  split at h
  · cases h
  · rename_i h1
    split at h
    · cases h
    · rename_i h2
      have hv : ¬ v < 0 := fun q => h1 (by
        rw [Int32.lt_iff_toInt_lt] at q ⊢
        rw [nI_toInt ha]
        rw [Int32.toInt_zero] at q
        omega)
      obtain ⟨k, hk, rfl⟩ := nI_of hv
      refine ⟨k, ?_, ?_, rfl⟩
      · rcases Nat.lt_or_ge k a with q | q
        · exact absurd (nI_lt q ha) h1
        · exact q
      · rcases Nat.lt_or_ge b k with q | q
        · exact absurd (nI_lt q hk) h2
        · exact q
def s_arc (n : Nat) (B : Nat → Nat → Nat) (d a t r : Int32) : Nat := if s_in d (nI 1) (nI 99) = true then (if s_in a (nI 0) (nI 5) = true then (if s_in t (nI 0) (nI 9) = true then (if s_in r (nI 0) (nI (d.toNatClampNeg - 1)) = true then (if s_dated (B 0) d.toNatClampNeg n = none then (if n = 10 then 2 else 0) else 1) else 1) else 1) else 1) else 1
def s_arB (n : Nat) (B : Nat → Nat → Nat) (d a t r : Int32) : Nat → Nat → Nat := if s_arc n B d a t r = 0 then b_up (b_up (b_up (b_up B 0 n d.toNatClampNeg) 1 n a.toNatClampNeg) 2 n t.toNatClampNeg) 3 n r.toNatClampNeg else B
def s_arn (n : Nat) (B : Nat → Nat → Nat) (d a t r : Int32) : Nat := if s_arc n B d a t r = 0 then n + 1 else n
def s_arv (n : Nat) (B : Nat → Nat → Nat) (d a t r : Int32) : Nat := if s_arc n B d a t r = 0 then n else 0
def s_adc (n : Nat) (B : Nat → Nat → Nat) (u k w : Int32) : Nat := if s_ism n u = true then (if s_in k (nI 0) (nI 3) = true then (if s_in w (nI 1) (nI 99) = true then (if B 4 u.toNatClampNeg = 8 then 3 else 0) else 2) else 2) else 1
def s_adB (n : Nat) (B : Nat → Nat → Nat) (u k w : Int32) : Nat → Nat → Nat := if s_adc n B u k w = 0 then b_up (b_up (b_up B 5 (8 * u.toNatClampNeg + B 4 u.toNatClampNeg) k.toNatClampNeg) 6 (8 * u.toNatClampNeg + B 4 u.toNatClampNeg) w.toNatClampNeg) 4 u.toNatClampNeg (B 4 u.toNatClampNeg + 1) else B
def s_adv (n : Nat) (B : Nat → Nat → Nat) (u k w : Int32) : Nat := if s_adc n B u k w = 0 then B 4 u.toNatClampNeg + 1 else 0
def s_rmc (n : Nat) (B : Nat → Nat → Nat) (u : Int32) : Nat := if s_ism n u = true then (if B 4 u.toNatClampNeg = 0 then 2 else 0) else 1
def s_rmB (n : Nat) (B : Nat → Nat → Nat) (u : Int32) : Nat → Nat → Nat := if s_rmc n B u = 0 then b_up B 4 u.toNatClampNeg (B 4 u.toNatClampNeg - 1) else B
def s_rmv (n : Nat) (B : Nat → Nat → Nat) (u : Int32) : Nat := if s_rmc n B u = 0 then B 4 u.toNatClampNeg - 1 else 0
