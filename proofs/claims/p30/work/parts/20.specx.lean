/-! the class's world, and what its methods say, by places -/
theorem s_in_o {k a b : Nat} (h1 : a ≤ k) (h2 : k ≤ b) (hb : b < 2 ^ 31) : s_in (nI k) (nI a) (nI b) = true := by
  unfold s_in
  rw [if_neg (nI_nlt h1 (by omega)), if_neg (nI_nlt h2 hb)]
/-- the aligner's cells -/
abbrev wA (cI cA : ClassId) (ax : Nat → Nat) (wd qf : Nat → Option Nat) (T : Nat → Nat → Nat) : va_W :=
  [(ax 11, .inr (2, [.ref (ax 12), .ref (ax 13), .ref (ax 14)])), (ax 12, .inl (cI, 8, .inl (fun k => oI (wd k)))), (ax 13, .inl (cI, 8, .inl (fun k => qI (qf k)))), (ax 14, .inl (cA, 9, .inr (.inr (.inr (.inr (fun i => some (ax (15 + i)))))))),
   (ax 15, .inl (cI, 9, .inl (fun k => nI (T 0 k)))), (ax 16, .inl (cI, 9, .inl (fun k => nI (T 1 k)))), (ax 17, .inl (cI, 9, .inl (fun k => nI (T 2 k)))), (ax 18, .inl (cI, 9, .inl (fun k => nI (T 3 k)))), (ax 19, .inl (cI, 9, .inl (fun k => nI (T 4 k)))), (ax 20, .inl (cI, 9, .inl (fun k => nI (T 5 k)))), (ax 21, .inl (cI, 9, .inl (fun k => nI (T 6 k)))), (ax 22, .inl (cI, 9, .inl (fun k => nI (T 7 k)))), (ax 23, .inl (cI, 9, .inl (fun k => nI (T 8 k))))]
/-- the class's own cells -/
abbrev wX0 (cI cZ : ClassId) (ax : Nat → Nat) (n : Nat) (B : Nat → Nat → Nat) (Q : Nat → Option Nat) (cn : Nat → Bool) (rt : Nat → Nat) : va_W :=
  [(ax 0, .inr (3, [.int (nI n), .ref (ax 1), .ref (ax 2), .ref (ax 3), .ref (ax 4), .ref (ax 5), .ref (ax 6), .ref (ax 7), .ref (ax 8), .ref (ax 11), .ref (ax 9), .ref (ax 10)])),
   (ax 1, .inl (cI, 10, .inl (fun k => nI (B 0 k)))), (ax 2, .inl (cI, 10, .inl (fun k => nI (B 1 k)))), (ax 3, .inl (cI, 10, .inl (fun k => nI (B 2 k)))), (ax 4, .inl (cI, 10, .inl (fun k => nI (B 3 k)))), (ax 5, .inl (cI, 10, .inl (fun k => nI (B 4 k)))),
   (ax 6, .inl (cI, 80, .inl (fun k => nI (B 5 k)))), (ax 7, .inl (cI, 80, .inl (fun k => nI (B 6 k)))), (ax 8, .inl (cI, 80, .inl (fun k => oI (Q k)))), (ax 9, .inl (cZ, 80, .inl (fun k => bI (cn k)))), (ax 10, .inl (cI, 10, .inl (fun k => nI (rt k))))]
abbrev wX (cI cZ cA : ClassId) (ax : Nat → Nat) (n : Nat) (B : Nat → Nat → Nat) (Q : Nat → Option Nat) (cn : Nat → Bool) (rt : Nat → Nat) (wd qf : Nat → Option Nat) (T : Nat → Nat → Nat) : va_W := wX0 cI cZ ax n B Q cn rt ++ wA cI cA ax wd qf T
def s_ln (B : Nat → Nat → Nat) (x : Nat) : Bool := decide (x % 8 < B 4 (x / 8))
/-- the place of a line's partner -/
def s_q (n : Nat) (B : Nat → Nat → Nat) (x : Nat) : Option Nat := if s_ln B x = true then (match s_pa n B (x / 8) (x % 8) with
  | none => none
  | some j => some (8 * (s_par n B (x / 8)).getD 0 + j)) else none
def QA (n : Nat) (B : Nat → Nat → Nat) (Q : Nat → Option Nat) : Prop := ∀ x, x < 80 → Q x = s_q n B x
theorem s_ln_t {n : Nat} {B : Nat → Nat → Nat} (hB : Bok n B) {x : Nat} (h : s_ln B x = true) : x / 8 < n ∧ x % 8 < B 4 (x / 8) ∧ x < 80 := by
  have h1 : x % 8 < B 4 (x / 8) := by simpa [s_ln] using h
  have h2 : x / 8 < n := by
    rcases Nat.lt_or_ge (x / 8) n with q | q
    · exact q
    · rw [hB.2.2.2.2.2.2 _ q] at h1; omega
  have := hB.1
  exact ⟨h2, h1, by omega⟩
theorem s_q_none {n : Nat} {B : Nat → Nat → Nat} {x : Nat} (h : s_ln B x = false) : s_q n B x = none := by
  unfold s_q
  rw [h]; rfl
theorem s_q_some {n : Nat} {B : Nat → Nat → Nat} (hB : Bok n B) {x y : Nat} (h : s_q n B x = some y) : ∃ q j, s_pa n B (x / 8) (x % 8) = some j ∧ s_par n B (x / 8) = some q ∧ y / 8 = q ∧ y % 8 = j ∧ q < n ∧ j < B 4 q ∧ B 5 y + 1 = B 5 x ∧ B 6 y = B 6 x ∧ y < 80 ∧ s_ln B y = true := by
  unfold s_q at h
  split at h
  · cases hp : s_pa n B (x / 8) (x % 8) with
    | none => rw [hp] at h; cases h
    | some j =>
      rw [hp] at h
      obtain ⟨q, h1, h2, h3, h4, h5⟩ := s_pa_some hp
      rw [h1] at h
      have hy : 8 * q + j = y := Option.some.inj h
      have h8 := hB.2.2.1 q
      have h10 := hB.1
      have e1 : y / 8 = q := by omega
      have e2 : y % 8 = j := by omega
      have e3 : 8 * (x / 8) + x % 8 = x := by omega
      rw [hy, e3] at h4 h5
      refine ⟨q, j, rfl, h1, e1, e2, h2, h3, h4, h5, by omega, ?_⟩
      unfold s_ln
      rw [e1, e2]
      exact decide_eq_true h3
  · cases h
theorem s_q_b {n : Nat} {B : Nat → Nat → Nat} (hB : Bok n B) {x : Nat} : ∀ k, s_q n B x = some k → k < 2 ^ 31 := fun k h => by
  obtain ⟨_, _, -, -, -, -, -, -, -, -, h1, -⟩ := s_q_some hB h
  omega
theorem s_q_pa {n : Nat} {B : Nat → Nat → Nat} {x : Nat} (hl : s_ln B x = true) (h : s_q n B x = none) : s_pa n B (x / 8) (x % 8) = none := by
  unfold s_q at h
  rw [if_pos hl] at h
  cases hp : s_pa n B (x / 8) (x % 8) with
  | none => rfl
  | some j => rw [hp] at h; cases h
def s_hp (n : Nat) (B : Nat → Nat → Nat) (x : Nat) : Bool := decide (¬ s_q n B x = none)
theorem s_hp_t {n : Nat} {B : Nat → Nat → Nat} {x : Nat} (h : s_hp n B x = true) : ∃ y, s_q n B x = some y := by
  unfold s_hp at h
  cases hq : s_q n B x with
  | none => rw [hq] at h; simp at h
  | some y => exact ⟨y, rfl⟩
theorem s_hp_f {n : Nat} {B : Nat → Nat → Nat} {x : Nat} (h : s_hp n B x = false) : s_q n B x = none := by
  unfold s_hp at h
  simpa using h
theorem s_hp_bt {n : Nat} {B : Nat → Nat → Nat} {x k : Nat} (h : s_q n B x = some k) : nI 1 = bI (s_hp n B x) := by
  unfold s_hp
  rw [h, show decide (¬ some k = none) = true from by simp]
  decide +kernel
theorem s_hp_bf {n : Nat} {B : Nat → Nat → Nat} {x : Nat} (h : s_q n B x = none) : nI 0 = bI (s_hp n B x) := by
  unfold s_hp
  rw [h]
  decide +kernel
def s_am (n : Nat) (B : Nat → Nat → Nat) (u : Nat) : Bool := decide (¬ B 3 u = 0) && decide (s_par n B u = none)
/-- a date that is there: the first mail of it is the last -/
theorem s_dated_at {f : Nat → Nat} {w : Nat} : ∀ {n k : Nat}, (∀ i j, i < j → j < n → f i ≠ f j) → k < n → f k = w → s_dated f w n = some k
  | 0, k, _, h, _ => absurd h (Nat.not_lt_zero _)
  | n + 1, k, hd, h, hw => by
    unfold s_dated
    by_cases hn : f n = w
    · rw [if_pos hn]
      rcases Nat.lt_or_ge k n with q | q
      · exact absurd (hw.trans hn.symm) (hd k n q (Nat.lt_succ_self n))
      · rw [show n = k from by omega]
    · rw [if_neg hn]
      have : k ≠ n := fun q => hn (q ▸ hw)
      exact s_dated_at (fun i j h1 h2 => hd i j h1 (by omega)) (by omega) hw
theorem s_dated_no {f : Nat → Nat} {w : Nat} : ∀ {n : Nat}, (∀ k, k < n → ¬ f k = w) → s_dated f w n = none
  | 0, _ => rfl
  | n + 1, h => by
    unfold s_dated
    rw [if_neg (h n (Nat.lt_succ_self n))]
    exact s_dated_no (fun k hk => h k (by omega))
theorem s_par_d {n : Nat} {B : Nat → Nat → Nat} (hB : Bok n B) (u : Nat) : s_dated (B 0) (B 3 u) n = s_par n B u := by
  unfold s_par
  split
  · rename_i h
    exact s_dated_no (fun k hk q => by have := hB.2.2.2.1 k hk; omega)
  · rfl
theorem an_f {p : Nat → Bool} : ∀ {n : Nat}, (∀ k, k < n → p k = false) → an p n = false
  | 0, _ => rfl
  | n + 1, h => by simp [an, h n (Nat.lt_succ_self n), an_f (fun k hk => h k (Nat.lt_succ_of_lt hk))]
theorem an_t {p : Nat → Bool} {k : Nat} : ∀ {n : Nat}, k < n → p k = true → an p n = true
  | 0, h, _ => absurd h (Nat.not_lt_zero _)
  | n + 1, h, hp => by
    simp only [an, Bool.or_eq_true]
    rcases Nat.lt_or_ge k n with q | q
    · exact Or.inl (an_t q hp)
    · exact Or.inr (by rw [show n = k from by omega]; exact hp)
def s_faw (B : Nat → Nat → Nat) (u o : Nat) : Bool := decide (B 3 o = B 3 u)
def s_er (B : Nat → Nat → Nat) (x y : Nat) : Bool := if x / 8 = y / 8 then decide (x < y) else decide (B 0 (x / 8) < B 0 (y / 8))
def s_dbp (B : Nat → Nat → Nat) (x y : Nat) : Bool := s_ln B y && (decide (B 5 y = 1) && (decide (B 6 y = B 6 x) && (decide (B 3 (y / 8) = B 3 (x / 8)) && s_er B y x)))
def s_cel (B : Nat → Nat → Nat) (u w : Nat) : Nat → Nat
  | 0 => 0
  | k + 1 => if s_eq B u w (k + 1) = true then k + 1 else s_cel B u w k
def s_ceM (B : Nat → Nat → Nat) (u w : Nat) : Nat := if (if B 4 w < B 4 u then B 4 w else B 4 u) < 3 then (if B 4 w < B 4 u then B 4 w else B 4 u) else 3
def s_ce (B : Nat → Nat → Nat) (u w : Nat) : Nat := s_cel B u w (s_ceM B u w)
theorem s_cel_le {B : Nat → Nat → Nat} {u w : Nat} : ∀ k, s_cel B u w k ≤ k
  | 0 => Nat.le_refl 0
  | k + 1 => by
    have h := s_cel_le (B := B) (u := u) (w := w) k
    unfold s_cel
    split <;> omega
theorem s_cel_at {B : Nat → Nat → Nat} {u w z : Nat} (h1 : s_eq B u w z = true) (h2 : s_tl B u w (z + 1) = false) : ∀ k, z ≤ k → s_cel B u w k = z
  | 0, h => by
    have : z = 0 := by omega
    rw [this]; rfl
  | k + 1, h => by
    rcases Nat.lt_or_ge z (k + 1) with q | q
    · have h3 : s_eq B u w (z + 1) = false := by simp [s_eq, h2]
      have h4 := s_eq_mono (j := z + 1) (k := k + 1) (by omega) h3
      unfold s_cel
      rw [h4, if_neg (by decide)]
      exact s_cel_at h1 h2 k (by omega)
    · have : z = k + 1 := by omega
      subst this
      unfold s_cel
      rw [if_pos h1]
theorem s_cel_top {B : Nat → Nat → Nat} {u w z : Nat} (h1 : s_eq B u w z = true) : s_cel B u w z = z := by
  cases z with
  | zero => rfl
  | succ k => unfold s_cel; rw [if_pos h1]
/-- the longest common end, over the mails of this author so far -/
def s_sgF (B : Nat → Nat → Nat) (u : Nat) : Nat → Nat
  | 0 => 0
  | z + 1 => if (decide (¬ z = u) && decide (B 1 z = B 1 u)) = true then (if s_sgF B u z < s_ce B u z then s_ce B u z else s_sgF B u z) else s_sgF B u z
theorem s_ce_le (B : Nat → Nat → Nat) (u w : Nat) : s_ce B u w ≤ 3 := by
  have h := s_cel_le (B := B) (u := u) (w := w) (s_ceM B u w)
  unfold s_ce
  have : s_ceM B u w ≤ 3 := by
    unfold s_ceM
    (repeat' split) <;> omega
  omega
theorem s_sgF_le (B : Nat → Nat → Nat) (u : Nat) : ∀ z, s_sgF B u z ≤ 3
  | 0 => Nat.zero_le _
  | z + 1 => by
    have h := s_sgF_le B u z
    have h2 := s_ce_le B u z
    unfold s_sgF
    split
    · split <;> omega
    · exact h
theorem s_ea_ce {B : Nat → Nat → Nat} {u w k : Nat} (hk : k ≤ 3) : s_ea B u w k = true ↔ k ≤ s_ce B u w := by
  have key : ∀ M, k ≤ M → (s_eq B u w k = true ↔ k ≤ s_cel B u w M) := by
    intro M
    induction M with
    | zero => intro h; have : k = 0 := by omega
              subst this; exact ⟨fun _ => Nat.zero_le _, fun _ => rfl⟩
    | succ M ih =>
      intro h
      unfold s_cel
      by_cases hM : s_eq B u w (M + 1) = true
      · rw [if_pos hM]
        refine ⟨fun _ => h, fun _ => ?_⟩
        cases hq : s_eq B u w k with
        | true => rfl
        | false => rw [s_eq_mono h hq] at hM; cases hM
      · rw [if_neg hM]
        rcases Nat.lt_or_ge M k with q | q
        · have : k = M + 1 := by omega
          subst this
          have := s_cel_le (B := B) (u := u) (w := w) M
          exact ⟨fun h => absurd h hM, fun h => by omega⟩
        · exact ih q
  have hM : s_ceM B u w = min 3 (min (B 4 u) (B 4 w)) := by
    unfold s_ceM
    split <;> split <;> omega
  unfold s_ea s_ce
  by_cases h1 : k ≤ s_ceM B u w
  · rw [← key _ h1]
    have h2 : k ≤ B 4 u ∧ k ≤ B 4 w := by omega
    simp [h2.1, h2.2]
  · have h3 := s_cel_le (B := B) (u := u) (w := w) (s_ceM B u w)
    refine ⟨fun h => ?_, fun h => by omega⟩
    simp at h
    omega
theorem s_sgF_sig {n : Nat} {B : Nat → Nat → Nat} (u : Nat) : s_sgF B u n = s_sig n B u := by
  have hk : ∀ k, k ≤ 3 → (an (s_sgp B u k) n = true ↔ k = 0 ∧ an (s_sgp B u k) n = true ∨ (0 < k ∧ k ≤ s_sgF B u n)) := by
    intro k hk3
    have : ∀ z, (0 < k → (an (s_sgp B u k) z = true ↔ k ≤ s_sgF B u z)) := by
      intro z h0
      induction z with
      | zero => exact ⟨fun h => (by cases h), fun h => (by have q : s_sgF B u 0 = 0 := rfl; omega)⟩
      | succ z ih =>
        simp only [an, Bool.or_eq_true, s_sgF]
        have hp : s_sgp B u k z = true ↔ (decide (¬ z = u) && decide (B 1 z = B 1 u)) = true ∧ k ≤ s_ce B u z := by
          unfold s_sgp
          rw [Bool.and_eq_true, s_ea_ce hk3]
        rw [hp, ih]
        by_cases hc : (decide (¬ z = u) && decide (B 1 z = B 1 u)) = true
        · rw [if_pos hc]
          constructor
          · intro h
            split <;> omega
          · intro h
            split at h
            · right; exact ⟨hc, h⟩
            · left; exact h
        · rw [if_neg hc]
          exact ⟨fun h => h.elim id (fun h => absurd h.1 hc), Or.inl⟩
    rcases Nat.eq_zero_or_pos k with q | q
    · exact ⟨fun h => Or.inl ⟨q, h⟩, fun h => h.elim (fun h => h.2) (fun h => by omega)⟩
    · exact ⟨fun h => Or.inr ⟨q, (this n q).mp h⟩, fun h => h.elim (fun h => h.2) (fun h => (this n q).mpr h.2)⟩
  have h3 := s_sgF_le B u n
  unfold s_sig
  have a1 := hk 1 (by decide)
  have a2 := hk 2 (by decide)
  have a3 := hk 3 (by decide)
  simp only [s_sgN]
  split
  · rename_i q; have := a3.mp q; omega
  · rename_i q
    have b3 : ¬ 3 ≤ s_sgF B u n := fun h => q (a3.mpr (Or.inr ⟨by decide, h⟩))
    split
    · rename_i q2; have := a2.mp q2; omega
    · rename_i q2
      have b2 : ¬ 2 ≤ s_sgF B u n := fun h => q2 (a2.mpr (Or.inr ⟨by decide, h⟩))
      split
      · rename_i q1; have := a1.mp q1; omega
      · rename_i q1
        have b1 : ¬ 1 ≤ s_sgF B u n := fun h => q1 (a1.mpr (Or.inr ⟨by decide, h⟩))
        omega
theorem an_iff {p : Nat → Bool} {n : Nat} : an p n = true ↔ ∃ j, j < n ∧ p j = true := ⟨an_some, fun ⟨_, h1, h2⟩ => an_t h1 h2⟩
theorem s_db_sb {n : Nat} {B : Nat → Nat → Nat} (hB : Bok n B) {x : Nat} (hx : s_ln B x = true) : an (s_dbp B x) 80 = s_sb n B (x / 8) (x % 8) := by
  obtain ⟨ha, hi, h80⟩ := s_ln_t hB hx
  have e3 : 8 * (x / 8) + x % 8 = x := by omega
  rw [Bool.eq_iff_iff, an_iff]
  unfold s_sb
  rw [an_iff]
  constructor
  · rintro ⟨y, hy, hp⟩
    unfold s_dbp at hp
    simp only [Bool.and_eq_true, decide_eq_true_eq] at hp
    obtain ⟨h1, h2, h3, h4, h5⟩ := hp
    obtain ⟨hm, hk, -⟩ := s_ln_t hB h1
    have e4 : 8 * (y / 8) + y % 8 = y := by omega
    refine ⟨y / 8, hm, ?_⟩
    unfold s_sbm
    simp only [Bool.and_eq_true, decide_eq_true_eq]
    unfold s_er at h5
    by_cases hq : y / 8 = x / 8
    · rw [if_pos hq] at h5
      have h5 : y < x := of_decide_eq_true h5
      refine ⟨⟨h4, by rw [hq]; exact Nat.le_refl _⟩, an_t (k := y % 8) ?_ ?_⟩
      · unfold s_lim; rw [if_pos hq]; omega
      · unfold s_sbk; rw [e3, e4]; simp [h2, h3]
    · rw [if_neg hq] at h5
      have h5 : B 0 (y / 8) < B 0 (x / 8) := of_decide_eq_true h5
      refine ⟨⟨h4, by omega⟩, an_t (k := y % 8) ?_ ?_⟩
      · unfold s_lim; rw [if_neg hq]; exact hk
      · unfold s_sbk; rw [e3, e4]; simp [h2, h3]
  · rintro ⟨m, hm, hp⟩
    unfold s_sbm at hp
    simp only [Bool.and_eq_true, decide_eq_true_eq] at hp
    obtain ⟨⟨h4, h5⟩, hk⟩ := hp
    obtain ⟨k, hk, hkp⟩ := an_some hk
    have hl := s_lim_le hB hi m
    have h8 := hB.2.2.1 m
    have h10 := hB.1
    unfold s_sbk at hkp
    rw [e3] at hkp
    simp only [Bool.and_eq_true, decide_eq_true_eq] at hkp
    have e1 : (8 * m + k) / 8 = m := by omega
    have e2 : (8 * m + k) % 8 = k := by omega
    refine ⟨8 * m + k, by omega, ?_⟩
    unfold s_dbp s_ln s_er
    rw [e1, e2]
    simp only [Bool.and_eq_true, decide_eq_true_eq]
    refine ⟨by omega, hkp.1, hkp.2, h4, ?_⟩
    by_cases hq : m = x / 8
    · rw [if_pos hq]
      unfold s_lim at hk
      rw [if_pos hq] at hk
      exact decide_eq_true (by omega)
    · rw [if_neg hq]
      have hne : B 0 m ≠ B 0 (x / 8) := by
        rcases Nat.lt_or_ge m (x / 8) with q | q
        · exact hB.2.2.2.2.1 m (x / 8) q ha
        · exact (hB.2.2.2.2.1 (x / 8) m (by omega) hm).symm
      exact decide_eq_true (by omega)
theorem s_knd_q {n : Nat} {B : Nat → Nat → Nat} (hB : Bok n B) {x : Nat} (hx : s_ln B x = true) : s_knd n B (x / 8) (x % 8) = 113 ↔ s_hp n B x = true := by
  have e3 : 8 * (x / 8) + x % 8 = x := by omega
  unfold s_knd
  rw [e3]
  cases hq : s_q n B x with
  | none =>
    rw [s_q_pa hx hq]
    unfold s_hp
    rw [hq]
    simp only [ne_eq, not_true_eq_false, if_false]
    constructor
    · intro h
      repeat (first | omega | split at h)
    · intro h; simp at h
  | some y =>
    obtain ⟨q, j, h1, -, -, -, -, -, h5, -⟩ := s_q_some hB hq
    rw [h1, if_neg (by omega), if_pos (by simp)]
    unfold s_hp
    rw [hq]
    simp
theorem s_or_q {n : Nat} {B : Nat → Nat → Nat} (hB : Bok n B) {X k o y : Nat} (h : X = s_or n B k (o / 8) (o % 8)) (hq : s_q n B o = some y) (hk : 0 < k) : X = s_or n B (k - 1) (y / 8) (y % 8) := by
  obtain ⟨q, j, h1, h2, h3, h4, -⟩ := s_q_some hB hq
  rw [h3, h4]
  exact s_or_step h h1 h2 hk
theorem s_or_z {n : Nat} {B : Nat → Nat → Nat} (hB : Bok n B) {k o : Nat} (hl : s_ln B o = true) (h : s_q n B o = none) : s_or n B k (o / 8) (o % 8) = o := by
  rw [s_or_none (s_q_pa hl h)]
  omega
theorem s_q_m0 {n : Nat} {B : Nat → Nat → Nat} (hB : Bok n B) {o : Nat} (h : B 5 o = 0) : s_q n B o = none := by
  cases hq : s_q n B o with
  | none => rfl
  | some y =>
    obtain ⟨q, j, -, -, -, -, -, -, h5, -⟩ := s_q_some hB hq
    omega
/-- how many mails are of an earlier date -/
def s_rk (n : Nat) (B : Nat → Nat → Nat) (z : Nat) : Nat := ct (fun m => decide (B 0 m < B 0 z)) n
theorem ct_mono {p q : Nat → Bool} (h : ∀ k, p k = true → q k = true) : ∀ n, ct p n ≤ ct q n
  | 0 => Nat.le_refl 0
  | n + 1 => by
    have h1 := ct_mono h n
    have h2 := h n
    simp only [ct]
    split
    · rw [if_pos (h2 (by assumption))]; omega
    · omega
theorem ct_less {p q : Nat → Bool} (h : ∀ k, p k = true → q k = true) {j : Nat} (h1 : p j = false) (h2 : q j = true) : ∀ n, j < n → ct p n + 1 ≤ ct q n
  | 0, hj => absurd hj (Nat.not_lt_zero _)
  | n + 1, hj => by
    simp only [ct]
    rcases Nat.lt_or_ge j n with r | r
    · have h3 := ct_less h h1 h2 n r
      have h4 := h n
      split
      · rw [if_pos (h4 (by assumption))]; omega
      · omega
    · have e : n = j := by omega
      subst e
      rw [h1, h2]
      have := ct_mono h n
      simp
      omega
theorem s_rk_s {n : Nat} {B : Nat → Nat → Nat} {z q : Nat} (hq : q < n) (h : B 0 q < B 0 z) : s_rk n B q + 1 ≤ s_rk n B z := by
  unfold s_rk
  refine ct_less (fun k hk => ?_) (j := q) (by simp) (by simpa using h) n hq
  have := of_decide_eq_true hk
  exact decide_eq_true (by omega)
theorem s_rk_lt {n : Nat} {B : Nat → Nat → Nat} {z : Nat} (hz : z < n) : s_rk n B z + 1 ≤ n := by
  have h := ct_less (p := fun m => decide (B 0 m < B 0 z)) (q := fun _ => true) (fun _ _ => rfl) (j := z) (by simp) rfl n hz
  have h2 := ct_le (fun _ => true) n
  unfold s_rk
  omega
theorem s_an_gap {n : Nat} {B : Nat → Nat → Nat} {a k : Nat} (h : ¬ s_knd n B a k = 113) : s_an n B a (k + 1) = s_an n B a k := by
  simp only [s_an, if_neg h]
theorem s_an_hit {n : Nat} {B : Nat → Nat → Nat} {a k : Nat} (h : s_knd n B a k = 113) : s_an n B a (k + 1) = some (s_org n B a k) := by
  simp only [s_an, if_pos h]
def s_knx (n : Nat) (B : Nat → Nat → Nat) (x : Nat) : Nat :=
  if B 5 x = 0 then (if B 4 (x / 8) - s_sig n B (x / 8) ≤ x % 8 then 115 else 110)
  else if s_hp n B x = true then 113
  else if B 5 x = 1 then (if s_am n B (x / 8) = true then (if s_sb n B (x / 8) (x % 8) = true then 100 else 114) else 120) else 120
theorem s_knx_e {n : Nat} {B : Nat → Nat → Nat} (hB : Bok n B) {x : Nat} (hx : s_ln B x = true) : s_knx n B x = s_knd n B (x / 8) (x % 8) := by
  have e3 : 8 * (x / 8) + x % 8 = x := by omega
  unfold s_knx s_knd
  rw [e3]
  by_cases h0 : B 5 x = 0
  · rw [if_pos h0, if_pos h0]
  · rw [if_neg h0, if_neg h0]
    have hp : s_hp n B x = true ↔ s_pa n B (x / 8) (x % 8) ≠ none := by
      constructor
      · intro h
        obtain ⟨y, hy⟩ := s_hp_t h
        obtain ⟨q, j, h1, -⟩ := s_q_some hB hy
        rw [h1]; simp
      · intro h
        cases hq : s_hp n B x with
        | true => rfl
        | false => exact absurd (s_q_pa hx (s_hp_f hq)) h
    by_cases h1 : s_hp n B x = true
    · rw [if_pos h1, if_pos (hp.mp h1)]
    · rw [if_neg h1, if_neg (fun q => h1 (hp.mpr q))]
      have h3 := hB.2.2.2.2.2.1 x
      by_cases h2 : B 5 x = 1
      · rw [if_pos h2]
        by_cases h4 : s_am n B (x / 8) = true
        · rw [if_pos h4]
          have h5 : ¬ B 3 (x / 8) = 0 ∧ s_par n B (x / 8) = none := by simpa [s_am] using h4
          have h6 : ¬ (1 < B 5 x ∨ B 3 (x / 8) = 0 ∨ s_par n B (x / 8) ≠ none) := by
            rintro (q | q | q)
            · omega
            · exact h5.1 q
            · exact q h5.2
          rw [if_neg h6]
        · rw [if_neg h4]
          have h7 : 1 < B 5 x ∨ B 3 (x / 8) = 0 ∨ s_par n B (x / 8) ≠ none := by
            by_cases h6 : B 3 (x / 8) = 0
            · exact Or.inr (Or.inl h6)
            · refine Or.inr (Or.inr (fun q => h4 ?_))
              simp [s_am, h6, q]
          rw [if_pos h7]
      · rw [if_neg h2, if_pos (Or.inl (by omega))]
def s_nw (n : Nat) (B : Nat → Nat → Nat) (x : Nat) : Bool := s_ln B x && decide (s_knd n B (x / 8) (x % 8) = 110)
def s_tl8 (n : Nat) (B : Nat → Nat → Nat) (x : Nat) : Bool := s_ln B x && s_talk n B (x / 8) (x % 8)
theorem s_an_b1 {n : Nat} {B : Nat → Nat → Nat} (hB : Bok n B) {X : Option Nat} {x j : Nat} (h8 : j / 8 = x / 8) (hl : s_ln B j = true) (hf : 8 * (x / 8) + 0 ≤ j) (h : X = s_an n B (x / 8) (j + 1 - 8 * (x / 8))) (hp : s_hp n B j = false) : X = s_an n B (x / 8) (j - 8 * (x / 8)) := by
  have e1 : j + 1 - 8 * (x / 8) = (j - 8 * (x / 8)) + 1 := by omega
  have e2 : j - 8 * (x / 8) = j % 8 := by omega
  rw [h, e1, s_an_gap]
  rw [e2, ← h8, s_knd_q hB hl, hp]
  decide
theorem s_an_b2 {n : Nat} {B : Nat → Nat → Nat} (hB : Bok n B) {X : Option Nat} {x j : Nat} (h8 : j / 8 = x / 8) (hl : s_ln B j = true) (hf : 8 * (x / 8) + 0 ≤ j) (h : X = s_an n B (x / 8) (j + 1 - 8 * (x / 8))) (hp : s_hp n B j = true) : X = some (s_org n B (j / 8) (j % 8)) := by
  have e1 : j + 1 - 8 * (x / 8) = (j - 8 * (x / 8)) + 1 := by omega
  have e2 : j - 8 * (x / 8) = j % 8 := by omega
  rw [h, e1, s_an_hit]
  · rw [e2, h8]
  · rw [e2, ← h8]
    exact (s_knd_q hB hl).mpr hp
