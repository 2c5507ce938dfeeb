/-! the aligner: eight lines against eight, with gaps -/
def FL (wd qf : Nat → Option Nat) (i j : Nat) : Nat := s_L (s_fq wd qf) 8 8 i j
theorem FL_le (wd qf : Nat → Option Nat) (i j : Nat) : FL wd qf i j ≤ 8 := by
  have h := s_L_le (f := s_fq wd qf) (R := 8) (C := 8) (8 - i) i j rfl
  unfold FL
  omega
theorem FL_s {wd qf : Nat → Option Nat} {i j : Nat} (hi : i < 8) (hj : j < 8) : FL wd qf i j = max (if s_fq wd qf i j then 1 + FL wd qf (i + 1) (j + 1) else 0) (max (FL wd qf (i + 1) j) (FL wd qf i (j + 1))) := s_L_s hi hj
theorem FL_8 {wd qf : Nat → Option Nat} {i j : Nat} (h : 8 ≤ i ∨ 8 ≤ j) : FL wd qf i j = 0 := by
  rcases h with h | h
  · exact s_L_R h
  · exact s_L_C h
def TB (T : Nat → Nat → Nat) : Prop := ∀ j, j ≤ 8 → T 8 j = 0 ∧ T j 8 = 0
def TF (wd qf : Nat → Option Nat) (T : Nat → Nat → Nat) : Prop := ∀ i j, i ≤ 8 → j ≤ 8 → T i j = FL wd qf i j
theorem TF_B {wd qf : Nat → Option Nat} {T : Nat → Nat → Nat} (h : TF wd qf T) : TB T := fun j hj => ⟨by rw [h 8 j (by omega) hj, FL_8 (Or.inl (by omega))], by rw [h j 8 hj (by omega), FL_8 (Or.inr (by omega))]⟩
def TO (wd qf : Nat → Option Nat) (x : Nat) (T : Nat → Nat → Nat) : Prop := (∀ i j, i ≤ 8 → j ≤ 8 → x ≤ i → T i j = FL wd qf i j) ∧ ∀ i, i ≤ 8 → T i 8 = 0
def TI (wd qf : Nat → Option Nat) (x y : Nat) (T : Nat → Nat → Nat) : Prop := (∀ i j, i ≤ 8 → j ≤ 8 → (x < i ∨ (i = x ∧ y ≤ j)) → T i j = FL wd qf i j) ∧ ∀ i, i ≤ 8 → T i 8 = 0
theorem TO_8 {wd qf : Nat → Option Nat} {T : Nat → Nat → Nat} (h : TB T) : TO wd qf 8 T := ⟨fun i j hi hj hx => by rw [show i = 8 from by omega, (h j hj).1, FL_8 (Or.inl (by omega))], fun i hi => (h i hi).2⟩
theorem TO_I {wd qf : Nat → Option Nat} {x : Nat} {T : Nat → Nat → Nat} (h : TO wd qf (x + 1) T) : TI wd qf x 8 T := ⟨fun i j hi hj q => by
  rcases q with q | q
  · exact h.1 i j hi hj (by omega)
  · rw [show j = 8 from by omega, h.2 i hi, FL_8 (Or.inr (by omega))], h.2⟩
theorem TI_O {wd qf : Nat → Option Nat} {x : Nat} {T : Nat → Nat → Nat} (h : TI wd qf x 0 T) : TO wd qf x T := ⟨fun i j hi hj q => h.1 i j hi hj (by omega), h.2⟩
theorem TO_F {wd qf : Nat → Option Nat} {T : Nat → Nat → Nat} (h : TO wd qf 0 T) : TF wd qf T := fun i j hi hj => h.1 i j hi hj (Nat.zero_le _)
theorem TI_s {wd qf : Nat → Option Nat} {x y : Nat} {T : Nat → Nat → Nat} (h : TI wd qf x (y + 1) T) (hx : x < 8) (hy : y < 8) : TI wd qf x y (T_up T x y (FL wd qf x y)) := by
  refine ⟨fun i j hi hj q => ?_, fun i hi => ?_⟩
  · unfold T_up va_up
    by_cases h1 : i = x
    · rw [if_pos h1]
      by_cases h2 : j = y
      · rw [if_pos h2, h1, h2]
      · rw [if_neg h2, ← h1]
        exact h.1 i j hi hj (by omega)
    · rw [if_neg h1]
      exact h.1 i j hi hj (by omega)
  · unfold T_up va_up
    by_cases h1 : i = x
    · rw [if_pos h1, if_neg (by omega)]
      exact h.2 x (by omega)
    · rw [if_neg h1]
      exact h.2 i hi
def s_sr8 (wd qf : Nat → Option Nat) (i a z : Nat) : Option Nat := s_fst (s_hit (s_fq wd qf) 8 8 i a) a (z - a)
theorem s_sr8_s {wd qf : Nat → Option Nat} {i a z : Nat} (h : s_sr8 wd qf i a z = none) (ha : a ≤ z) : s_sr8 wd qf i a (z + 1) = if (s_fq wd qf i z && decide (1 + FL wd qf (i + 1) (z + 1) = FL wd qf i a)) = true then some z else none := by
  unfold s_sr8 at h ⊢
  rw [show z + 1 - a = (z - a) + 1 from by omega]
  show (match s_fst _ a (z - a) with | some x => some x | none => _) = _
  rw [h, show a + (z - a) = z from by omega]
  rfl
theorem s_sr8_e {wd qf : Nat → Option Nat} {i a z : Nat} (h : s_sr8 wd qf i a (z + 1) = some z) (hz : z < 8) (ha : a ≤ z) : s_pt (s_fq wd qf) 8 8 i a = some z := by
  have := s_fst_more h (8 - (z + 1))
  unfold s_pt
  rw [show 8 - a = z + 1 - a + (8 - (z + 1)) from by omega]
  exact this
/-- the best from a line on, of all partners tried so far -/
def s_tm (wd qf : Nat → Option Nat) (i a : Nat) : Nat → Nat
  | 0 => FL wd qf (i + 1) a
  | c + 1 => if s_fq wd qf i (a + c) = true then (if s_tm wd qf i a c < 1 + FL wd qf (i + 1) (a + c + 1) then 1 + FL wd qf (i + 1) (a + c + 1) else s_tm wd qf i a c) else s_tm wd qf i a c
theorem FL_mono {wd qf : Nat → Option Nat} {i j : Nat} (hi : i < 8) : FL wd qf i (j + 1) ≤ FL wd qf i j := by
  by_cases hj : j < 8
  · rw [FL_s (j := j) hi hj]; omega
  · rw [FL_8 (Or.inr (by omega))]; exact Nat.zero_le _
theorem FL_monoN {wd qf : Nat → Option Nat} {i j : Nat} (hi : i < 8) : ∀ c, FL wd qf i (j + c) ≤ FL wd qf i j
  | 0 => Nat.le_refl _
  | c + 1 => Nat.le_trans (FL_mono hi) (FL_monoN hi c)
theorem FL_row {wd qf : Nat → Option Nat} {i j : Nat} : FL wd qf (i + 1) (j + 1) ≤ FL wd qf (i + 1) j := by
  by_cases hi : i + 1 < 8
  · exact FL_mono hi
  · rw [FL_8 (Or.inl (by omega))]; exact Nat.zero_le _
theorem FL_rowN {wd qf : Nat → Option Nat} {i j : Nat} : ∀ c, FL wd qf (i + 1) (j + c) ≤ FL wd qf (i + 1) j
  | 0 => Nat.le_refl _
  | c + 1 => Nat.le_trans FL_row (FL_rowN c)
theorem s_tm_le {wd qf : Nat → Option Nat} {i a : Nat} (hi : i < 8) : ∀ c, a + c ≤ 8 → a < 8 → s_tm wd qf i a c ≤ FL wd qf i a
  | 0, _, ha => by
    unfold s_tm
    rw [FL_s (i := i) hi ha]; omega
  | c + 1, hc, ha => by
    have ih := s_tm_le (wd := wd) (qf := qf) hi c (by omega) ha
    unfold s_tm
    split
    · rename_i hf
      have h1 : 1 + FL wd qf (i + 1) (a + c + 1) ≤ FL wd qf i (a + c) := by
        rw [FL_s (i := i) (j := a + c) hi (by omega), hf]
        simp
        omega
      have h2 := FL_monoN (wd := wd) (qf := qf) (i := i) (j := a) hi c
      split <;> omega
    · exact ih
theorem s_tm_base {wd qf : Nat → Option Nat} {i a : Nat} : ∀ c, FL wd qf (i + 1) a ≤ s_tm wd qf i a c
  | 0 => Nat.le_refl _
  | c + 1 => by
    have ih := s_tm_base (wd := wd) (qf := qf) (i := i) (a := a) c
    unfold s_tm
    split
    · split <;> omega
    · exact ih
theorem s_tm_cand {wd qf : Nat → Option Nat} {i a c : Nat} (hf : s_fq wd qf i (a + c) = true) : ∀ d, c < d → 1 + FL wd qf (i + 1) (a + c + 1) ≤ s_tm wd qf i a d
  | 0, h => absurd h (Nat.not_lt_zero _)
  | d + 1, h => by
    unfold s_tm
    rcases Nat.lt_or_ge c d with q | q
    · have ih := s_tm_cand hf d q
      split
      · split <;> omega
      · exact ih
    · have e : d = c := by omega
      subst e
      rw [if_pos hf]
      split <;> omega
theorem s_tm_ge {wd qf : Nat → Option Nat} {i a : Nat} (hi : i < 8) (ha : a ≤ 8) : ∀ d c, a + c + d = 8 → FL wd qf i (a + c) ≤ s_tm wd qf i a (8 - a)
  | 0, c, h => by
    rw [FL_8 (Or.inr (by omega))]; exact Nat.zero_le _
  | d + 1, c, h => by
    have ih := s_tm_ge (wd := wd) (qf := qf) hi ha d (c + 1) (by omega)
    have h2 := FL_rowN (wd := wd) (qf := qf) (i := i) (j := a) c
    have h3 := s_tm_base (wd := wd) (qf := qf) (i := i) (a := a) (8 - a)
    rw [show a + (c + 1) = a + c + 1 from rfl] at ih
    rw [FL_s (i := i) (j := a + c) hi (by omega)]
    cases hf : s_fq wd qf i (a + c) with
    | true =>
      have h1 := s_tm_cand hf (8 - a) (by omega)
      simp
      omega
    | false =>
      simp
      omega
theorem s_tm_e {wd qf : Nat → Option Nat} {i a : Nat} (hi : i < 8) (ha : a ≤ 8) : s_tm wd qf i a (8 - a) = FL wd qf i a := by
  have h1 := s_tm_ge (wd := wd) (qf := qf) hi ha (8 - a) 0 (by omega)
  rcases Nat.lt_or_ge a 8 with q | q
  · have h2 := s_tm_le (wd := wd) (qf := qf) hi (8 - a) (by omega) q
    exact Nat.le_antisymm h2 h1
  · have e : a = 8 := by omega
    subst e
    show FL wd qf (i + 1) 8 = _
    rw [FL_8 (Or.inr (Nat.le_refl _)), FL_8 (Or.inr (Nat.le_refl _))]
theorem s_tm_b {wd qf : Nat → Option Nat} {i a : Nat} : ∀ c, s_tm wd qf i a c ≤ 9
  | 0 => by have := FL_le wd qf (i + 1) a; unfold s_tm; omega
  | c + 1 => by
    have ih := s_tm_b (wd := wd) (qf := qf) (i := i) (a := a) c
    have := FL_le wd qf (i + 1) (a + c + 1)
    unfold s_tm
    split
    · split <;> omega
    · exact ih
/-- what the aligner is given of a mail and of its parent -/
def s_mw (a b : Nat) : Nat := a * 100 + b
def s_wd (n : Nat) (B : Nat → Nat → Nat) (u k : Nat) : Option Nat := if s_par n B u ≠ none ∧ k < B 4 u ∧ B 5 (8 * u + k) ≠ 0 then some (s_mw (B 5 (8 * u + k) - 1) (B 6 (8 * u + k))) else none
def s_of (n : Nat) (B : Nat → Nat → Nat) (u k : Nat) : Option Nat := match s_par n B u with
  | none => none
  | some q => if k < B 4 q then some (s_mw (B 5 (8 * q + k)) (B 6 (8 * q + k))) else none
def FW (n : Nat) (B : Nat → Nat → Nat) (u : Nat) (wd qf : Nat → Option Nat) : Prop := ∀ k, k < 8 → wd k = s_wd n B u k ∧ qf k = s_of n B u k
theorem FW_f {n : Nat} {B : Nat → Nat → Nat} (hB : Bok n B) {u : Nat} {wd qf : Nat → Option Nat} (h : FW n B u wd qf) {i j : Nat} (hi : i < 8) (hj : j < 8) : s_fq wd qf i j = (decide (i < B 4 u) && (decide (j < s_col n B u) && s_f n B u i j)) := by
  rw [Bool.eq_iff_iff, s_fq_t, (h i hi).1, (h j hj).2]
  unfold s_wd s_of s_col s_f s_fits
  cases hp : s_par n B u with
  | none => simp
  | some q =>
    have hw1 := hB.2.1 6 (8 * u + i)
    have hw2 := hB.2.1 6 (8 * q + j)
    simp only [Option.getD_some, Bool.and_eq_true, decide_eq_true_eq]
    constructor
    · rintro ⟨k, h1, h2⟩
      by_cases c1 : some q ≠ none ∧ i < B 4 u ∧ B 5 (8 * u + i) ≠ 0
      · rw [if_pos c1] at h1
        by_cases c2 : j < B 4 q
        · rw [if_pos c2] at h2
          have e := (Option.some.inj h1).trans (Option.some.inj h2).symm
          unfold s_mw at e
          refine ⟨c1.2.1, c2, by omega, by omega, by omega⟩
        · rw [if_neg c2] at h2; cases h2
      · rw [if_neg c1] at h1; cases h1
    · rintro ⟨c1, c2, c3, c4, c5⟩
      refine ⟨s_mw (B 5 (8 * u + i) - 1) (B 6 (8 * u + i)), if_pos ⟨by simp, c1, by omega⟩, ?_⟩
      rw [if_pos c2]
      unfold s_mw
      congr 1
      omega
theorem FL_LL {n : Nat} {B : Nat → Nat → Nat} (hB : Bok n B) {u : Nat} {wd qf : Nat → Option Nat} (h : FW n B u wd qf) : ∀ r i j, 8 - i + (8 - j) = r → i ≤ 8 → j ≤ 8 → FL wd qf i j = s_LL n B u i j := by
  have hR := hB.2.2.1 u
  have hC := s_col_le hB.2.2.1 (n := n) u
  intro r
  induction r using Nat.strongRecOn with
  | _ r ih =>
    intro i j hr hi hj
    by_cases h8 : i < 8 ∧ j < 8
    · rw [FL_s h8.1 h8.2, FW_f hB h h8.1 h8.2, ih (8 - (i + 1) + (8 - (j + 1))) (by omega) (i + 1) (j + 1) rfl (by omega) (by omega), ih (8 - (i + 1) + (8 - j)) (by omega) (i + 1) j rfl (by omega) (by omega), ih (8 - i + (8 - (j + 1))) (by omega) i (j + 1) rfl (by omega) (by omega)]
      by_cases c1 : i < B 4 u
      · by_cases c2 : j < s_col n B u
        · rw [s_LL_s (i := i) (j := j) c1 c2]
          simp [c1, c2]
        · have e1 : ∀ a b, s_col n B u ≤ b → s_LL n B u a b = 0 := fun a b q => s_L_C q
          rw [e1 (i + 1) j (by omega), e1 i (j + 1) (by omega), e1 i j (by omega)]
          simp [c2]
      · have e1 : ∀ a b, B 4 u ≤ a → s_LL n B u a b = 0 := fun a b q => s_L_R q
        rw [e1 (i + 1) j (by omega), e1 i (j + 1) (by omega), e1 i j (by omega)]
        simp [c1]
    · rw [FL_8 (by omega)]
      unfold s_LL
      by_cases q : i < 8
      · rw [s_L_C (by omega)]
      · rw [s_L_R (by omega)]
/-- the search over eight columns finds what the search over the parent's lines finds -/
theorem fst_cut {p q : Nat → Bool} {a : Nat} : ∀ c d, (∀ x, a ≤ x → x < a + c → p x = q x) → (∀ x, a + c ≤ x → x < a + c + d → p x = false) → s_fst p a (c + d) = s_fst q a c
  | c, d + 1, h1, h2 => by
    have ih := fst_cut c d h1 (fun x hx hy => h2 x hx (by omega))
    show (match s_fst p a (c + d) with | some x => some x | none => if p (a + (c + d)) then some (a + (c + d)) else none) = _
    rw [ih, h2 (a + (c + d)) (by omega) (by omega)]
    cases s_fst q a c <;> rfl
  | 0, 0, _, _ => rfl
  | c + 1, 0, h1, h2 => by
    have ih := fst_cut c 0 (fun x hx hy => h1 x hx (by omega)) (fun x hx hy => absurd hy (by omega))
    show (match s_fst p a c with | some x => some x | none => if p (a + c) then some (a + c) else none) = (match s_fst q a c with | some x => some x | none => if q (a + c) then some (a + c) else none)
    rw [show s_fst p a c = s_fst q a c from ih, h1 (a + c) (by omega) (by omega)]
theorem pt8 {n : Nat} {B : Nat → Nat → Nat} (hB : Bok n B) {u : Nat} {wd qf : Nat → Option Nat} (h : FW n B u wd qf) {i a : Nat} (hi : i < 8) (ha : a ≤ s_col n B u) : s_pt (s_fq wd qf) 8 8 i a = if i < B 4 u then s_pt (s_f n B u) (B 4 u) (s_col n B u) i a else none := by
  have hR := hB.2.2.1 u
  have hC := s_col_le hB.2.2.1 (n := n) u
  have hL : ∀ i j, i ≤ 8 → j ≤ 8 → FL wd qf i j = s_LL n B u i j := fun i j hi hj => FL_LL hB h _ i j rfl hi hj
  by_cases c1 : i < B 4 u
  · rw [if_pos c1]
    unfold s_pt
    rw [show 8 - a = (s_col n B u - a) + (8 - s_col n B u) from by omega]
    refine fst_cut _ _ (fun x hx hy => ?_) (fun x hx hy => ?_)
    · unfold s_hit
      rw [FW_f hB h hi (by omega)]
      have e1 := hL (i + 1) (x + 1) (by omega) (by omega)
      have e2 := hL i a (by omega) (by omega)
      unfold FL at e1 e2
      unfold s_LL at e1 e2
      rw [e1, e2]
      have c2 : x < s_col n B u := by omega
      simp [c1, c2]
    · unfold s_hit
      rw [FW_f hB h hi (by omega)]
      have c2 : ¬ x < s_col n B u := by omega
      simp [c2]
  · rw [if_neg c1]
    unfold s_pt
    have := fst_cut (p := s_hit (s_fq wd qf) 8 8 i a) (q := fun _ => false) (a := a) 0 (8 - a) (fun x hx hy => absurd hy (by omega)) (fun x hx hy => by
      unfold s_hit
      rw [FW_f hB h hi (by omega)]
      simp [c1])
    rw [Nat.zero_add] at this
    exact this
theorem s_in_8 {k : Nat} (h : k < 2 ^ 31) : s_in (nI k) (nI 0) (nI 7) = decide (k < 8) := by
  by_cases q : k < 8
  · rw [s_in_o (Nat.zero_le _) (by omega) (by decide), decide_eq_true q]
  · unfold s_in
    rw [if_neg (nI_nlt (Nat.zero_le _) h), if_pos (nI_lt (by omega) h), decide_eq_false q]
theorem s_tm_t {wd qf : Nat → Option Nat} {i a c : Nat} (h : s_fq wd qf i (a + c) = true) : s_tm wd qf i a (c + 1) = if s_tm wd qf i a c < 1 + FL wd qf (i + 1) (a + c + 1) then 1 + FL wd qf (i + 1) (a + c + 1) else s_tm wd qf i a c := by
  show (if s_fq wd qf i (a + c) = true then _ else _) = _
  rw [if_pos h]
theorem s_tm_f {wd qf : Nat → Option Nat} {i a c : Nat} (h : s_fq wd qf i (a + c) = false) : s_tm wd qf i a (c + 1) = s_tm wd qf i a c := by
  show (if s_fq wd qf i (a + c) = true then _ else _) = _
  rw [if_neg (by rw [h]; exact Bool.false_ne_true)]
theorem s_tm_x {wd qf : Nat → Option Nat} {i a c : Nat} (hi : i < 8) (ha : a ≤ 8) (h1 : 8 ≤ a + c) (h2 : a + c ≤ 8) : s_tm wd qf i a c = FL wd qf i a := by
  rw [← s_tm_e hi ha, show 8 - a = c from by omega]
theorem s_sr8_n {wd qf : Nat → Option Nat} {i a z : Nat} (h : s_sr8 wd qf i a z = none) (ha : a ≤ z) (q : s_fq wd qf i z = false ∨ ¬ 1 + FL wd qf (i + 1) (z + 1) = FL wd qf i a) : s_sr8 wd qf i a (z + 1) = none := by
  rw [s_sr8_s h ha, if_neg]
  rcases q with q | q
  · rw [q]; simp
  · simp [q]
theorem s_sr8_y {wd qf : Nat → Option Nat} {i a z : Nat} (h : s_sr8 wd qf i a z = none) (ha : a ≤ z) (hz : z < 8) (q1 : s_fq wd qf i z = true) (q2 : 1 + FL wd qf (i + 1) (z + 1) = FL wd qf i a) : s_pt (s_fq wd qf) 8 8 i a = some z :=
  s_sr8_e (by rw [s_sr8_s h ha, if_pos (by rw [q1]; simpa using q2)]) hz ha
theorem s_sr8_x {wd qf : Nat → Option Nat} {i a z : Nat} (h : s_sr8 wd qf i a z = none) (ha : 8 ≤ z) (hz : z ≤ 8) : s_pt (s_fq wd qf) 8 8 i a = none := by
  have e : z = 8 := by omega
  subst e
  exact h
theorem s_pt_8 {f : Nat → Nat → Bool} {i a : Nat} (h : 8 ≤ a) : s_pt f 8 8 i a = none := by
  unfold s_pt
  rw [show 8 - a = 0 from by omega]
  rfl
theorem preSR {s : State} {H : Heap} {D : va_G} {tys : List (ClassId × FieldType)} {w : va_W} {As : List Value} (hK : va_K D vwCl tys s) (hP : va_P D vwCl w H) : PreS s H (PcR D tys w As) As :=
  ⟨PcR_blind _ _ _ _, fun U hU hW9 => ⟨rfl, by rw [hU]; exact hP, va_K.moved hW9.alike hK⟩⟩
theorem FL_t {wd qf : Nat → Option Nat} {i j a b c : Nat} (hi : i < 8) (hj : j < 8) (h : s_fq wd qf i j = true) (ha : a = FL wd qf (i + 1) j) (hb : b = FL wd qf i (j + 1)) (hc : c = FL wd qf (i + 1) (j + 1)) : (if (if a < b then b else a) < 1 + c then 1 + c else (if a < b then b else a)) = FL wd qf i j := by
  have e := FL_s (wd := wd) (qf := qf) hi hj
  rw [h, ← ha, ← hb, ← hc] at e
  rw [e]
  simp only [if_true]
  (repeat' split) <;> omega
theorem FL_f {wd qf : Nat → Option Nat} {i j a b : Nat} (hi : i < 8) (hj : j < 8) (h : s_fq wd qf i j = false) (ha : a = FL wd qf (i + 1) j) (hb : b = FL wd qf i (j + 1)) : (if a < b then b else a) = FL wd qf i j := by
  have e := FL_s (wd := wd) (qf := qf) hi hj
  rw [h, ← ha, ← hb] at e
  rw [e]
  simp only [Bool.false_eq_true, if_false]
  split <;> omega
