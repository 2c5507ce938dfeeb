/-! facing the parent, and taking the partners anew -/
theorem FW_BD {n : Nat} {B : Nat → Nat → Nat} (hB : Bok n B) {u : Nat} {wd qf : Nat → Option Nat} (h : FW n B u wd qf) : BD wd qf := by
  refine ⟨fun i k hi q => ?_, fun i k hi q => ?_⟩
  · rw [(h i hi).1] at q
    unfold s_wd at q
    split at q
    · have h1 := hB.2.1 6 (8 * u + i)
      have h2 := hB.2.2.2.2.2.1 (8 * u + i)
      have e := Option.some.inj q
      unfold s_mw at e
      omega
    · cases q
  · rw [(h i hi).2] at q
    unfold s_of at q
    cases hp : s_par n B u with
    | none => rw [hp] at q; cases q
    | some z =>
      rw [hp] at q
      simp only at q
      split at q
      · have h1 := hB.2.1 6 (8 * z + i)
        have h2 := hB.2.2.2.2.2.1 (8 * z + i)
        have e := Option.some.inj q
        unfold s_mw at e
        omega
      · cases q
theorem FW_n {n : Nat} {B : Nat → Nat → Nat} {u : Nat} {wd qf : Nat → Option Nat} (h : ∀ k, k < 8 → wd k = none ∧ qf k = none) (hp : s_par n B u = none) : FW n B u wd qf := fun k hk => by
  refine ⟨by rw [(h k hk).1]; unfold s_wd; rw [if_neg (fun q => q.1 hp)], by rw [(h k hk).2]; unfold s_of; rw [hp]⟩
def FWa (n : Nat) (B : Nat → Nat → Nat) (u z : Nat) (wd qf : Nat → Option Nat) : Prop := ∀ k, k < 8 → (wd k = if k < z then s_wd n B u k else none) ∧ qf k = none
theorem FWa_0 {n : Nat} {B : Nat → Nat → Nat} {u : Nat} {wd qf : Nat → Option Nat} (h : ∀ k, k < 8 → wd k = none ∧ qf k = none) : FWa n B u 0 wd qf := fun k hk => ⟨by rw [(h k hk).1, if_neg (Nat.not_lt_zero _)], (h k hk).2⟩
theorem FWa_s {n : Nat} {B : Nat → Nat → Nat} {u z q : Nat} {wd qf : Nat → Option Nat} (hp : s_par n B u = some q) (hz : z < B 4 u) (h : FWa n B u z wd qf) : FWa n B u (z + 1) (va_up wd z (if B 5 (8 * u + z) = 0 then none else some (s_mw (B 5 (8 * u + z) - 1) (B 6 (8 * u + z))))) qf := fun k hk => by
  refine ⟨?_, (h k hk).2⟩
  unfold va_up
  by_cases e : k = z
  · subst e
    rw [if_pos rfl, if_pos (show k < k + 1 from Nat.lt_succ_self _)]
    unfold s_wd
    by_cases e2 : B 5 (8 * u + k) = 0
    · rw [if_pos e2, if_neg (fun q => q.2.2 e2)]
    · rw [if_neg e2, if_pos ⟨by rw [hp]; simp, hz, e2⟩]
  · rw [if_neg e, (h k hk).1]
    by_cases e2 : k < z
    · rw [if_pos e2, if_pos (by omega)]
    · rw [if_neg e2, if_neg (by omega)]
def FWb (n : Nat) (B : Nat → Nat → Nat) (u z : Nat) (wd qf : Nat → Option Nat) : Prop := ∀ k, k < 8 → wd k = s_wd n B u k ∧ qf k = if k < z then s_of n B u k else none
theorem FWb_0 {n : Nat} {B : Nat → Nat → Nat} {u z : Nat} {wd qf : Nat → Option Nat} (h : FWa n B u z wd qf) (hz : B 4 u ≤ z) (hz2 : z ≤ B 4 u) : FWb n B u 0 wd qf := fun k hk => by
  refine ⟨?_, by rw [(h k hk).2, if_neg (Nat.not_lt_zero _)]⟩
  rw [(h k hk).1]
  by_cases e2 : k < z
  · rw [if_pos e2]
  · rw [if_neg e2]
    unfold s_wd
    rw [if_neg (fun q => by omega)]
theorem FWb_s {n : Nat} {B : Nat → Nat → Nat} {u z q : Nat} {wd qf : Nat → Option Nat} (hp : s_par n B u = some q) (hz : z < B 4 q) (h : FWb n B u z wd qf) : FWb n B u (z + 1) wd (va_up qf z (some (s_mw (B 5 (8 * q + z)) (B 6 (8 * q + z))))) := fun k hk => by
  refine ⟨(h k hk).1, ?_⟩
  unfold va_up
  by_cases e : k = z
  · subst e
    rw [if_pos rfl, if_pos (by omega)]
    unfold s_of
    rw [hp]
    exact (if_pos hz).symm
  · rw [if_neg e, (h k hk).2]
    by_cases e2 : k < z
    · rw [if_pos e2, if_pos (by omega)]
    · rw [if_neg e2, if_neg (by omega)]
theorem FWb_e {n : Nat} {B : Nat → Nat → Nat} {u z q : Nat} {wd qf : Nat → Option Nat} (h : FWb n B u z wd qf) (hp : s_par n B u = some q) (hz : B 4 q ≤ z) (hz2 : z ≤ B 4 q) : FW n B u wd qf := fun k hk => by
  refine ⟨(h k hk).1, ?_⟩
  rw [(h k hk).2]
  by_cases e2 : k < z
  · rw [if_pos e2]
  · rw [if_neg e2]
    unfold s_of
    rw [hp]
    exact (if_neg (by omega)).symm
theorem s_pa_R {n : Nat} {B : Nat → Nat → Nat} {u z : Nat} (h : B 4 u ≤ z) : s_pa n B u z = none := by
  cases hp : s_pa n B u z with
  | none => rfl
  | some x =>
    have h1 := (s_fst_some hp).2.2
    unfold s_hit at h1
    rw [s_L_R (by omega : B 4 u ≤ z + 1), s_L_R h] at h1
    simp at h1
theorem s_pa_np {n : Nat} {B : Nat → Nat → Nat} {u z : Nat} (h : s_par n B u = none) : s_pa n B u z = none := by
  cases hp : s_pa n B u z with
  | none => rfl
  | some x =>
    obtain ⟨q, h1, -⟩ := s_pa_some hp
    rw [h] at h1; cases h1
theorem pt8f {n : Nat} {B : Nat → Nat → Nat} (hB : Bok n B) {u : Nat} {wd qf : Nat → Option Nat} (h : FW n B u wd qf) {z : Nat} (hz : z < 8) : s_pt (s_fq wd qf) 8 8 z (s_fr n B u z) = s_pa n B u z := by
  rw [pt8 hB h hz s_fr_le]
  by_cases q : z < B 4 u
  · rw [if_pos q]; rfl
  · rw [if_neg q, s_pa_R (by omega)]
def QI (n : Nat) (B : Nat → Nat → Nat) (u : Nat) (Q : Nat → Option Nat) (z : Nat) (Q1 : Nat → Option Nat) : Prop := ∀ x, x < 80 → Q1 x = if x / 8 = u ∧ x % 8 < z then s_q n B x else Q x
def QU (n : Nat) (B : Nat → Nat → Nat) (u : Nat) (Q Q1 : Nat → Option Nat) : Prop := ∀ x, x < 80 → Q1 x = if x / 8 = u then s_q n B x else Q x
theorem QI_0 {n : Nat} {B : Nat → Nat → Nat} {u : Nat} {Q : Nat → Option Nat} : QI n B u Q 0 Q := fun x _ => by rw [if_neg (fun q => absurd q.2 (Nat.not_lt_zero _))]
theorem QI_s {n : Nat} {B : Nat → Nat → Nat} {u : Nat} {Q : Nat → Option Nat} {z : Nat} {Q1 : Nat → Option Nat} {v : Option Nat} (h : QI n B u Q z Q1) (hz : z < 8) (hv : v = s_q n B (8 * u + z)) : QI n B u Q (z + 1) (va_up Q1 (8 * u + z) v) := fun x hx => by
  unfold va_up
  by_cases e : x = 8 * u + z
  · rw [if_pos e, if_pos (by omega), hv, e]
  · rw [if_neg e, h x hx]
    by_cases e2 : x / 8 = u ∧ x % 8 < z
    · rw [if_pos e2, if_pos (by omega)]
    · rw [if_neg e2, if_neg (by omega)]
theorem QI_n {n : Nat} {B : Nat → Nat → Nat} {u : Nat} {Q : Nat → Option Nat} {z : Nat} {Q1 : Nat → Option Nat} (h : QI n B u Q z Q1) (hz : z < 8) (hp : s_pa n B u z = none) : QI n B u Q (z + 1) (va_up Q1 (8 * u + z) none) := by
  refine QI_s h hz ?_
  unfold s_q
  rw [show (8 * u + z) / 8 = u from by omega, show (8 * u + z) % 8 = z from by omega, hp]
  split <;> rfl
theorem QI_y {n : Nat} {B : Nat → Nat → Nat} {u : Nat} {Q : Nat → Option Nat} {z k q : Nat} {Q1 : Nat → Option Nat} (h : QI n B u Q z Q1) (hz : z < 8) (hp : s_pa n B u z = some k) (hq : s_par n B u = some q) : QI n B u Q (z + 1) (va_up Q1 (8 * u + z) (some (8 * q + k))) := by
  refine QI_s h hz ?_
  have h4 : z < B 4 u := by
    rcases Nat.lt_or_ge z (B 4 u) with c | c
    · exact c
    · rw [s_pa_R c] at hp; cases hp
  unfold s_q s_ln
  rw [show (8 * u + z) / 8 = u from by omega, show (8 * u + z) % 8 = z from by omega, hp, hq]
  rw [if_pos (decide_eq_true h4)]
  rfl
theorem QI_U {n : Nat} {B : Nat → Nat → Nat} {u : Nat} {Q : Nat → Option Nat} {z : Nat} {Q1 : Nat → Option Nat} (h : QI n B u Q z Q1) (hz : 8 ≤ z) : QU n B u Q Q1 := fun x hx => by
  rw [h x hx]
  by_cases e : x / 8 = u
  · rw [if_pos e, if_pos ⟨e, by omega⟩]
  · rw [if_neg e, if_neg (fun q => e q.1)]
theorem s_fr_n {n : Nat} {B : Nat → Nat → Nat} {u z : Nat} (h : s_pa n B u z = none) : s_fr n B u (z + 1) = s_fr n B u z := by rw [s_fr_s, h]
theorem s_fr_y {n : Nat} {B : Nat → Nat → Nat} {u z k : Nat} (h : s_pa n B u z = some k) : s_fr n B u (z + 1) = k + 1 := by rw [s_fr_s, h]
/-- right, but perhaps for the lines of u's answers and of u itself from mail z on -/
def QR (n : Nat) (B : Nat → Nat → Nat) (u z : Nat) (Q : Nat → Option Nat) : Prop := ∀ x, x < 80 → (x / 8 < n → x / 8 < z ∨ (x / 8 ≠ u ∧ s_par n B (x / 8) ≠ some u)) → Q x = s_q n B x
theorem QR_s {n : Nat} {B : Nat → Nat → Nat} {u z : Nat} {Q Q1 : Nat → Option Nat} (h : QR n B u z Q) (hU : QU n B z Q Q1) : QR n B u (z + 1) Q1 := fun x hx q => by
  rw [hU x hx]
  by_cases e : x / 8 = z
  · rw [if_pos e]
  · rw [if_neg e]
    refine h x hx (fun h1 => ?_)
    rcases q h1 with q | q
    · exact Or.inl (by omega)
    · exact Or.inr q
theorem QR_n {n : Nat} {B : Nat → Nat → Nat} {u z : Nat} {Q : Nat → Option Nat} (h : QR n B u z Q) (h1 : z ≠ u) (h2 : s_par n B z ≠ some u) : QR n B u (z + 1) Q := fun x hx q => by
  refine h x hx (fun h3 => ?_)
  rcases q h3 with q | q
  · by_cases e : x / 8 = z
    · rw [e]; exact Or.inr ⟨h1, h2⟩
    · exact Or.inl (by omega)
  · exact Or.inr q
theorem QR_A {n : Nat} {B : Nat → Nat → Nat} {u z : Nat} {Q : Nat → Option Nat} (h : QR n B u z Q) (hz : n ≤ z) : QA n B Q := fun x hx => h x hx (fun q => Or.inl (by omega))
/-- the way back along the table counts its partners -/
theorem FL_or {wd qf : Nat → Option Nat} {i : Nat} (hi : i < 8) : ∀ c a, 8 - a = c → a ≤ 8 → FL wd qf i a = FL wd qf (i + 1) a ∨ ∃ j, a ≤ j ∧ j < 8 ∧ s_fq wd qf i j = true ∧ FL wd qf i a = 1 + FL wd qf (i + 1) (j + 1)
  | 0, a, h, ha => Or.inl (by rw [FL_8 (Or.inr (by omega)), FL_8 (Or.inr (by omega))])
  | c + 1, a, h, ha => by
    have ih := FL_or (wd := wd) (qf := qf) hi c (a + 1) (by omega) (by omega)
    have e := FL_s (wd := wd) (qf := qf) (i := i) (j := a) hi (by omega)
    have hr := FL_row (wd := wd) (qf := qf) (i := i) (j := a)
    rcases ih with ih | ⟨j, h1, h2, h3, h4⟩
    · cases hf : s_fq wd qf i a with
      | true =>
        rw [hf] at e
        simp only [if_true] at e
        by_cases q : FL wd qf i a = 1 + FL wd qf (i + 1) (a + 1)
        · exact Or.inr ⟨a, Nat.le_refl _, by omega, hf, q⟩
        · exact Or.inl (by omega)
      | false =>
        rw [hf] at e
        simp only [Bool.false_eq_true, if_false] at e
        exact Or.inl (by omega)
    · cases hf : s_fq wd qf i a with
      | true =>
        rw [hf] at e
        simp only [if_true] at e
        by_cases q : FL wd qf i a = 1 + FL wd qf (i + 1) (a + 1)
        · exact Or.inr ⟨a, Nat.le_refl _, by omega, hf, q⟩
        · by_cases q2 : FL wd qf i a = FL wd qf (i + 1) a
          · exact Or.inl q2
          · exact Or.inr ⟨j, by omega, h2, h3, by omega⟩
      | false =>
        rw [hf] at e
        simp only [Bool.false_eq_true, if_false] at e
        by_cases q2 : FL wd qf i a = FL wd qf (i + 1) a
        · exact Or.inl q2
        · exact Or.inr ⟨j, by omega, h2, h3, by omega⟩
theorem s_fst_no {p : Nat → Bool} {a : Nat} : ∀ {c : Nat}, s_fst p a c = none → ∀ x, a ≤ x → x < a + c → p x = false
  | 0, _, x, h1, h2 => absurd h2 (by omega)
  | c + 1, h, x, h1, h2 => by
    simp only [s_fst] at h
    cases hq : s_fst p a c with
    | some y => rw [hq] at h; cases h
    | none =>
      rw [hq] at h
      simp only at h
      split at h
      · cases h
      · rename_i hn
        by_cases e : x = a + c
        · rw [e]; simpa using hn
        · exact s_fst_no hq x h1 (by omega)
theorem FL_pn {wd qf : Nat → Option Nat} {i a : Nat} (hi : i < 8) (ha : a ≤ 8) (h : s_pt (s_fq wd qf) 8 8 i a = none) : FL wd qf i a = FL wd qf (i + 1) a := by
  rcases FL_or (wd := wd) (qf := qf) hi _ a rfl ha with q | ⟨j, h1, h2, h3, h4⟩
  · exact q
  · have := s_fst_no h j h1 (by omega)
    unfold s_hit at this
    rw [h3, Bool.true_and] at this
    exact absurd h4.symm (of_decide_eq_false this)
theorem FL_py {wd qf : Nat → Option Nat} {i a x : Nat} (h : s_pt (s_fq wd qf) 8 8 i a = some x) : FL wd qf i a = 1 + FL wd qf (i + 1) (x + 1) := by
  have h1 := (s_fst_some h).2.2
  unfold s_hit at h1
  exact (of_decide_eq_true (Bool.and_eq_true_iff.mp h1).2).symm
theorem FL_ct {n : Nat} {B : Nat → Nat → Nat} (hB : Bok n B) {u : Nat} {wd qf : Nat → Option Nat} (h : FW n B u wd qf) : ∀ z, z ≤ 8 → FL wd qf 0 0 = ct (s_alp n B u) z + FL wd qf z (s_fr n B u z)
  | 0, _ => by show _ = 0 + FL wd qf 0 0; omega
  | z + 1, hz => by
    have ih := FL_ct hB h z (by omega)
    have e := pt8f hB h (z := z) (by omega)
    have hc := s_col_le hB.2.2.1 (n := n) u
    have hl := s_fr_le (n := n) (B := B) (u := u) (z := z)
    cases hp : s_pa n B u z with
    | none =>
      rw [hp] at e
      rw [s_fr_n hp, ct_f (by unfold s_alp; rw [hp]; simp), ← FL_pn (by omega) (by omega) e]
      exact ih
    | some k =>
      rw [hp] at e
      rw [s_fr_y hp, ct_t (by unfold s_alp; rw [hp]; simp), ih, FL_py e]
      omega
theorem ct_al {n : Nat} {B : Nat → Nat → Nat} {u : Nat} : ∀ d, ct (s_alp n B u) (B 4 u + d) = ct (s_alp n B u) (B 4 u)
  | 0 => rfl
  | d + 1 => by
    show ct (s_alp n B u) (B 4 u + d + 1) = _
    rw [ct_f (by unfold s_alp; rw [s_pa_R (by omega)]; simp)]
    exact ct_al d
theorem FL_al {n : Nat} {B : Nat → Nat → Nat} (hB : Bok n B) {u : Nat} {wd qf : Nat → Option Nat} (h : FW n B u wd qf) : FL wd qf 0 0 = ct (s_alp n B u) (B 4 u) := by
  have e := FL_ct hB h 8 (Nat.le_refl _)
  have h8 := hB.2.2.1 u
  rw [FL_8 (Or.inl (Nat.le_refl _)), show (8 : Nat) = B 4 u + (8 - B 4 u) from by omega, ct_al] at e
  exact e
