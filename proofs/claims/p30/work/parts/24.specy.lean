/-! counts over places, and over mails and lines -/
theorem ct_ext {p q : Nat → Bool} : ∀ {n : Nat}, (∀ k, k < n → p k = q k) → ct p n = ct q n
  | 0, _ => rfl
  | n + 1, h => by
    simp only [ct]
    rw [ct_ext (fun k hk => h k (Nat.lt_succ_of_lt hk)), h n (Nat.lt_succ_self n)]
theorem ct_row {p : Nat → Bool} {q : Nat → Nat → Bool} {c : Nat → Nat} (hp : ∀ m k, k < 8 → p (8 * m + k) = (decide (k < c m) && q m k)) (z : Nat) : ∀ j, j ≤ 8 → ct p (8 * z + j) = ct p (8 * z) + ct (q z) (if j < c z then j else c z)
  | 0, _ => by
    have : (if 0 < c z then 0 else c z) = 0 := by split <;> omega
    rw [this]; rfl
  | j + 1, h => by
    have ih := ct_row hp z j (by omega)
    have e : ct p (8 * z + (j + 1)) = ct p (8 * z + j) + (if p (8 * z + j) = true then 1 else 0) := rfl
    rw [e, ih, hp z j (by omega)]
    by_cases h1 : j < c z
    · rw [if_pos h1]
      have h2 : (if j + 1 < c z then j + 1 else c z) = j + 1 := by split <;> omega
      rw [h2]
      simp only [ct, h1, decide_true, Bool.true_and]
      omega
    · have h2 : ¬ j + 1 < c z := by omega
      simp [h1, h2]
theorem ct_sm {p : Nat → Bool} {q : Nat → Nat → Bool} {c : Nat → Nat} (hc : ∀ m, c m ≤ 8) (hp : ∀ m k, k < 8 → p (8 * m + k) = (decide (k < c m) && q m k)) : ∀ z, ct p (8 * z) = sm q c z
  | 0 => rfl
  | z + 1 => by
    have h := ct_row hp z 8 (Nat.le_refl 8)
    have h1 := hc z
    have h2 : (if 8 < c z then 8 else c z) = c z := by split <;> omega
    rw [h2] at h
    show ct p (8 * z + 8) = _
    rw [h, ct_sm hc hp z]; rfl
theorem sm_top {q : Nat → Nat → Bool} {c : Nat → Nat} {n : Nat} (h : ∀ m, n ≤ m → c m = 0) : ∀ d, sm q c (n + d) = sm q c n
  | 0 => rfl
  | d + 1 => by
    show sm q c (n + d) + ct (q (n + d)) (c (n + d)) = _
    rw [sm_top h d, h (n + d) (Nat.le_add_right _ _)]; rfl
theorem ct80 {n : Nat} {B : Nat → Nat → Nat} (hB : Bok n B) {p : Nat → Bool} {q : Nat → Nat → Bool} (hp : ∀ x, p x = (s_ln B x && q (x / 8) (x % 8))) : ct p 80 = sm q (B 4) n := by
  have h := ct_sm (p := p) (q := q) (c := B 4) hB.2.2.1 (fun m k hk => by
    rw [hp]
    unfold s_ln
    rw [show (8 * m + k) / 8 = m from by omega, show (8 * m + k) % 8 = k from by omega]) 10
  have h1 := sm_top (q := q) hB.2.2.2.2.2.2 (10 - n)
  have h10 := hB.1
  rw [show n + (10 - n) = 10 from by omega] at h1
  rw [← h1, ← h]
def s_awp (n : Nat) (B : Nat → Nat → Nat) (a x : Nat) : Bool := s_nw n B x && decide (s_an n B (x / 8) (x % 8) = some a)
theorem s_awp_s {n : Nat} {B : Nat → Nat → Nat} (hB : Bok n B) (a : Nat) : ct (s_awp n B a) 80 = sm (s_anp n B a) (B 4) n := ct80 hB (fun x => by
  unfold s_awp s_nw s_anp
  rw [Bool.and_assoc])
theorem s_tl8_s {n : Nat} {B : Nat → Nat → Nat} (hB : Bok n B) : ct (s_tl8 n B) 80 = s_tk n B := ct80 hB (fun x => rfl)
def s_cpx (n : Nat) (B : Nat → Nat → Nat) (a x : Nat) : Bool := s_ln B x && decide (s_org n B (x / 8) (x % 8) = a)
theorem s_cpx_s {n : Nat} {B : Nat → Nat → Nat} (hB : Bok n B) (a : Nat) : ct (s_cpx n B a) 80 = sm (s_cpp n B a) (B 4) n := ct80 hB (fun x => rfl)
theorem ct_one {p q : Nat → Bool} {d : Nat} (h : ∀ k, k ≠ d → q k = p k) (h1 : p d = false) (h2 : q d = true) : ∀ {n : Nat}, d < n → ct q n = ct p n + 1
  | 0, hd => absurd hd (Nat.not_lt_zero _)
  | n + 1, hd => by
    simp only [ct]
    rcases Nat.lt_or_ge d n with r | r
    · rw [ct_one h h1 h2 r, h n (by omega)]; omega
    · have e : n = d := by omega
      subst e
      rw [h1, h2, ct_ext (fun k hk => h k (by omega))]
      simp
def s_msc (n : Nat) (B : Nat → Nat → Nat) (m : Nat) : Bool := s_am n B m && !(an (s_faw B m) m)
theorem s_msc_s {n : Nat} {B : Nat → Nat → Nat} (hB : Bok n B) : ct (s_msc n B) n = s_ms n B := by
  have key : ∀ N, N = 98 → ∀ k, k ≤ n → ct (fun d => an (s_msa B (d + 1)) k && decide (s_dated (B 0) (d + 1) n = none)) N = ct (s_msc n B) k := by
    intro N hN k
    induction k with
    | zero =>
      intro _
      have h0 : ∀ N, ct (fun d => an (s_msa B (d + 1)) 0 && decide (s_dated (B 0) (d + 1) n = none)) N = 0 := fun N => by
        induction N with
        | zero => rfl
        | succ N ih =>
          show ct _ N + (if (an (s_msa B (N + 1)) 0 && _) = true then 1 else 0) = 0
          rw [ih]; rfl
      rw [h0]; rfl
    | succ k ih =>
      intro hk
      have ih := ih (by omega)
      have hlt := hB.2.2.2.1 k (by omega)
      have h99 := hB.2.1 0 k
      have ec : ct (s_msc n B) (k + 1) = ct (s_msc n B) k + (if s_msc n B k = true then 1 else 0) := rfl
      rw [ec, ← ih]
      have hfaw : an (s_faw B k) k = an (s_msa B (B 3 k)) k := rfl
      by_cases h0 : B 3 k = 0
      · have e1 : s_msc n B k = false := by simp [s_msc, s_am, h0]
        rw [e1]
        simp only [Bool.false_eq_true, if_false, Nat.add_zero]
        refine ct_ext (fun d _ => ?_)
        have : s_msa B (d + 1) k = false := by simp [s_msa, h0]
        simp [an, this]
      · obtain ⟨d0, hd0⟩ : ∃ d, B 3 k = d + 1 := ⟨B 3 k - 1, by omega⟩
        have hpar : s_par n B k = s_dated (B 0) (d0 + 1) n := by rw [← s_par_d hB, hd0]
        by_cases hg : s_dated (B 0) (d0 + 1) n = none
        · cases ha : an (s_msa B (d0 + 1)) k with
          | true =>
            have e1 : s_msc n B k = false := by
              unfold s_msc
              rw [hfaw, hd0, ha]; simp
            rw [e1]
            simp only [Bool.false_eq_true, if_false, Nat.add_zero]
            refine ct_ext (fun d _ => ?_)
            by_cases hd : d = d0
            · subst hd; simp [an, ha]
            · have : s_msa B (d + 1) k = false := by
                unfold s_msa
                rw [hd0]
                exact decide_eq_false (by omega)
              simp [an, this]
          | false =>
            have e1 : s_msc n B k = true := by
              unfold s_msc s_am
              rw [hfaw, hpar, hg, hd0, ha]; simp
            rw [e1]
            simp only [if_true]
            refine ct_one (d := d0) (fun d hd => ?_) (by simp [ha]) ?_ (by omega)
            · have : s_msa B (d + 1) k = false := by
                unfold s_msa
                rw [hd0]
                exact decide_eq_false (by omega)
              simp [an, this]
            · simp [an, s_msa, hd0, hg]
        · have e1 : s_msc n B k = false := by
            unfold s_msc s_am
            rw [hpar]; simp [hg]
          rw [e1]
          simp only [Bool.false_eq_true, if_false, Nat.add_zero]
          refine ct_ext (fun d _ => ?_)
          by_cases hd : d = d0
          · subst hd; simp [hg]
          · have : s_msa B (d + 1) k = false := by
              unfold s_msa
              rw [hd0]
              exact decide_eq_false (by omega)
            simp [an, this]
  rw [← key 98 rfl n (Nat.le_refl n)]
  rfl
