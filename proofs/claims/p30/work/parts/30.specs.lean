/-! what the three writing calls leave, the talk counted by origins, the roots by rounds -/
theorem b_up_at (B : Nat → Nat → Nat) (a i v x y : Nat) : b_up B a i v x y = if x = a ∧ y = i then v else B x y := by
  unfold b_up va_up
  by_cases h : x = a
  · subst h
    by_cases h2 : y = i
    · simp [h2]
    · simp [h2]
  · simp [h]
theorem s_fr_same {n n' : Nat} {B B' : Nat → Nat → Nat} (hB : Bok n B) (hB' : Bok n' B') {u : Nat} {wd qf : Nat → Option Nat} (h : FW n B u wd qf) (h' : FW n' B' u wd qf) : ∀ z, z ≤ 8 → s_fr n' B' u z = s_fr n B u z
  | 0, _ => rfl
  | z + 1, hz => by
    have ih := s_fr_same hB hB' h h' z (by omega)
    have e1 := pt8f hB h (z := z) (by omega)
    have e2 := pt8f hB' h' (z := z) (by omega)
    rw [ih, e1] at e2
    rw [s_fr_s, s_fr_s, ← e2, ih]
theorem s_pa_same {n n' : Nat} {B B' : Nat → Nat → Nat} (hB : Bok n B) (hB' : Bok n' B') {u : Nat} {wd qf : Nat → Option Nat} (h : FW n B u wd qf) (h' : FW n' B' u wd qf) {z : Nat} (hz : z < 8) : s_pa n' B' u z = s_pa n B u z := by
  rw [← pt8f hB h hz, ← pt8f hB' h' hz, s_fr_same hB hB' h h' z (by omega)]
theorem FW_r (n : Nat) (B : Nat → Nat → Nat) (u : Nat) : FW n B u (s_wd n B u) (s_of n B u) := fun _ _ => ⟨rfl, rfl⟩
/-- boxes alike but for the lines of one mail -/
def BLk (u : Nat) (B B' : Nat → Nat → Nat) : Prop := B' 0 = B 0 ∧ B' 3 = B 3 ∧ (∀ m, m ≠ u → B' 4 m = B 4 m) ∧ ∀ m k, m ≠ u → k < 8 → B' 5 (8 * m + k) = B 5 (8 * m + k) ∧ B' 6 (8 * m + k) = B 6 (8 * m + k)
theorem BLk_par {n u : Nat} {B B' : Nat → Nat → Nat} (h : BLk u B B') (m : Nat) : s_par n B' m = s_par n B m := by
  unfold s_par
  rw [h.1, h.2.1]
theorem BLk_q {n u : Nat} {B B' : Nat → Nat → Nat} (hB : Bok n B) (hB' : Bok n B') (h : BLk u B B') {x : Nat} (h1 : x / 8 ≠ u) (h2 : s_par n B (x / 8) ≠ some u) : s_q n B' x = s_q n B x := by
  have hp := BLk_par (n := n) h (x / 8)
  unfold s_q s_ln
  rw [h.2.2.1 _ h1, hp]
  have e : s_pa n B' (x / 8) (x % 8) = s_pa n B (x / 8) (x % 8) := by
    refine s_pa_same hB hB' (FW_r n B (x / 8)) (fun k hk => ?_) (by omega)
    refine ⟨?_, ?_⟩
    · unfold s_wd
      rw [hp, h.2.2.1 _ h1, (h.2.2.2 _ k h1 hk).1, (h.2.2.2 _ k h1 hk).2]
    · unfold s_of
      rw [hp]
      cases hq : s_par n B (x / 8) with
      | none => rfl
      | some q =>
        have hqu : q ≠ u := fun e => h2 (by rw [hq, e])
        simp only
        rw [h.2.2.1 _ hqu, (h.2.2.2 _ k hqu hk).1, (h.2.2.2 _ k hqu hk).2]
  rw [e]
theorem BLk_Q {n u : Nat} {B B' : Nat → Nat → Nat} {Q : Nat → Option Nat} (hu : u < n) (hB : Bok n B) (hB' : Bok n B') (h : BLk u B B') (hQ : QA n B Q) : QR n B' u 0 Q := fun x hx q => by
  rw [hQ x hx]
  by_cases c : x / 8 < n
  · rcases q c with q | ⟨q1, q2⟩
    · exact absurd q (Nat.not_lt_zero _)
    · rw [BLk_par h] at q2
      exact (BLk_q hB hB' h q1 q2).symm
  · rw [s_q_none, s_q_none]
    · unfold s_ln; rw [hB'.2.2.2.2.2.2 _ (by omega)]; simp
    · unfold s_ln; rw [hB.2.2.2.2.2.2 _ (by omega)]; simp
theorem ad_Bk {u c a w : Nat} {B : Nat → Nat → Nat} (hc : c < 8) : BLk u B (b_up (b_up (b_up B 5 (8 * u + c) a) 6 (8 * u + c) w) 4 u (c + 1)) := by
  refine ⟨?_, ?_, fun m hm => ?_, fun m k hm hk => ?_⟩
  · funext y; simp [b_up_at]
  · funext y; simp [b_up_at]
  · simp [b_up_at, hm]
  · have : ¬ 8 * m + k = 8 * u + c := by omega
    simp [b_up_at, this]
theorem ad_Bok {n u a w : Nat} {B : Nat → Nat → Nat} (hB : Bok n B) (hu : u < n) (hc : B 4 u < 8) (ha : a ≤ 3) (hw : w ≤ 99) : Bok n (b_up (b_up (b_up B 5 (8 * u + B 4 u) a) 6 (8 * u + B 4 u) w) 4 u (B 4 u + 1)) := by
  obtain ⟨h1, h2, h3, h4, h5, h6, h7⟩ := hB
  refine ⟨h1, fun i j => ?_, fun m => ?_, fun m hm => ?_, fun i j hi hj => ?_, fun p => ?_, fun m hm => ?_⟩
  · have := h2 i j
    simp only [b_up_at]
    (repeat' split) <;> omega
  · have := h3 m
    simp only [b_up_at]
    (repeat' split) <;> omega
  · have := h4 m hm
    simpa [b_up_at] using this
  · have := h5 i j hi hj
    simpa [b_up_at] using this
  · have := h6 p
    simp only [b_up_at]
    (repeat' split) <;> omega
  · have := h7 m hm
    have : m ≠ u := by omega
    simp [b_up_at, this, h7 m hm]
theorem rm_Bk {u v : Nat} {B : Nat → Nat → Nat} : BLk u B (b_up B 4 u v) := by
  refine ⟨?_, ?_, fun m hm => ?_, fun m k hm hk => ?_⟩
  · funext y; simp [b_up_at]
  · funext y; simp [b_up_at]
  · simp [b_up_at, hm]
  · simp [b_up_at]
theorem rm_Bok {n u : Nat} {B : Nat → Nat → Nat} (hB : Bok n B) (hu : u < n) : Bok n (b_up B 4 u (B 4 u - 1)) := by
  obtain ⟨h1, h2, h3, h4, h5, h6, h7⟩ := hB
  refine ⟨h1, fun i j => ?_, fun m => ?_, fun m hm => ?_, fun i j hi hj => ?_, fun p => ?_, fun m hm => ?_⟩
  · have := h2 i j
    have := h3 u
    simp only [b_up_at]
    (repeat' split) <;> omega
  · have := h3 m
    have := h3 u
    simp only [b_up_at]
    (repeat' split) <;> omega
  · have := h4 m hm
    simpa [b_up_at] using this
  · have := h5 i j hi hj
    simpa [b_up_at] using this
  · have := h6 p
    simpa [b_up_at] using this
  · have : m ≠ u := by omega
    simp [b_up_at, this, h7 m hm]
/-! the talk by origins -/
theorem tl8_org {n : Nat} {B : Nat → Nat → Nat} (hB : Bok n B) {o : Nat} (h : s_tl8 n B o = true) : s_ln B o = true ∧ s_org n B (o / 8) (o % 8) = o := by
  unfold s_tl8 at h
  obtain ⟨h1, h2⟩ := Bool.and_eq_true_iff.mp h
  refine ⟨h1, ?_⟩
  have h3 : s_q n B o = none := by
    cases hq : s_q n B o with
    | none => rfl
    | some y =>
      obtain ⟨q, j, e1, -, -, -, -, -, e5, -⟩ := s_q_some hB hq
      unfold s_talk s_knd at h2
      have e3 : 8 * (o / 8) + o % 8 = o := by omega
      rw [e3, if_neg (by omega), if_pos (by rw [e1]; simp)] at h2
      simp at h2
  exact s_or_z hB h1 h3
/-- which origins are marked after so many places -/
def OC (n : Nat) (B : Nat → Nat → Nat) (z : Nat) (cn : Nat → Bool) : Prop := (∀ o, o < 80 → cn o = true → s_tl8 n B o = true) ∧ ∀ x, x < z → s_ln B x = true → s_tl8 n B (s_org n B (x / 8) (x % 8)) = true → cn (s_org n B (x / 8) (x % 8)) = true
theorem OC_0 {n : Nat} {B : Nat → Nat → Nat} {cn : Nat → Bool} (h : ∀ k, k < 80 → cn k = false) : OC n B 0 cn := ⟨fun o ho q => absurd q (by rw [h o ho]; exact Bool.false_ne_true), fun x hx => absurd hx (Nat.not_lt_zero _)⟩
theorem OC_n {n : Nat} {B : Nat → Nat → Nat} {z : Nat} {cn : Nat → Bool} (h : OC n B z cn) (q : s_ln B z = false ∨ (s_tl8 n B (s_org n B (z / 8) (z % 8)) && !(cn (s_org n B (z / 8) (z % 8)))) = false) : OC n B (z + 1) cn := by
  refine ⟨h.1, fun x hx h1 h2 => ?_⟩
  by_cases e : x = z
  · subst e
    rcases q with q | q
    · rw [q] at h1; cases h1
    · rw [h2] at q; simpa using q
  · exact h.2 x (by omega) h1 h2
theorem OC_y {n : Nat} {B : Nat → Nat → Nat} {z : Nat} {cn : Nat → Bool} (h : OC n B z cn) (q : (s_tl8 n B (s_org n B (z / 8) (z % 8)) && !(cn (s_org n B (z / 8) (z % 8)))) = true) : OC n B (z + 1) (va_up cn (s_org n B (z / 8) (z % 8)) true) := by
  refine ⟨fun o ho h1 => ?_, fun x hx h1 h2 => ?_⟩
  · unfold va_up at h1
    by_cases e : o = s_org n B (z / 8) (z % 8)
    · rw [e]; exact (Bool.and_eq_true_iff.mp q).1
    · rw [if_neg e] at h1; exact h.1 o ho h1
  · unfold va_up
    by_cases e : s_org n B (x / 8) (x % 8) = s_org n B (z / 8) (z % 8)
    · rw [if_pos e]
    · rw [if_neg e]
      refine h.2 x ?_ h1 h2
      rcases Nat.lt_or_ge x z with c | c
      · exact c
      · exact absurd (by rw [show x = z from by omega]) e
theorem OC_ct {n : Nat} {B : Nat → Nat → Nat} {z : Nat} {cn : Nat → Bool} (hz : s_org n B (z / 8) (z % 8) < 80) (q : (s_tl8 n B (s_org n B (z / 8) (z % 8)) && !(cn (s_org n B (z / 8) (z % 8)))) = true) : ct (va_up cn (s_org n B (z / 8) (z % 8)) true) 80 = ct cn 80 + 1 := by
  have h := (Bool.and_eq_true_iff.mp q).2
  refine ct_one (d := s_org n B (z / 8) (z % 8)) (fun k hk => if_neg hk) (by simpa using h) (if_pos rfl) hz
theorem OC_e {n : Nat} {B : Nat → Nat → Nat} {z : Nat} {cn : Nat → Bool} (hB : Bok n B) (h : OC n B z cn) (hz : 80 ≤ z) : ct cn 80 = s_tk n B := by
  rw [← s_tl8_s hB]
  refine ct_ext (fun o ho => ?_)
  cases hq : s_tl8 n B o with
  | true =>
    obtain ⟨h1, h2⟩ := tl8_org hB hq
    have := h.2 o (by omega) h1 (by rw [h2]; exact hq)
    rw [h2] at this; exact this
  | false =>
    cases hc : cn o with
    | false => rfl
    | true => rw [h.1 o ho hc] at hq; cases hq
theorem ct_zero {p : Nat → Bool} : ∀ {n : Nat}, (∀ k, k < n → p k = false) → ct p n = 0
  | 0, _ => rfl
  | n + 1, h => by rw [ct_f (h n (Nat.lt_succ_self n))]; exact ct_zero (fun k hk => h k (by omega))
/-! the roots by rounds -/
theorem s_pit_B {n : Nat} {B : Nat → Nat → Nat} (hB : Bok n B) {m q : Nat} (hm : m < n) (h : s_pit n B m = some q) : q < n ∧ B 0 q < B 0 m := by
  have h1 := s_pit_lt h
  have h2 := hB.2.2.2.1 m hm
  exact ⟨h1.1, by omega⟩
theorem s_rt_fuel {n : Nat} {B : Nat → Nat → Nat} (hB : Bok n B) : ∀ (k k' m : Nat), m < n → B 0 m < k → B 0 m < k' → s_rt n B k m = s_rt n B k' m
  | 0, _, _, _, h, _ => absurd h (Nat.not_lt_zero _)
  | _ + 1, 0, _, _, _, h => absurd h (Nat.not_lt_zero _)
  | k + 1, k' + 1, m, hm, h1, h2 => by
    unfold s_rt
    cases hp : s_pit n B m with
    | none => rfl
    | some q =>
      have h3 := s_pit_B hB hm hp
      exact s_rt_fuel hB k k' q h3.1 (by omega) (by omega)
theorem s_root_s {n : Nat} {B : Nat → Nat → Nat} (hB : Bok n B) {m q : Nat} (hm : m < n) (h : s_pit n B m = some q) : s_root n B m = s_root n B q := by
  have h1 := s_pit_B hB hm h
  have h2 := hB.2.1 0 m
  have e : s_root n B m = s_rt n B 99 q := s_rt_step (k := 100) rfl (by omega) h
  rw [e]
  exact s_rt_fuel hB 99 100 q h1.1 (by omega) (by omega)
def RO (n : Nat) (B : Nat → Nat → Nat) (r z : Nat) (rt : Nat → Nat) : Prop := (∀ m, m < n → s_pit n B m = none → rt m = m) ∧ ∀ m, m < n → (s_rk n B m < r ∨ (m < z ∧ s_rk n B m < r + 1)) → rt m = s_root n B m
theorem RO_0 {n : Nat} {B : Nat → Nat → Nat} {rt : Nat → Nat} (h : ∀ k, k < n → rt k = k) : RO n B 0 0 rt := ⟨fun m hm _ => h m hm, fun m _ q => absurd q (by omega)⟩
theorem RO_n {n : Nat} {B : Nat → Nat → Nat} {r z : Nat} {rt : Nat → Nat} (h : RO n B r z rt) (hp : s_pit n B z = none) : RO n B r (z + 1) rt := by
  refine ⟨h.1, fun m hm q => ?_⟩
  by_cases e : m = z
  · subst e
    rw [h.1 m hm hp]
    exact (s_rt_none hp).symm
  · exact h.2 m hm (by omega)
theorem RO_y {n : Nat} {B : Nat → Nat → Nat} (hB : Bok n B) {r z q : Nat} {rt : Nat → Nat} (h : RO n B r z rt) (hz : z < n) (hp : s_pit n B z = some q) : RO n B r (z + 1) (va_up rt z (rt q)) := by
  have h1 := s_pit_B hB hz hp
  have h2 := s_rk_s h1.1 h1.2
  refine ⟨fun m hm hm2 => ?_, fun m hm c => ?_⟩
  · unfold va_up
    by_cases e : m = z
    · rw [e, hp] at hm2; cases hm2
    · rw [if_neg e]; exact h.1 m hm hm2
  · unfold va_up
    by_cases e : m = z
    · rw [if_pos e, e, s_root_s hB hz hp]
      rw [e] at c
      exact h.2 q h1.1 (Or.inl (by omega))
    · rw [if_neg e]
      exact h.2 m hm (by omega)
theorem RO_e {n : Nat} {B : Nat → Nat → Nat} {r z : Nat} {rt : Nat → Nat} (h : RO n B r z rt) (hz : n ≤ z) : RO n B (r + 1) 0 rt := ⟨h.1, fun m hm c => h.2 m hm (by omega)⟩
theorem RO_r {n : Nat} {B : Nat → Nat → Nat} {r u : Nat} {rt : Nat → Nat} (h : RO n B r 0 rt) (hr : n ≤ r) (hu : u < n) : rt u = s_root n B u := h.2 u hu (Or.inl (by have := s_rk_lt (B := B) hu; omega))
