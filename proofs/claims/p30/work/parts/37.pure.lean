/-! the pure facts of the property -/
def xI : Nat → Int32
  | 1 => -1001
  | 2 => -1002
  | _ => -1003
/-- a wrapper's answer: the value, or the place of its exception -/
def rI (c : Nat) (v : Int32) : Int32 := if c = 0 then v else xI c
theorem rI_0 {v : Int32} : rI 0 v = v := rfl
theorem xI_neg (c : Nat) : xI c < 0 := by
  unfold xI
  split <;> decide +kernel
theorem xI_nI {c k : Nat} (hk : k < 2 ^ 31) : ¬ nI k = xI c := fun q => nI_pos hk (by rw [q]; exact xI_neg c)
theorem xI_nI' {c k : Nat} (hk : k < 2 ^ 31) : ¬ xI c = nI k := fun q => xI_nI hk q.symm
theorem x_isl {n m k : Nat} {B : Nat → Nat → Nat} (hB : Bok n B) (hm : m < n) (hk : k < B 4 m) : s_isl n B (nI m) (nI k) = true := by
  rw [s_isl_o hB.1 hm]
  exact s_ism_o (Nat.le_trans (hB.2.2.1 m) (by decide)) hk
theorem x_m {n m : Nat} {B : Nat → Nat → Nat} (hB : Bok n B) (hm : m < n) : (nI m).toNatClampNeg = m := nI_clamp (by have := hB.1; omega)
theorem x_k {m k : Nat} {n : Nat} {B : Nat → Nat → Nat} (hB : Bok n B) (hk : k < B 4 m) : (nI k).toNatClampNeg = k := nI_clamp (by have := hB.2.2.1 m; omega)
theorem z_lines {n m : Nat} {B : Nat → Nat → Nat} (hB : Bok n B) (hm : m < n) : s_lines n B (nI m) = (0, B 4 m) := by
  unfold s_lines
  rw [if_pos (s_ism_o hB.1 hm), x_m hB hm]
theorem z_word {n m k : Nat} {B : Nat → Nat → Nat} (hB : Bok n B) (hm : m < n) (hk : k < B 4 m) : s_word n B (nI m) (nI k) = (0, B 6 (8 * m + k)) := by
  unfold s_word
  rw [if_pos (x_isl hB hm hk), x_m hB hm, x_k hB hk]
theorem z_parent {n m : Nat} {B : Nat → Nat → Nat} (hB : Bok n B) (hm : m < n) : s_parent n B (nI m) = s_ocode 2 (s_par n B m) := by
  unfold s_parent
  rw [if_pos (s_ism_o hB.1 hm), x_m hB hm]
theorem z_pr {n m k : Nat} {B : Nat → Nat → Nat} (hB : Bok n B) (hm : m < n) (hk : k < B 4 m) : s_pr n B (nI m) (nI k) = s_ocode 2 (s_pa n B m k) := by
  unfold s_pr
  rw [if_pos (x_isl hB hm hk), x_m hB hm, x_k hB hk]
theorem z_prX {n m : Nat} {B : Nat → Nat → Nat} (hB : Bok n B) (hm : m < n) : s_pr n B (nI m) (nI (B 4 m)) = (1, 0) := by
  have h8 := hB.2.2.1 m
  have e : s_isl n B (nI m) (nI (B 4 m)) = false := by
    rw [s_isl_o hB.1 hm]
    unfold s_ism s_in
    rw [if_neg (by rw [nI_0]; exact nI_pos (by omega))]
    cases hc : B 4 m with
    | zero => rw [if_pos (by decide +kernel)]
    | succ c => rw [nI_pred, if_pos (nI_lt (by omega) (by omega))]
  unfold s_pr
  rw [e]
  rfl
theorem z_orc {n m k : Nat} {B : Nat → Nat → Nat} (hB : Bok n B) (hm : m < n) (hk : k < B 4 m) : s_orc n B (nI m) (nI k) = (0, s_org n B m k) := by
  unfold s_orc
  rw [if_pos (x_isl hB hm hk), x_m hB hm, x_k hB hk]
theorem z_kd {n m k : Nat} {B : Nat → Nat → Nat} (hB : Bok n B) (hm : m < n) (hk : k < B 4 m) : s_kd n B (nI m) (nI k) = (0, s_knd n B m k) := by
  unfold s_kd
  rw [if_pos (x_isl hB hm hk), x_m hB hm, x_k hB hk]
theorem z_sgc {n m : Nat} {B : Nat → Nat → Nat} (hB : Bok n B) (hm : m < n) : s_sgc n B (nI m) = (0, s_sig n B m) := by
  unfold s_sgc
  rw [if_pos (s_ism_o hB.1 hm), x_m hB hm]
theorem z_ans {n m k : Nat} {B : Nat → Nat → Nat} (hB : Bok n B) (hm : m < n) (hk : k < B 4 m) : s_ans n B (nI m) (nI k) = if s_knd n B m k = 110 then s_ocode 3 (s_an n B m k) else (2, 0) := by
  unfold s_ans
  rw [if_pos (x_isl hB hm hk), x_m hB hm, x_k hB hk]
theorem z_asn {n m k : Nat} {B : Nat → Nat → Nat} (hB : Bok n B) (hm : m < n) (hk : k < B 4 m) : s_asn n B (nI m) (nI k) = (0, sm (s_anp n B (8 * m + k)) (B 4) n) := by
  unfold s_asn
  rw [if_pos (x_isl hB hm hk), x_m hB hm, x_k hB hk]
theorem z_cop {n m k : Nat} {B : Nat → Nat → Nat} (hB : Bok n B) (hm : m < n) (hk : k < B 4 m) : s_cop n B (nI m) (nI k) = if s_talk n B m k = true then (0, sm (s_cpp n B (8 * m + k)) (B 4) n) else (2, 0) := by
  unfold s_cop
  rw [if_pos (x_isl hB hm hk), x_m hB hm, x_k hB hk]
theorem z_rtc {n m : Nat} {B : Nat → Nat → Nat} (hB : Bok n B) (hm : m < n) : s_rtc n B (nI m) = (0, s_root n B m) := by
  unfold s_rtc
  rw [if_pos (s_ism_o hB.1 hm), x_m hB hm]
theorem z_sz {n m : Nat} {B : Nat → Nat → Nat} (hB : Bok n B) (hm : m < n) : s_sz n B (nI m) = (0, ct (s_szp n B m) n) := by
  unfold s_sz
  rw [if_pos (s_ism_o hB.1 hm), x_m hB hm]
theorem z_alc {n m : Nat} {B : Nat → Nat → Nat} (hB : Bok n B) (hm : m < n) : s_alc n B (nI m) = (0, ct (s_alp n B m) (B 4 m)) := by
  unfold s_alc
  rw [if_pos (s_ism_o hB.1 hm), x_m hB hm]
/-! origins -/
theorem s_or_mono {n : Nat} {B : Nat → Nat → Nat} : ∀ (k m i : Nat), B 5 (8 * m + i) ≤ k → s_or n B (k + 1) m i = s_or n B k m i
  | 0, m, i, h => by
    cases hp : s_pa n B m i with
    | none => rw [s_or_none hp, s_or_none hp]
    | some j =>
      obtain ⟨q, -, -, -, h5, -⟩ := s_pa_some hp
      omega
  | k + 1, m, i, h => by
    cases hp : s_pa n B m i with
    | none => rw [s_or_none hp, s_or_none hp]
    | some j =>
      obtain ⟨q, hq, -, -, h5, -⟩ := s_pa_some hp
      have ih := s_or_mono (n := n) (B := B) k q j (by omega)
      have e1 : s_or n B (k + 1 + 1) m i = s_or n B (k + 1) q j := by
        show (match s_pa n B m i with | none => 8 * m + i | some j => s_or n B (k + 1) ((s_par n B m).getD 0) j) = _
        rw [hp, hq]; rfl
      have e2 : s_or n B (k + 1) m i = s_or n B k q j := by
        show (match s_pa n B m i with | none => 8 * m + i | some j => s_or n B k ((s_par n B m).getD 0) j) = _
        rw [hp, hq]; rfl
      rw [e1, e2, ih]
theorem s_org_step {n m i j q : Nat} {B : Nat → Nat → Nat} (hB : Bok n B) (h1 : s_pa n B m i = some j) (h2 : s_par n B m = some q) : s_org n B m i = s_org n B q j := by
  have e1 : s_or n B (3 + 1) m i = s_or n B 3 q j := by
    show (match s_pa n B m i with | none => 8 * m + i | some j => s_or n B 3 ((s_par n B m).getD 0) j) = _
    rw [h1, h2]; rfl
  have e2 := s_or_mono (n := n) 3 q j (hB.2.2.2.2.2.1 _)
  unfold s_org
  exact e1.trans e2.symm
theorem s_or_ok {n : Nat} {B : Nat → Nat → Nat} : ∀ (k m i : Nat), m < n → i < B 4 m → ∃ m' i', s_or n B k m i = 8 * m' + i' ∧ m' < n ∧ i' < B 4 m' ∧ B 6 (8 * m' + i') = B 6 (8 * m + i)
  | 0, m, i, hm, hi => ⟨m, i, rfl, hm, hi, rfl⟩
  | k + 1, m, i, hm, hi => by
    cases hp : s_pa n B m i with
    | none => exact ⟨m, i, s_or_none hp, hm, hi, rfl⟩
    | some j =>
      obtain ⟨q, hq, h3, h4, h5, h6⟩ := s_pa_some hp
      obtain ⟨m', i', g1, g2, g3, g4⟩ := s_or_ok k q j h3 h4
      refine ⟨m', i', ?_, g2, g3, g4.trans h6⟩
      show (match s_pa n B m i with | none => 8 * m + i | some j => s_or n B k ((s_par n B m).getD 0) j) = _
      rw [hp, hq]; exact g1
theorem s_org_ok {n m i : Nat} {B : Nat → Nat → Nat} (hB : Bok n B) (hm : m < n) (hi : i < B 4 m) : s_org n B m i / 8 < n ∧ s_org n B m i % 8 < B 4 (s_org n B m i / 8) ∧ B 6 (8 * (s_org n B m i / 8) + s_org n B m i % 8) = B 6 (8 * m + i) := by
  obtain ⟨m', i', g1, g2, g3, g4⟩ := s_or_ok (n := n) (B := B) 4 m i hm hi
  have h8 := hB.2.2.1 m'
  have e : s_org n B m i = 8 * m' + i' := g1
  have e1 : s_org n B m i / 8 = m' := by omega
  have e2 : s_org n B m i % 8 = i' := by omega
  rw [e1, e2]
  exact ⟨g2, g3, g4⟩
theorem s_org_none {n m i : Nat} {B : Nat → Nat → Nat} (hB : Bok n B) (hi : i < B 4 m) (h : s_pa n B m i = none) : s_org n B m i / 8 = m ∧ s_org n B m i % 8 = i := by
  have h8 := hB.2.2.1 m
  have e : s_org n B m i = 8 * m + i := s_or_none h
  omega
theorem s_an_ok {n a : Nat} {B : Nat → Nat → Nat} (hB : Bok n B) (ha : a < n) : ∀ {i o : Nat}, i ≤ B 4 a → s_an n B a i = some o → o / 8 < n ∧ o % 8 < B 4 (o / 8)
  | 0, _, _, h => by cases h
  | i + 1, o, hi, h => by
    unfold s_an at h
    split at h
    · cases h
      obtain ⟨h1, h2, -⟩ := s_org_ok hB ha (show i < B 4 a by omega)
      exact ⟨h1, h2⟩
    · exact s_an_ok hB ha (by omega) h
def s_kq (n : Nat) (B : Nat → Nat → Nat) (a j : Nat) : Bool := decide (s_knd n B a j = 113)
theorem s_an_no {n a : Nat} {B : Nat → Nat → Nat} : ∀ {i : Nat}, s_an n B a i = none → an (s_kq n B a) i = false
  | 0, _ => rfl
  | i + 1, h => by
    unfold s_an at h
    split at h
    · cases h
    · rename_i g
      show (an (s_kq n B a) i || s_kq n B a i) = false
      rw [s_an_no h, show s_kq n B a i = false from decide_eq_false g]
      rfl
theorem s_an_ye {n a o : Nat} {B : Nat → Nat → Nat} : ∀ {i : Nat}, s_an n B a i = some o → an (s_kq n B a) i = true
  | 0, h => by cases h
  | i + 1, h => by
    unfold s_an at h
    show (an (s_kq n B a) i || s_kq n B a i) = true
    split at h
    · rename_i g
      rw [show s_kq n B a i = true from decide_eq_true g, Bool.or_true]
    · rw [s_an_ye h, Bool.true_or]
/-! kinds -/
theorem knd_q {n m k j : Nat} {B : Nat → Nat → Nat} (h : s_pa n B m k = some j) : s_knd n B m k = 113 := by
  obtain ⟨q, -, -, -, h5, -⟩ := s_pa_some h
  unfold s_knd
  rw [if_neg (by omega), if_pos (by rw [h]; simp)]
theorem knd_nq {n m k : Nat} {B : Nat → Nat → Nat} (h : s_pa n B m k = none) : ¬ s_knd n B m k = 113 := by
  unfold s_knd
  rw [h]
  simp only [ne_eq, not_true_eq_false, if_false]
  intro g
  repeat (first | omega | split at g)
theorem s_sgN_sp {n a : Nat} {B : Nat → Nat → Nat} : ∀ K, s_sgN n B a K = 0 ∨ ∃ b, s_eq B a b (s_sgN n B a K) = true
  | 0 => Or.inl rfl
  | K + 1 => by
    unfold s_sgN
    split
    · rename_i h
      obtain ⟨j, -, h2⟩ := an_some h
      unfold s_sgp s_ea at h2
      simp at h2
      exact Or.inr ⟨j, h2.2.2⟩
    · exact s_sgN_sp K
theorem s_eq_at {B : Nat → Nat → Nat} {a b : Nat} : ∀ {K : Nat}, s_eq B a b K = true → ∀ k, 1 ≤ k → k ≤ K → s_tl B a b k = true
  | 0, _, k, h1, h2 => by omega
  | K + 1, h, k, h1, h2 => by
    have h := Bool.and_eq_true_iff.mp (show (s_eq B a b K && s_tl B a b (K + 1)) = true from h)
    by_cases e : k = K + 1
    · rw [e]; exact h.2
    · exact s_eq_at h.1 k h1 (by omega)
theorem s_sig_m0 {n m k : Nat} {B : Nat → Nat → Nat} (h : B 4 m - s_sig n B m ≤ k) (hk : k < B 4 m) : B 5 (8 * m + k) = 0 := by
  rcases s_sgN_sp (n := n) (a := m) (B := B) 3 with q | ⟨b, q⟩
  · have : s_sig n B m = 0 := q
    omega
  · have h1 := s_eq_at q (B 4 m - k) (by omega) (by have : s_sgN n B m 3 = s_sig n B m := rfl; omega)
    unfold s_tl at h1
    have h2 := of_decide_eq_true (Bool.and_eq_true_iff.mp h1).1
    rw [show 8 * m + B 4 m - (B 4 m - k) = 8 * m + k by omega] at h2
    exact h2
theorem knd_s {n m k : Nat} {B : Nat → Nat → Nat} (hk : k < B 4 m) : s_knd n B m k = 115 ↔ B 4 m - s_sig n B m ≤ k := by
  constructor
  · intro h
    unfold s_knd at h
    split at h
    · split at h
      · assumption
      · omega
    · exfalso
      repeat (first | omega | split at h)
  · intro h
    unfold s_knd
    rw [if_pos (s_sig_m0 h hk), if_pos h]
theorem knd_rd {n m k : Nat} {B : Nat → Nat → Nat} (h : s_knd n B m k = 114 ∨ s_knd n B m k = 100) : s_par n B m = none := by
  unfold s_knd at h
  split at h
  · exfalso
    split at h <;> omega
  · split at h
    · omega
    · split at h
      · omega
      · rename_i g
        cases hp : s_par n B m with
        | none => rfl
        | some q => exact absurd (Or.inr (Or.inr (by rw [hp]; simp))) g
/-! sums over lines -/
def s1 (f : Nat → Nat) : Nat → Nat
  | 0 => 0
  | k + 1 => s1 f k + f k
def SS (f : Nat → Nat → Nat) (c : Nat → Nat) : Nat → Nat
  | 0 => 0
  | z + 1 => SS f c z + s1 (f z) (c z)
theorem s1_ct (p : Nat → Bool) : ∀ j, s1 (fun k => if p k = true then 1 else 0) j = ct p j
  | 0 => rfl
  | j + 1 => by
    show s1 (fun k => if p k = true then 1 else 0) j + (if p j = true then 1 else 0) = ct p j + (if p j = true then 1 else 0)
    rw [s1_ct p j]
theorem SS_sm (p : Nat → Nat → Bool) (c : Nat → Nat) : ∀ z, SS (fun m k => if p m k = true then 1 else 0) c z = sm p c z
  | 0 => rfl
  | z + 1 => by
    show SS (fun m k => if p m k = true then 1 else 0) c z + s1 (fun k => if p z k = true then 1 else 0) (c z) = sm p c z + ct (p z) (c z)
    rw [SS_sm p c z, s1_ct]
theorem s1_le {f g : Nat → Nat} : ∀ j, (∀ k, k < j → f k ≤ g k) → s1 f j ≤ s1 g j
  | 0, _ => Nat.le_refl 0
  | j + 1, h => Nat.add_le_add (s1_le j (fun k hk => h k (by omega))) (h j (by omega))
theorem SS_le {f g : Nat → Nat → Nat} {c : Nat → Nat} : ∀ z, (∀ m k, m < z → k < c m → f m k ≤ g m k) → SS f c z ≤ SS g c z
  | 0, _ => Nat.le_refl 0
  | z + 1, h => Nat.add_le_add (SS_le z (fun m k hm hk => h m k (by omega) hk)) (s1_le _ (fun k hk => h z k (by omega) hk))
theorem s1_add (f g : Nat → Nat) : ∀ j, s1 (fun k => f k + g k) j = s1 f j + s1 g j
  | 0 => rfl
  | j + 1 => by
    show s1 (fun k => f k + g k) j + (f j + g j) = (s1 f j + f j) + (s1 g j + g j)
    rw [s1_add f g j]; omega
theorem SS_add (f g : Nat → Nat → Nat) (c : Nat → Nat) : ∀ z, SS (fun m k => f m k + g m k) c z = SS f c z + SS g c z
  | 0 => rfl
  | z + 1 => by
    show SS (fun m k => f m k + g m k) c z + s1 (fun k => f z k + g z k) (c z) = (SS f c z + s1 (f z) (c z)) + (SS g c z + s1 (g z) (c z))
    rw [SS_add f g c z, s1_add]; omega
theorem s1_zero : ∀ j, s1 (fun _ => 0) j = 0
  | 0 => rfl
  | j + 1 => s1_zero j
theorem SS_zero (c : Nat → Nat) : ∀ z, SS (fun _ _ => 0) c z = 0
  | 0 => rfl
  | z + 1 => by
    show SS (fun _ _ => 0) c z + s1 (fun _ => 0) (c z) = 0
    rw [SS_zero c z, s1_zero]
theorem SS_com1 (g : Nat → Nat → Nat → Nat) (c : Nat → Nat) (z : Nat) : ∀ j, SS (fun m k => s1 (g m k) j) c z = s1 (fun k' => SS (fun m k => g m k k') c z) j
  | 0 => SS_zero c z
  | j + 1 => by
    show SS (fun m k => s1 (g m k) j + g m k j) c z = s1 (fun k' => SS (fun m k => g m k k') c z) j + SS (fun m k => g m k j) c z
    rw [SS_add, SS_com1 g c z j]
theorem SS_com (g : Nat → Nat → Nat → Nat → Nat) (c d : Nat → Nat) (z : Nat) : ∀ y, SS (fun m k => SS (g m k) d y) c z = SS (fun m' k' => SS (fun m k => g m k m' k') c z) d y
  | 0 => SS_zero c z
  | y + 1 => by
    show SS (fun m k => SS (g m k) d y + s1 (g m k y) (d y)) c z = SS (fun m' k' => SS (fun m k => g m k m' k') c z) d y + s1 (fun k' => SS (fun m k => g m k y k') c z) (d y)
    rw [SS_add, SS_com g c d z y, SS_com1 (fun m k k' => g m k y k') c z (d y)]
theorem s1_one (a z : Nat) : ∀ j, s1 (fun k => if a = 8 * z + k then 1 else 0) j ≤ if 8 * z ≤ a ∧ a < 8 * z + j then 1 else 0
  | 0 => Nat.zero_le _
  | j + 1 => by
    have ih := s1_one a z j
    show s1 (fun k => if a = 8 * z + k then 1 else 0) j + (if a = 8 * z + j then 1 else 0) ≤ _
    by_cases h : a = 8 * z + j
    · rw [if_neg (show ¬ (8 * z ≤ a ∧ a < 8 * z + j) by omega)] at ih
      rw [if_pos h, if_pos (by omega)]
      omega
    · rw [if_neg h]
      by_cases h2 : 8 * z ≤ a ∧ a < 8 * z + j
      · rw [if_pos h2] at ih
        rw [if_pos (by omega)]
        omega
      · rw [if_neg h2] at ih
        omega
theorem SS_one {c : Nat → Nat} (hc : ∀ m, c m ≤ 8) (a : Nat) : ∀ z, SS (fun m k => if a = 8 * m + k then 1 else 0) c z ≤ if a < 8 * z then 1 else 0
  | 0 => Nat.zero_le _
  | z + 1 => by
    have ih := SS_one hc a z
    have h1 := s1_one a z (c z)
    have h8 := hc z
    show SS (fun m k => if a = 8 * m + k then 1 else 0) c z + s1 (fun k => if a = 8 * z + k then 1 else 0) (c z) ≤ _
    by_cases g : a < 8 * z
    · rw [if_pos g] at ih
      rw [if_neg (by omega)] at h1
      rw [if_pos (by omega)]
      omega
    · rw [if_neg g] at ih
      by_cases g2 : 8 * z ≤ a ∧ a < 8 * z + c z
      · rw [if_pos g2] at h1
        rw [if_pos (by omega)]
        omega
      · rw [if_neg g2] at h1
        omega
theorem SS_one1 {c : Nat → Nat} (hc : ∀ m, c m ≤ 8) (a z : Nat) : SS (fun m k => if a = 8 * m + k then 1 else 0) c z ≤ 1 := by
  have h := SS_one hc a z
  have : (if a < 8 * z then 1 else 0) ≤ 1 := by split <;> omega
  omega
theorem s1_1 : ∀ j, s1 (fun _ => 1) j = j
  | 0 => rfl
  | j + 1 => by
    show s1 (fun _ => 1) j + 1 = j + 1
    rw [s1_1 j]
theorem SS_1 (B : Nat → Nat → Nat) : ∀ z, SS (fun _ _ => 1) (B 4) z = s_sl B z
  | 0 => rfl
  | z + 1 => by
    show SS (fun _ _ => 1) (B 4) z + s1 (fun _ => 1) (B 4 z) = s_sl B z + B 4 z
    rw [SS_1 B z, s1_1]
def cpf (n : Nat) (B : Nat → Nat → Nat) (m k : Nat) : Nat := if s_talk n B m k = true then sm (s_cpp n B (8 * m + k)) (B 4) n else 0
def asf (n : Nat) (B : Nat → Nat → Nat) (m k : Nat) : Nat := sm (s_anp n B (8 * m + k)) (B 4) n
theorem cp_le {n : Nat} {B : Nat → Nat → Nat} (hB : Bok n B) : SS (cpf n B) (B 4) n ≤ s_sl B n := by
  have h1 : SS (cpf n B) (B 4) n ≤ SS (fun m k => SS (fun m' k' => if s_cpp n B (8 * m + k) m' k' = true then 1 else 0) (B 4) n) (B 4) n := by
    refine SS_le n (fun m k _ _ => ?_)
    unfold cpf
    split
    · rw [SS_sm]; exact Nat.le_refl _
    · exact Nat.zero_le _
  rw [SS_com (fun m k m' k' => if s_cpp n B (8 * m + k) m' k' = true then 1 else 0)] at h1
  refine Nat.le_trans h1 ?_
  rw [← SS_1]
  refine SS_le n (fun m' k' _ _ => ?_)
  refine Nat.le_trans (SS_le n (g := fun m k => if s_org n B m' k' = 8 * m + k then 1 else 0) (fun m k _ _ => ?_)) (SS_one1 hB.2.2.1 (s_org n B m' k') n)
  unfold s_cpp
  by_cases h : s_org n B m' k' = 8 * m + k
  · rw [if_pos h]; split <;> omega
  · rw [if_neg h, if_neg (by simp [h])]
    exact Nat.le_refl 0
theorem as_le {n : Nat} {B : Nat → Nat → Nat} (hB : Bok n B) : SS (asf n B) (B 4) n ≤ s_tk n B := by
  have h1 : SS (asf n B) (B 4) n = SS (fun m k => SS (fun m' k' => if s_anp n B (8 * m + k) m' k' = true then 1 else 0) (B 4) n) (B 4) n := by
    have e : asf n B = fun m k => SS (fun m' k' => if s_anp n B (8 * m + k) m' k' = true then 1 else 0) (B 4) n := by
      funext m k
      rw [SS_sm]; rfl
    rw [e]
  rw [h1, SS_com (fun m k m' k' => if s_anp n B (8 * m + k) m' k' = true then 1 else 0)]
  unfold s_tk
  rw [← SS_sm]
  refine SS_le n (fun m' k' _ _ => ?_)
  by_cases hk : s_knd n B m' k' = 110
  · have ht : s_talk n B m' k' = true := by unfold s_talk; rw [hk]; rfl
    rw [if_pos ht]
    cases ho : s_an n B m' k' with
    | none =>
      refine Nat.le_trans (SS_le n (g := fun _ _ => 0) (fun m k _ _ => ?_)) (by rw [SS_zero]; exact Nat.zero_le _)
      rw [if_neg (by unfold s_anp; rw [ho]; simp)]
      exact Nat.le_refl 0
    | some o =>
      refine Nat.le_trans (SS_le n (g := fun m k => if o = 8 * m + k then 1 else 0) (fun m k _ _ => ?_)) (SS_one1 hB.2.2.1 o n)
      by_cases h : o = 8 * m + k
      · rw [if_pos h]; split <;> omega
      · rw [if_neg h, if_neg (by unfold s_anp; rw [ho]; simp [h])]
        exact Nat.le_refl 0
  · refine Nat.le_trans (SS_le n (g := fun _ _ => 0) (fun m k _ _ => ?_)) (by rw [SS_zero]; exact Nat.zero_le _)
    rw [if_neg (by unfold s_anp; simp [hk])]
    exact Nat.le_refl 0
theorem sm_pos {p : Nat → Nat → Bool} {c : Nat → Nat} {m k : Nat} (h : p m k = true) (hk : k < c m) : ∀ z, m < z → 0 < sm p c z
  | 0, hz => absurd hz (Nat.not_lt_zero _)
  | z + 1, hz => by
    show 0 < sm p c z + ct (p z) (c z)
    by_cases e : m = z
    · subst e
      have := ct_pos h (c m) hk
      omega
    · have := sm_pos h hk z (by omega)
      omega
theorem sm_80 {n : Nat} {B : Nat → Nat → Nat} (hB : Bok n B) (p : Nat → Nat → Bool) : sm p (B 4) n ≤ 80 := by
  have h1 := sm_le (p := p) hB.2.2.1 n
  have h2 := hB.1
  omega
theorem cop_pos {n m k : Nat} {B : Nat → Nat → Nat} (hB : Bok n B) (hm : m < n) (hk : k < B 4 m) (h : s_talk n B m k = true) : 0 < sm (s_cpp n B (8 * m + k)) (B 4) n := by
  have h8 := hB.2.2.1 m
  have e1 : (8 * m + k) / 8 = m := by omega
  have e2 : (8 * m + k) % 8 = k := by omega
  have h1 : s_tl8 n B (8 * m + k) = true := by
    unfold s_tl8 s_ln
    rw [e1, e2, h]
    simp [hk]
  have h2 := (tl8_org hB h1).2
  rw [e1, e2] at h2
  exact sm_pos (m := m) (k := k) (by unfold s_cpp; exact decide_eq_true h2) hk n hm
theorem asn_pos {n m k o : Nat} {B : Nat → Nat → Nat} (hm : m < n) (hk : k < B 4 m) (h : s_knd n B m k = 110) (ho : s_an n B m k = some o) : 0 < sm (s_anp n B o) (B 4) n :=
  sm_pos (m := m) (k := k) (by unfold s_anp; rw [h, ho]; simp) hk n hm
theorem asf_le {n : Nat} {B : Nat → Nat → Nat} (hB : Bok n B) (m k : Nat) : asf n B m k ≤ 80 := sm_80 hB _
theorem cpf_le {n : Nat} {B : Nat → Nat → Nat} (hB : Bok n B) (m k : Nat) : cpf n B m k ≤ 80 := by
  unfold cpf
  split
  · exact sm_80 hB _
  · exact Nat.zero_le _
/-! the words are at least 1 -/
def BW (n : Nat) (B : Nat → Nat → Nat) : Prop := ∀ m k, m < n → k < B 4 m → 1 ≤ B 6 (8 * m + k)
theorem BW_ad {n u a w : Nat} {B : Nat → Nat → Nat} (hB : Bok n B) (hW : BW n B) (hc : B 4 u < 8) (hw : 1 ≤ w) : BW n (b_up (b_up (b_up B 5 (8 * u + B 4 u) a) 6 (8 * u + B 4 u) w) 4 u (B 4 u + 1)) := by
  intro m k hm hk
  have h8 := hB.2.2.1 m
  by_cases e : m = u
  · subst e
    rw [show (b_up (b_up (b_up B 5 (8 * m + B 4 m) a) 6 (8 * m + B 4 m) w) 4 m (B 4 m + 1)) 4 m = B 4 m + 1 from by simp [b_up_at]] at hk
    by_cases e2 : k = B 4 m
    · subst e2
      simp [b_up_at]
      exact hw
    · have := hW m k hm (by omega)
      have ne : ¬ 8 * m + k = 8 * m + B 4 m := by omega
      simp [b_up_at, ne]
      simpa [e2] using this
  · rw [show (b_up (b_up (b_up B 5 (8 * u + B 4 u) a) 6 (8 * u + B 4 u) w) 4 u (B 4 u + 1)) 4 m = B 4 m from by simp [b_up_at, e]] at hk
    have := hW m k hm hk
    have ne : ¬ 8 * m + k = 8 * u + B 4 u := by omega
    simp only [b_up_at]
    rw [if_neg (by simp), if_neg (by intro q; exact ne q.2), if_neg (by simp)]
    exact this
theorem BW_rm {n u : Nat} {B : Nat → Nat → Nat} (hW : BW n B) : BW n (b_up B 4 u (B 4 u - 1)) := by
  intro m k hm hk
  simp only [b_up_at] at hk ⊢
  rw [if_neg (by simp)]
  refine hW m k hm ?_
  split at hk
  · rename_i e
    rw [e.2]
    omega
  · exact hk
theorem BW_ar {n d a t r : Nat} {B : Nat → Nat → Nat} (hB : Bok n B) (hW : BW n B) : BW (n + 1) (b_up (b_up (b_up (b_up B 0 n d) 1 n a) 2 n t) 3 n r) := by
  intro m k hm hk
  rw [ar_x (by decide)] at hk ⊢
  by_cases e : m = n
  · rw [e, hB.2.2.2.2.2.2 n (Nat.le_refl n)] at hk
    omega
  · exact hW m k (by omega) hk
