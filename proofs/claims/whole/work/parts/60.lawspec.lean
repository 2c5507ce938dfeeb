/-! THE LAW: its world, its loop's state, the turns of its world -/
abbrev tyW (cI cZ cA cL cD : ClassId) : List (ClassId × FieldType) := [(cI, .int), (cZ, .boolean), (cA, .array .int), (cL, .long), (cD, .double)]
def LA (s : State) : Nat → Prop := fun q => s.heap.size ≤ q
theorem wd_cm {D : va_G} {A : Nat → Prop} {H : Heap} {a b : va_W} (hP : va_P D vwCl (a ++ b) H) (hD : va_D A (a ++ b)) : va_P D vwCl (b ++ a) H ∧ va_D A (b ++ a) := ⟨va_cmP hP, va_cmD hD⟩
theorem A2R {D : va_G} {A : Nat → Prop} {H : Heap} {M E L X : va_W} (hP : va_P D vwCl ((M ++ E) ++ (L ++ X)) H) (hD : va_D A ((M ++ E) ++ (L ++ X))) : va_P D vwCl (((L ++ X) ++ E) ++ M) H ∧ va_D A (((L ++ X) ++ E) ++ M) := by
  obtain ⟨p1, d1⟩ := wd_cm hP hD
  rw [← List.append_assoc (L ++ X) M E] at p1 d1
  exact ⟨p1.swap, d1.swap⟩
theorem R2A {D : va_G} {A : Nat → Prop} {H : Heap} {M E L X : va_W} (hP : va_P D vwCl (((L ++ X) ++ E) ++ M) H) (hD : va_D A (((L ++ X) ++ E) ++ M)) : va_P D vwCl ((M ++ E) ++ (L ++ X)) H ∧ va_D A ((M ++ E) ++ (L ++ X)) := by
  have p1 := hP.swap
  have d1 := hD.swap
  rw [List.append_assoc (L ++ X) M E] at p1 d1
  exact wd_cm p1 d1
theorem A2B {D : va_G} {A : Nat → Prop} {H : Heap} {M E L X : va_W} (hP : va_P D vwCl ((M ++ E) ++ (L ++ X)) H) (hD : va_D A ((M ++ E) ++ (L ++ X))) : va_P D vwCl ((M ++ L) ++ (E ++ X)) H ∧ va_D A ((M ++ L) ++ (E ++ X)) := by
  rw [← List.append_assoc (M ++ E) L X] at hP hD
  obtain ⟨p1, d1⟩ := wd_cm hP hD
  rw [← List.append_assoc X (M ++ E) L, ← List.append_assoc X M E] at p1 d1
  have p2 := p1.swap
  have d2 := d1.swap
  rw [List.append_assoc (X ++ M) L E, List.append_assoc X M (L ++ E)] at p2 d2
  obtain ⟨p3, d3⟩ := wd_cm p2 d2
  rw [← List.append_assoc M L E, List.append_assoc (M ++ L) E X] at p3 d3
  exact ⟨p3, d3⟩
theorem A2X {D : va_G} {A : Nat → Prop} {H : Heap} {M E L X : va_W} (hP : va_P D vwCl ((M ++ E) ++ (L ++ X)) H) (hD : va_D A ((M ++ E) ++ (L ++ X))) : va_P D vwCl (((M ++ E) ++ L) ++ X) H ∧ va_D A (((M ++ E) ++ L) ++ X) := by
  rw [← List.append_assoc (M ++ E) L X] at hP hD
  exact ⟨hP, hD⟩
theorem X2A {D : va_G} {A : Nat → Prop} {H : Heap} {M E L X : va_W} (hP : va_P D vwCl (((M ++ E) ++ L) ++ X) H) (hD : va_D A (((M ++ E) ++ L) ++ X)) : va_P D vwCl ((M ++ E) ++ (L ++ X)) H ∧ va_D A ((M ++ E) ++ (L ++ X)) := by
  rw [List.append_assoc (M ++ E) L X] at hP hD
  exact ⟨hP, hD⟩
/-- what stays through the law -/
def LC (p : Program) (s : State) (m : MethodId) (c : Code) (b L : Nat) (xs : Nat → Int32) (D : va_G) (cI cZ cA cL cD : ClassId) : Prop := p.tables.exec = Jvm.exec ∧ c.code = cL_law ∧ c.maxLocals = 9 ∧ s.vm.findClass RL = some m.cls ∧ (∀ w ∈ wsL_law, w.before #[Value.ref b] s = true) ∧ va_X b L xs s s.heap ∧ b < s.heap.size ∧ L ≤ 2560 ∧ va_K D vwCl (tyW cI cZ cA cL cD) s ∧ EV (LA s) s s.heap ∧ NCs s
/-- the state between two turns of the loop -/
def LSt (D : va_G) (cI cZ cA cL cD : ClassId) (ax ad : Nat → Nat) (o od n : Nat) (B : Nat → Nat → Nat) (s : State) (H : Heap) (locs : List Loc) : Prop := Bok n B ∧ ∃ (Q : Nat → Option Nat) (cn : Nat → Bool) (rt : Nat → Nat) (wd qf : Nat → Option Nat) (T : Nat → Nat → Nat) (th : Nat) (P : Nat → Option Nat) (bs : Nat → Nat) (vo : Int64) (vd : UInt64), QA n B Q ∧ TB T ∧ va_P D vwCl ((wM cI ad th n B P bs ++ [oD od cD vd]) ++ ([oL o cL vo] ++ wX cI cZ cA ax n B Q cn rt wd qf T)) H ∧ va_D (LA s) ((wM cI ad th n B P bs ++ [oD od cD vd]) ++ ([oL o cL vo] ++ wX cI cZ cA ax n B Q cn rt wd qf T)) ∧ va_S (LA s) s.heap H locs
abbrev LV (b : Nat) (ax ad : Nat → Nat) (o od i : Nat) : List (Nat × Value) := [(0, .ref b), (1, .ref (ax 0)), (2, .ref (ad 0)), (3, .ref o), (4, .ref od), (5, .int (nI i))]
/-- the loop's end of a turn, with the state that came -/
def KK (p : Program) (l : Launch) (e : Env) (s : State) (m : MethodId) (below : List Frame) (meth : Method) (c : Code) (b : Nat) (D : va_G) (cI cZ cA cL cD : ClassId) (ax ad : Nat → Nat) (o od i cells slots : Nat) (Z : State → Prop) : Prop := ∀ (n : Nat) (B : Nat → Nat → Nat) (H : Heap) (locs : List Loc) (ls : Array Slot), LSt D cI cZ cA cL cD ax ad o od n B s H locs → lv_has ls 9 (LV b ax ad o od i) → W p l e room_1 s m #[Value.ref b] below meth c H locs (cells + 4) (slots + 24) Z (F0 m 1652 ls [])
theorem hdL_arrive : yL_arrive.cls ≠ "java/lang/invoke/MethodHandle" ∧ yL_arrive.cls ≠ "java/lang/invoke/VarHandle" ∧ (parseMethodDescriptor yL_arrive.desc).map (fun d => d.parameters.length) = some 6 := by decide +kernel
theorem hdL_addLine : yL_addLine.cls ≠ "java/lang/invoke/MethodHandle" ∧ yL_addLine.cls ≠ "java/lang/invoke/VarHandle" ∧ (parseMethodDescriptor yL_addLine.desc).map (fun d => d.parameters.length) = some 5 := by decide +kernel
theorem hdL_removeLine : yL_removeLine.cls ≠ "java/lang/invoke/MethodHandle" ∧ yL_removeLine.cls ≠ "java/lang/invoke/VarHandle" ∧ (parseMethodDescriptor yL_removeLine.desc).map (fun d => d.parameters.length) = some 3 := by decide +kernel
theorem hdL_lines : yL_lines.cls ≠ "java/lang/invoke/MethodHandle" ∧ yL_lines.cls ≠ "java/lang/invoke/VarHandle" ∧ (parseMethodDescriptor yL_lines.desc).map (fun d => d.parameters.length) = some 3 := by decide +kernel
theorem hdL_word : yL_word.cls ≠ "java/lang/invoke/MethodHandle" ∧ yL_word.cls ≠ "java/lang/invoke/VarHandle" ∧ (parseMethodDescriptor yL_word.desc).map (fun d => d.parameters.length) = some 4 := by decide +kernel
theorem hdL_parent : yL_parent.cls ≠ "java/lang/invoke/MethodHandle" ∧ yL_parent.cls ≠ "java/lang/invoke/VarHandle" ∧ (parseMethodDescriptor yL_parent.desc).map (fun d => d.parameters.length) = some 3 := by decide +kernel
theorem hdL_aligned : yL_aligned.cls ≠ "java/lang/invoke/MethodHandle" ∧ yL_aligned.cls ≠ "java/lang/invoke/VarHandle" ∧ (parseMethodDescriptor yL_aligned.desc).map (fun d => d.parameters.length) = some 3 := by decide +kernel
theorem hdL_alignedByTrying : yL_alignedByTrying.cls ≠ "java/lang/invoke/MethodHandle" ∧ yL_alignedByTrying.cls ≠ "java/lang/invoke/VarHandle" ∧ (parseMethodDescriptor yL_alignedByTrying.desc).map (fun d => d.parameters.length) = some 3 := by decide +kernel
theorem hdL_partner : yL_partner.cls ≠ "java/lang/invoke/MethodHandle" ∧ yL_partner.cls ≠ "java/lang/invoke/VarHandle" ∧ (parseMethodDescriptor yL_partner.desc).map (fun d => d.parameters.length) = some 4 := by decide +kernel
theorem hdL_originMail : yL_originMail.cls ≠ "java/lang/invoke/MethodHandle" ∧ yL_originMail.cls ≠ "java/lang/invoke/VarHandle" ∧ (parseMethodDescriptor yL_originMail.desc).map (fun d => d.parameters.length) = some 4 := by decide +kernel
theorem hdL_originLine : yL_originLine.cls ≠ "java/lang/invoke/MethodHandle" ∧ yL_originLine.cls ≠ "java/lang/invoke/VarHandle" ∧ (parseMethodDescriptor yL_originLine.desc).map (fun d => d.parameters.length) = some 4 := by decide +kernel
theorem hdL_kind : yL_kind.cls ≠ "java/lang/invoke/MethodHandle" ∧ yL_kind.cls ≠ "java/lang/invoke/VarHandle" ∧ (parseMethodDescriptor yL_kind.desc).map (fun d => d.parameters.length) = some 4 := by decide +kernel
theorem hdL_signature : yL_signature.cls ≠ "java/lang/invoke/MethodHandle" ∧ yL_signature.cls ≠ "java/lang/invoke/VarHandle" ∧ (parseMethodDescriptor yL_signature.desc).map (fun d => d.parameters.length) = some 3 := by decide +kernel
theorem hdL_answersMail : yL_answersMail.cls ≠ "java/lang/invoke/MethodHandle" ∧ yL_answersMail.cls ≠ "java/lang/invoke/VarHandle" ∧ (parseMethodDescriptor yL_answersMail.desc).map (fun d => d.parameters.length) = some 4 := by decide +kernel
theorem hdL_answersLine : yL_answersLine.cls ≠ "java/lang/invoke/MethodHandle" ∧ yL_answersLine.cls ≠ "java/lang/invoke/VarHandle" ∧ (parseMethodDescriptor yL_answersLine.desc).map (fun d => d.parameters.length) = some 4 := by decide +kernel
theorem hdL_answers : yL_answers.cls ≠ "java/lang/invoke/MethodHandle" ∧ yL_answers.cls ≠ "java/lang/invoke/VarHandle" ∧ (parseMethodDescriptor yL_answers.desc).map (fun d => d.parameters.length) = some 4 := by decide +kernel
theorem hdL_copies : yL_copies.cls ≠ "java/lang/invoke/MethodHandle" ∧ yL_copies.cls ≠ "java/lang/invoke/VarHandle" ∧ (parseMethodDescriptor yL_copies.desc).map (fun d => d.parameters.length) = some 4 := by decide +kernel
theorem hdL_root : yL_root.cls ≠ "java/lang/invoke/MethodHandle" ∧ yL_root.cls ≠ "java/lang/invoke/VarHandle" ∧ (parseMethodDescriptor yL_root.desc).map (fun d => d.parameters.length) = some 3 := by decide +kernel
theorem hdL_rootByRounds : yL_rootByRounds.cls ≠ "java/lang/invoke/MethodHandle" ∧ yL_rootByRounds.cls ≠ "java/lang/invoke/VarHandle" ∧ (parseMethodDescriptor yL_rootByRounds.desc).map (fun d => d.parameters.length) = some 3 := by decide +kernel
theorem hdL_size : yL_size.cls ≠ "java/lang/invoke/MethodHandle" ∧ yL_size.cls ≠ "java/lang/invoke/VarHandle" ∧ (parseMethodDescriptor yL_size.desc).map (fun d => d.parameters.length) = some 3 := by decide +kernel
theorem hdL_newShare : yL_newShare.cls ≠ "java/lang/invoke/MethodHandle" ∧ yL_newShare.cls ≠ "java/lang/invoke/VarHandle" ∧ (parseMethodDescriptor yL_newShare.desc).map (fun d => d.parameters.length) = some 2 := by decide +kernel
theorem hdL_meanSize : yL_meanSize.cls ≠ "java/lang/invoke/MethodHandle" ∧ yL_meanSize.cls ≠ "java/lang/invoke/VarHandle" ∧ (parseMethodDescriptor yL_meanSize.desc).map (fun d => d.parameters.length) = some 2 := by decide +kernel
theorem b_s_lines (n : Nat) (B : Nat → Nat → Nat) (u : Int32) : (s_lines n B u).1 ≤ 3 := by
  unfold s_lines
  try unfold s_ocode
  (repeat' split) <;> simp
theorem b_s_word (n : Nat) (B : Nat → Nat → Nat) (u w : Int32) : (s_word n B u w).1 ≤ 3 := by
  unfold s_word
  try unfold s_ocode
  (repeat' split) <;> simp
theorem b_s_parent (n : Nat) (B : Nat → Nat → Nat) (u : Int32) : (s_parent n B u).1 ≤ 3 := by
  unfold s_parent
  try unfold s_ocode
  (repeat' split) <;> simp
theorem b_s_pr (n : Nat) (B : Nat → Nat → Nat) (u w : Int32) : (s_pr n B u w).1 ≤ 3 := by
  unfold s_pr
  try unfold s_ocode
  (repeat' split) <;> simp
theorem b_s_orc (n : Nat) (B : Nat → Nat → Nat) (u w : Int32) : (s_orc n B u w).1 ≤ 3 := by
  unfold s_orc
  try unfold s_ocode
  (repeat' split) <;> simp
theorem b_s_kd (n : Nat) (B : Nat → Nat → Nat) (u w : Int32) : (s_kd n B u w).1 ≤ 3 := by
  unfold s_kd
  try unfold s_ocode
  (repeat' split) <;> simp
theorem b_s_sgc (n : Nat) (B : Nat → Nat → Nat) (u : Int32) : (s_sgc n B u).1 ≤ 3 := by
  unfold s_sgc
  try unfold s_ocode
  (repeat' split) <;> simp
theorem b_s_ans (n : Nat) (B : Nat → Nat → Nat) (u w : Int32) : (s_ans n B u w).1 ≤ 3 := by
  unfold s_ans
  try unfold s_ocode
  (repeat' split) <;> simp
theorem b_s_asn (n : Nat) (B : Nat → Nat → Nat) (u w : Int32) : (s_asn n B u w).1 ≤ 3 := by
  unfold s_asn
  try unfold s_ocode
  (repeat' split) <;> simp
theorem b_s_cop (n : Nat) (B : Nat → Nat → Nat) (u w : Int32) : (s_cop n B u w).1 ≤ 3 := by
  unfold s_cop
  try unfold s_ocode
  (repeat' split) <;> simp
theorem b_s_rtc (n : Nat) (B : Nat → Nat → Nat) (u : Int32) : (s_rtc n B u).1 ≤ 3 := by
  unfold s_rtc
  try unfold s_ocode
  (repeat' split) <;> simp
theorem b_s_sz (n : Nat) (B : Nat → Nat → Nat) (u : Int32) : (s_sz n B u).1 ≤ 3 := by
  unfold s_sz
  try unfold s_ocode
  (repeat' split) <;> simp
theorem b_s_alc (n : Nat) (B : Nat → Nat → Nat) (u : Int32) : (s_alc n B u).1 ≤ 3 := by
  unfold s_alc
  try unfold s_ocode
  (repeat' split) <;> simp
theorem b_s_arc (n : Nat) (B : Nat → Nat → Nat) (u x y g : Int32) : s_arc n B u x y g ≤ 3 := by
  unfold s_arc
  try unfold s_ocode
  (repeat' split) <;> simp
theorem b_s_adc (n : Nat) (B : Nat → Nat → Nat) (u k w : Int32) : s_adc n B u k w ≤ 3 := by
  unfold s_adc
  try unfold s_ocode
  (repeat' split) <;> simp
theorem b_s_rmc (n : Nat) (B : Nat → Nat → Nat) (u : Int32) : s_rmc n B u ≤ 3 := by
  unfold s_rmc
  try unfold s_ocode
  (repeat' split) <;> simp
theorem nI_0of {k : Nat} (h : k ≤ 3) (q : nI k = 0) : k = 0 := (nI_z (show k < 2 ^ 31 by omega)).mp q
theorem nI_n0 {k : Nat} (h : k = 0) : nI k = 0 := by rw [h]; rfl
