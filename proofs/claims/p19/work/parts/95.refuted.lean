/-- the witness's own start, with one class more: of kind 'array of int', of another name, with a clone() that throws; the cell of FIRST_VALUES is of it -/
def bq_bad : Class := { start1.cArr "Bad" 12 .int with methods := #[Lib.HandJ.method "clone" "()Ljava/lang/Object;" [] (some (.object "java/lang/Object")) 0x1 1 ⟨#[0x2a, 0xbf]⟩] }
def bq_cell : Cell := { cls := 17, slots := (start1.about.heap.getD 2 default).slots, vm := .none }
def bq_about : State := { start1.about with vm := { start1.about.vm with classes := start1.about.vm.classes.push bq_bad }, heap := start1.about.heap.setIfInBounds 2 bq_cell }
/-- the frame below the law, as the witness has it -/
def bq_isB : Frame → Bool
  | .native g => decide (g.method = ⟨0, 0⟩) && decide (g.args = #[]) && decide (g.stage = 0) && decide (g.saved = #[]) && decide (g.awaiting = false) && decide (g.answer = none) && decide (g.locked = none) && decide (g.words = 0)
  | _ => false
theorem bq_isB_eq {f : Frame} (h : bq_isB f = true) : [f] = Lib.HandBits.below0 := by
  cases f with
  | native g =>
    obtain ⟨a1, a2, a3, a4, a5, a6, a7, a8⟩ := g
    simp only [bq_isB, Bool.and_eq_true, decide_eq_true_eq] at h
    obtain ⟨⟨⟨⟨⟨⟨⟨rfl, rfl⟩, rfl⟩, rfl⟩, rfl⟩, rfl⟩, rfl⟩, rfl⟩ := h
    rfl
  | _ => simp [bq_isB] at h
def bq_last : List Frame → Bool
  | [] => false
  | [f] => bq_isB f
  | _ :: r => bq_last r
theorem bq_last_eq : ∀ l : List Frame, bq_last l = true → ∃ ab, l = ab ++ Lib.HandBits.below0
  | [], h => by simp [bq_last] at h
  | [f], h => ⟨[], by rw [List.nil_append]; exact bq_isB_eq (by simpa [bq_last] using h)⟩
  | a :: b :: r, h => by
    obtain ⟨ab, e⟩ := bq_last_eq (b :: r) (by simpa [bq_last] using h)
    exact ⟨a :: ab, by rw [e]; rfl⟩
def bq_isT : Frame → Bool
  | .throwing _ => true
  | _ => false
/-- the run goes on above the frame below, until an exception leaves the law's frame -/
def bq_go (tb : Tables) (e : Env) : Nat → State → Bool
  | 0, _ => false
  | n + 1, s => match s.frames with
    | [.throwing _, f] => bq_isB f
    | a :: b :: r => bq_last (b :: r) && !(bq_isT a && r.isEmpty) && decide (s.status = .running) && decide (s.curStatus? = some .runnable) && decide (s.alone = true) && bq_go tb e n (stepThread tb e s).1
    | _ => false
theorem bq_within {s : State} {a b : Frame} {r : List Frame} (hf : s.frames = a :: b :: r) (h1 : bq_last (b :: r) = true) (h2 : (!(bq_isT a && r.isEmpty)) = true) : Within s Lib.HandBits.below0 := by
  obtain ⟨ab, e⟩ := bq_last_eq _ h1
  refine ⟨a :: ab, by rw [hf, e]; rfl, by simp, fun x hx => ?_⟩
  have hl : ab = [] := (List.cons.inj hx).2
  have ha : a = .throwing x := (List.cons.inj hx).1
  have hr : r = [] := by
    rw [hl] at e
    have := congrArg List.length e
    simp [Lib.HandBits.below0] at this
    exact this
  rw [ha, hr] at h2
  simp [bq_isT] at h2
theorem bq_step (tb : Tables) (e : Env) (n : Nat) {s : State} (h1 : s.status = .running) (h2 : s.curStatus? = some .runnable) (h3 : s.alone = true) : stepsAlone tb e (n + 1) s = stepsAlone tb e n (stepThread tb e s).1 := by
  simp [stepsAlone, h1, h2, h3]
theorem bq_sound (tb : Tables) (e : Env) : ∀ (n : Nat) (s : State), bq_go tb e n s = true → ∃ (k : Nat) (a : Addr), (∀ j, j < k → Within (stepsAlone tb e j s) Lib.HandBits.below0) ∧ Ended (stepsAlone tb e k s) Lib.HandBits.below0 (.threw a) := by
  intro n
  induction n with
  | zero => intro s h; simp [bq_go] at h
  | succ n ih =>
    intro s h
    unfold bq_go at h
    split at h
    · rename_i a f hf
      refine ⟨0, a, fun j hj => absurd hj (Nat.not_lt_zero j), ?_⟩
      show s.frames = .throwing a :: Lib.HandBits.below0
      rw [hf, ← bq_isB_eq h]
    · rename_i a b r _ hf
      simp only [Bool.and_eq_true, decide_eq_true_eq] at h
      obtain ⟨⟨⟨⟨⟨h1, h2⟩, h3⟩, h4⟩, h5⟩, h6⟩ := h
      obtain ⟨k, x, hw, he⟩ := ih _ h6
      refine ⟨k + 1, x, fun j hj => ?_, by rw [bq_step tb e k h3 h4 h5]; exact he⟩
      cases j with
      | zero => exact bq_within hf h1 h2
      | succ j => rw [bq_step tb e j h3 h4 h5]; exact hw j (by omega)
    · simp at h
set_option maxRecDepth 1000000 in
theorem bq_run : bq_go start1.p0.tables start1.e0 400 bq_about = true := by decide +kernel
theorem bq_up {vm : Vm} {b : Class} {n : String} {c : ClassId} (h : vm.findClass n = some c) : ({ vm with classes := vm.classes.push b } : Vm).findClass n = some c := by
  unfold Vm.findClass at h ⊢
  rw [Array.findIdx?_push, h]
  rfl
theorem bq_at {xs : Array Class} {b k : Class} {c : Nat} (h : xs[c]? = some k) : (xs.push b)[c]? = some k := by
  have hl := (Array.getElem?_eq_some_iff.mp h).1
  rw [Array.getElem?_push, if_neg (Nat.ne_of_lt hl)]
  exact h
theorem bq_meth {y : MethodName} {me : Method} (h : (start1.about.methodNamed? y).bind start1.about.vm.method? = some me) : (bq_about.methodNamed? y).bind bq_about.vm.method? = some me := by
  cases hc : start1.about.vm.findClass y.cls with
  | none => simp [State.methodNamed?, hc] at h
  | some c =>
    cases hk : start1.about.vm.classes[c]? with
    | none => simp [State.methodNamed?, hc, hk] at h
    | some k =>
      have hc' : bq_about.vm.findClass y.cls = some c := bq_up hc
      have hk' : bq_about.vm.classes[c]? = some k := bq_at hk
      cases hi : k.findMethod y.name y.desc with
      | none => simp [State.methodNamed?, hc, hk, hi] at h
      | some i =>
        simp only [State.methodNamed?, Vm.method?, hc, hk, hi, Option.bind_eq_bind, Option.bind_some, Option.pure_def] at h
        simp only [State.methodNamed?, Vm.method?, hc', hk', hi, Option.bind_eq_bind, Option.bind_some, Option.pure_def]
        exact h
theorem bq_cw {y : MethodName} {b : ByteArray} {ml : Nat} {r : Option FieldType} (h : (Cond.code y b ml r).before start1.args0 start1.about = true) : (Cond.code y b ml r).before start1.args0 bq_about = true := by
  simp only [Cond.before, Cond.holds, Cond.value] at h ⊢
  cases hm : (start1.about.methodNamed? y).bind start1.about.vm.method? with
  | none => rw [hm] at h; simp at h
  | some me => rw [bq_meth hm]; rw [hm] at h; exact h
set_option maxRecDepth 1000000 in
theorem bq_w1_0 : List.all (List.take 60 tables_1_1) (fun c => su_isCode c || c.before start1.args0 bq_about) = true := by decide +kernel
set_option maxRecDepth 1000000 in
theorem bq_w1_1 : List.all (List.take 60 (List.drop 60 tables_1_1)) (fun c => su_isCode c || c.before start1.args0 bq_about) = true := by decide +kernel
set_option maxRecDepth 1000000 in
theorem bq_w1_2 : List.all (List.take 60 (List.drop 60 (List.drop 60 tables_1_1))) (fun c => su_isCode c || c.before start1.args0 bq_about) = true := by decide +kernel
set_option maxRecDepth 1000000 in
theorem bq_w1_3 : List.all (List.take 60 (List.drop 60 (List.drop 60 (List.drop 60 tables_1_1)))) (fun c => su_isCode c || c.before start1.args0 bq_about) = true := by decide +kernel
set_option maxRecDepth 1000000 in
theorem bq_w1_4 : List.all ((List.drop 60 (List.drop 60 (List.drop 60 (List.drop 60 tables_1_1))))) (fun c => su_isCode c || c.before start1.args0 bq_about) = true := by decide +kernel
theorem bq_w1 : List.all tables_1_1 (fun c => su_isCode c || c.before start1.args0 bq_about) = true := (cut_step _ 60 _ bq_w1_0 (cut_step _ 60 _ bq_w1_1 (cut_step _ 60 _ bq_w1_2 (cut_step _ 60 _ bq_w1_3 bq_w1_4))))
set_option maxRecDepth 1000000 in
theorem bq_w2_0 : List.all (List.take 60 tables_1_2) (fun c => su_isCode c || c.before start1.args0 bq_about) = true := by decide +kernel
set_option maxRecDepth 1000000 in
theorem bq_w2_1 : List.all (List.take 60 (List.drop 60 tables_1_2)) (fun c => su_isCode c || c.before start1.args0 bq_about) = true := by decide +kernel
set_option maxRecDepth 1000000 in
theorem bq_w2_2 : List.all (List.take 60 (List.drop 60 (List.drop 60 tables_1_2))) (fun c => su_isCode c || c.before start1.args0 bq_about) = true := by decide +kernel
set_option maxRecDepth 1000000 in
theorem bq_w2_3 : List.all (List.take 60 (List.drop 60 (List.drop 60 (List.drop 60 tables_1_2)))) (fun c => su_isCode c || c.before start1.args0 bq_about) = true := by decide +kernel
set_option maxRecDepth 1000000 in
theorem bq_w2_4 : List.all ((List.drop 60 (List.drop 60 (List.drop 60 (List.drop 60 tables_1_2))))) (fun c => su_isCode c || c.before start1.args0 bq_about) = true := by decide +kernel
theorem bq_w2 : List.all tables_1_2 (fun c => su_isCode c || c.before start1.args0 bq_about) = true := (cut_step _ 60 _ bq_w2_0 (cut_step _ 60 _ bq_w2_1 (cut_step _ 60 _ bq_w2_2 (cut_step _ 60 _ bq_w2_3 bq_w2_4))))
set_option maxRecDepth 1000000 in
theorem bq_w3_0 : List.all (List.take 60 tables_1_3) (fun c => su_isCode c || c.before start1.args0 bq_about) = true := by decide +kernel
set_option maxRecDepth 1000000 in
theorem bq_w3_1 : List.all (List.take 60 (List.drop 60 tables_1_3)) (fun c => su_isCode c || c.before start1.args0 bq_about) = true := by decide +kernel
set_option maxRecDepth 1000000 in
theorem bq_w3_2 : List.all (List.take 60 (List.drop 60 (List.drop 60 tables_1_3))) (fun c => su_isCode c || c.before start1.args0 bq_about) = true := by decide +kernel
set_option maxRecDepth 1000000 in
theorem bq_w3_3 : List.all (List.take 60 (List.drop 60 (List.drop 60 (List.drop 60 tables_1_3)))) (fun c => su_isCode c || c.before start1.args0 bq_about) = true := by decide +kernel
set_option maxRecDepth 1000000 in
theorem bq_w3_4 : List.all ((List.drop 60 (List.drop 60 (List.drop 60 (List.drop 60 tables_1_3))))) (fun c => su_isCode c || c.before start1.args0 bq_about) = true := by decide +kernel
theorem bq_w3 : List.all tables_1_3 (fun c => su_isCode c || c.before start1.args0 bq_about) = true := (cut_step _ 60 _ bq_w3_0 (cut_step _ 60 _ bq_w3_1 (cut_step _ 60 _ bq_w3_2 (cut_step _ 60 _ bq_w3_3 bq_w3_4))))
set_option maxRecDepth 1000000 in
theorem bq_w4_0 : List.all (List.take 60 tables_1_4) (fun c => su_isCode c || c.before start1.args0 bq_about) = true := by decide +kernel
set_option maxRecDepth 1000000 in
theorem bq_w4_1 : List.all (List.take 60 (List.drop 60 tables_1_4)) (fun c => su_isCode c || c.before start1.args0 bq_about) = true := by decide +kernel
set_option maxRecDepth 1000000 in
theorem bq_w4_2 : List.all (List.take 60 (List.drop 60 (List.drop 60 tables_1_4))) (fun c => su_isCode c || c.before start1.args0 bq_about) = true := by decide +kernel
set_option maxRecDepth 1000000 in
theorem bq_w4_3 : List.all (List.take 60 (List.drop 60 (List.drop 60 (List.drop 60 tables_1_4)))) (fun c => su_isCode c || c.before start1.args0 bq_about) = true := by decide +kernel
set_option maxRecDepth 1000000 in
theorem bq_w4_4 : List.all ((List.drop 60 (List.drop 60 (List.drop 60 (List.drop 60 tables_1_4))))) (fun c => su_isCode c || c.before start1.args0 bq_about) = true := by decide +kernel
theorem bq_w4 : List.all tables_1_4 (fun c => su_isCode c || c.before start1.args0 bq_about) = true := (cut_step _ 60 _ bq_w4_0 (cut_step _ 60 _ bq_w4_1 (cut_step _ 60 _ bq_w4_2 (cut_step _ 60 _ bq_w4_3 bq_w4_4))))
theorem bq_wt : ∀ c ∈ tables_1, (su_isCode c || c.before start1.args0 bq_about) = true := by
  intro c hc
  have h1 : c ∈ tables_1_1 ++ (tables_1_2 ++ (tables_1_3 ++ tables_1_4)) := hc
  rcases List.mem_append.mp h1 with h2 | h1
  · exact List.all_eq_true.mp bq_w1 c h2
  rcases List.mem_append.mp h1 with h2 | h1
  · exact List.all_eq_true.mp bq_w2 c h2
  rcases List.mem_append.mp h1 with h2 | h1
  · exact List.all_eq_true.mp bq_w3 c h2
  exact List.all_eq_true.mp bq_w4 c h1
theorem bq_words : ∀ c ∈ (Cond.code x code maxLocals ret :: tables_1), c.before start1.args0 bq_about = true := by
  intro c hc
  have h0 := start1.words c hc
  cases hq : su_isCode c with
  | true =>
    cases c <;> first | exact bq_cw h0 | (simp [su_isCode] at hq)
  | false =>
    rcases List.mem_cons.mp hc with h | h
    · rw [h] at hq
      simp [su_isCode] at hq
    · have h1 := bq_wt c h
      simpa [hq] using h1
set_option maxRecDepth 1000000 in
theorem bq_fits : argsFit bq_about.vm ⟨0, 0⟩ start1.args0 = true := by decide +kernel
set_option maxRecDepth 1000000 in
theorem bq_heap : heapFits bq_about = true := by decide +kernel
set_option maxRecDepth 1000000 in
theorem bq_rest : rest_1_c.before start1.args0 bq_about = true := by decide +kernel
set_option maxRecDepth 1000000 in
theorem bq_pre : (Cond.and given_1 narrow_1).before start1.args0 bq_about = true := by decide +kernel
set_option maxRecDepth 1000000 in
theorem bq_applies : (headSpec (Cond.code x code maxLocals ret :: tables_1) room_1).applies x start1.e0.platform bq_about = true :=
  (Spec.applies_iff rfl).mpr ⟨rfl, rfl, rfl, by decide +kernel, by decide +kernel, by decide +kernel, launch0.hasRoom_least _ room_1 (by decide +kernel) (by decide +kernel) (by decide +kernel) (by decide +kernel) (by decide +kernel) (by decide +kernel), atoms_intro bq_words⟩
/-- the owed statement is false: at the start bq_about, which it allows, the law throws: it doesn't return -/
theorem bq_refuted : ¬ (Claimed_1_1 ∧ Claimed_1_2) := by
  intro h
  obtain ⟨n, o, hw, hst, hend, hpost⟩ := h.1 launch0 rfl lists_1 trivial start1.p0 start1.e0 (launch0.admits_env _ _ _) fairChoices_fair.cas fairChoices_fair.clock bq_about ⟨0, 0⟩ start1.args0 Lib.HandBits.below0 rfl bq_fits bq_heap bq_applies ⟨trivial, bq_rest, bq_pre⟩
  obtain ⟨k, a, hw', hend'⟩ := bq_sound _ _ _ _ bq_run
  obtain ⟨-, rfl⟩ := the_end_unique (f := fun j => stepsAlone start1.p0.tables start1.e0 j bq_about) hw hend hw' hend'
  have h1 := hpost.1
  simp [postC, limb_1_1, Cond.after, Cond.holds, Cond.value] at h1
