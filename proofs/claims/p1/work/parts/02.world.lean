/-! the one world: cells 0 .. 88 the class (PortWarden, its ports array, the crew of three, four ports of 21), 89 .. 121 the reference -/
def nwF : List Cond := [.fieldLinkNest RX2 113 "PortWarden$Crew" "groupOf" "[I" "PortWarden", .fieldLinkNest RX6 84 "PortWarden$Crew" "groupOf" "[I" "PortWarden", .fieldLinkNest RX6 160 "PortWarden$Crew" "raised" "[I" "PortWarden", .fieldLinkNest RX2 9 "PortWarden" "FIRST_VALUES" "[I" "PortWarden", .fieldLinkNest RX1 27 "PortWarden$Row" "size" "I" "PortWarden", .fieldLinkNest RX4 20 "PortWarden$Row" "size" "I" "PortWarden", .fieldLinkNest RX2 147 "PortWarden$Row" "size" "I" "PortWarden", .fieldLinkNest RX2 144 "PortWarden$Store" "entries" "LPortWarden$Row;" "PortWarden", .fieldLinkNest RX2 119 "PortWarden$Store" "released" "I" "PortWarden", .fieldLinkNest RX6 124 "PortWarden$Store" "released" "I" "PortWarden", .fieldLinkNest RX2 195 "PortWarden$Store" "idleTicks" "I" "PortWarden", .fieldLinkNest RX2 131 "PortWarden$Output" "stored" "LPortWarden$Row;" "PortWarden", .fieldLinkNest RX6 152 "PortWarden$Output" "stored" "LPortWarden$Row;" "PortWarden", .fieldLinkNest RX2 135 "PortWarden$Output" "sender" "LPortWarden$Row;" "PortWarden", .fieldLinkNest RX6 166 "PortWarden$Output" "columnNow" "I" "PortWarden", .fieldLinkNest RX6 58 "PortWarden$Output" "heldBack" "Z" "PortWarden", .fieldLinkNest RX2 229 "PortWarden$Output" "heldBack" "Z" "PortWarden", .fieldLinkNest RX6 62 "PortWarden$Output" "clearToSend" "Z" "PortWarden", .fieldLinkNest RX2 165 "PortWarden$Waiting" "which" "[I" "PortWarden", .fieldLinkNest RX2 168 "PortWarden$Waiting" "value" "[I" "PortWarden", .fieldLinkNest RX2 159 "PortWarden$Waiting" "takesStore" "[Z" "PortWarden", .fieldLinkNest RX6 146 "PortWarden$Port" "modes" "[I" "PortWarden", .fieldLinkNest RX6 120 "PortWarden$Port" "store" "LPortWarden$Store;" "PortWarden", .fieldLinkNest RX6 36 "PortWarden$Port" "output" "LPortWarden$Output;" "PortWarden", .fieldLinkNest RX6 109 "PortWarden$Port" "draft" "LPortWarden$Row;" "PortWarden", .fieldLinkNest RX6 77 "PortWarden$Port" "opened" "[Z" "PortWarden", .fieldLinkNest RX6 163 "PortWarden$Port" "counts" "[I" "PortWarden", .fieldLinkNest RX6 65 "PortWarden$Port" "carrierOn" "Z" "PortWarden", .fieldLinkNest RX6 92 "PortWarden$Port" "hungUp" "Z" "PortWarden", .fieldLinkNest RX6 88 "PortWarden$Port" "foregroundGroup" "I" "PortWarden"]
def nwM : List Cond := [.methodLinkNest RX2 34 ⟨RX4, "<init>", "()V"⟩ "PortWarden", .methodLinkNest RX2 41 ⟨RX1, "<init>", "()V"⟩ "PortWarden", .methodLinkNest RX2 48 ⟨RX5, "<init>", "()V"⟩ "PortWarden"]
def NW (U : State) : Prop := (∀ w ∈ nwF, va_Nw w U) ∧ ∀ w ∈ nwM, va_Nw w U
theorem nwF_form : ∀ w ∈ nwF, ∃ (a : String) (i : Nat) (b n d h : String), w = .fieldLinkNest a i b n d h := by
  intro w hw
  simp only [nwF, List.mem_cons, List.not_mem_nil, or_false] at hw
  rcases hw with rfl | rfl | rfl | rfl | rfl | rfl | rfl | rfl | rfl | rfl | rfl | rfl | rfl | rfl | rfl | rfl | rfl | rfl | rfl | rfl | rfl | rfl | rfl | rfl | rfl | rfl | rfl | rfl | rfl | rfl <;> exact ⟨_, _, _, _, _, _, rfl⟩
theorem nwM_form : ∀ w ∈ nwM, ∃ (a : String) (i : Nat) (y : MethodName) (h : String), w = .methodLinkNest a i y h := by
  intro w hw
  simp only [nwM, List.mem_cons, List.not_mem_nil, or_false] at hw
  rcases hw with rfl | rfl | rfl <;> exact ⟨_, _, _, _, rfl⟩
theorem NW.warm {s U : State} (hW : s.WarmedH U.vm) (h : NW s) : NW U := by
  refine ⟨fun w hw => ?_, fun w hw => ?_⟩
  · have h1 := h.1 w hw
    obtain ⟨a, i, b, n, d, h2, rfl⟩ := nwF_form w hw
    exact h1.warmF hW
  · have h1 := h.2 w hw
    obtain ⟨a, i, y, h2, rfl⟩ := nwM_form w hw
    exact h1.warmM hW
theorem NW.call {U : State} (g : JFrame) (mk : MethodId) (a : Array Value) (h : NW U) : NW (U.calling g mk a) := by
  refine ⟨fun w hw => ?_, fun w hw => ?_⟩
  · have h1 := h.1 w hw
    obtain ⟨a, i, b, n, d, h2, rfl⟩ := nwF_form w hw
    exact va_Nw.same rfl rfl h1
  · have h1 := h.2 w hw
    obtain ⟨a, i, y, h2, rfl⟩ := nwM_form w hw
    exact va_Nw.same rfl rfl h1
abbrev St : Type := Nat → Nat → Int32
def up2 (x : St) (c k : Nat) (v : Int32) : St := fun c' => if c' = c then upd (x c) k v else x c'
theorem up2_at (x : St) (c k : Nat) (v : Int32) : up2 x c k v c k = v := by simp [up2, upd]
theorem up2_cell (x : St) (c k : Nat) (v : Int32) : up2 x c k v c = upd (x c) k v := by simp [up2]
theorem up2_c (x : St) {c c' : Nat} (k : Nat) (v : Int32) (h : c' ≠ c) : up2 x c k v c' = x c' := by simp [up2, h]
theorem up2_ne (x : St) {c k c' k' : Nat} (v : Int32) (h : ¬ (c' = c ∧ k' = k)) : up2 x c k v c' k' = x c' k' := by
  by_cases h1 : c' = c
  · subst h1
    have h2 : k' ≠ k := fun e => h ⟨rfl, e⟩
    simp [up2, upd, h2]
  · simp [up2, h1]
abbrev GA : Type := (Nat → Nat) × (Nat → ClassId)
def ARR (g : GA) (n : Nat) (f : Nat → Int32) : va_E := .inl (g.2 0, n, .inl f)
def ARZ (g : GA) (n : Nat) (f : Nat → Int32) : va_E := .inl (g.2 1, n, .inl f)
def ROW (g : GA) (q : Nat) (f : Nat → Int32) : va_E := .inr (3, [.ref (g.1 q), .int (f 1), .int (f 2)])
def cellW (g : GA) (c : Nat) (f : Nat → Int32) : va_E := match c with
  | 0 => .inr (6, [.ref (g.1 2), .ref (g.1 1)])
  | 1 => .inl (g.2 2, 4, .inr (.inr (.inr (.inr (fun i => some (g.1 (5 + 21 * i)))))))
  | 2 => .inr (0, [.ref (g.1 3), .ref (g.1 4)])
  | _ => ARR g 8 f
def cellP (g : GA) (B j : Nat) (f : Nat → Int32) : va_E := match j with
  | 0 => .inr (2, [.ref (g.1 2), .ref (g.1 (B + 1)), .ref (g.1 (B + 2)), .ref (g.1 (B + 4)), .ref (g.1 (B + 7)), .ref (g.1 (B + 12)), .ref (g.1 (B + 17)), .ref (g.1 (B + 19)), .ref (g.1 (B + 20)), .int (f 9), .int (f 10), .int (f 11), .int (f 12), .int (f 13), .int (f 14)])
  | 1 => ARR g 25 f
  | 2 => ROW g (B + 3) f
  | 3 => ARR g 8 f
  | 4 => .inr (4, [.ref (g.1 (B + 5)), .int (f 1), .int (f 2)])
  | 5 => ROW g (B + 6) f
  | 6 => ARR g 65 f
  | 7 => .inr (1, [.ref (g.1 (B + 8)), .ref (g.1 (B + 10)), .int (f 2), .int (f 3), .int (f 4)])
  | 8 => ROW g (B + 9) f
  | 9 => ARR g 64 f
  | 10 => ROW g (B + 11) f
  | 11 => ARR g 8 f
  | 12 => .inr (5, [.ref (g.1 (B + 13)), .ref (g.1 (B + 14)), .ref (g.1 (B + 15)), .ref (g.1 (B + 16)), .int (f 4)])
  | 13 => ARR g 3 f
  | 14 => ARR g 3 f
  | 15 => ARZ g 3 f
  | 16 => ARR g 3 f
  | 17 => ROW g (B + 18) f
  | 18 => ARR g 134 f
  | 19 => ARZ g 8 f
  | _ => ARR g 5 f
def cellM (g : GA) (j : Nat) (f : Nat → Int32) : va_E := match j with
  | 0 => .inr (7, [.int (f 0), .ref (g.1 90), .ref (g.1 91), .ref (g.1 92), .ref (g.1 93), .ref (g.1 94), .ref (g.1 95), .ref (g.1 96), .ref (g.1 97), .ref (g.1 98), .ref (g.1 99), .ref (g.1 100), .ref (g.1 101), .ref (g.1 102), .ref (g.1 103), .ref (g.1 104), .ref (g.1 105), .ref (g.1 106), .ref (g.1 107), .ref (g.1 108), .ref (g.1 109), .ref (g.1 110), .ref (g.1 111), .ref (g.1 112), .ref (g.1 113), .ref (g.1 114), .ref (g.1 115), .ref (g.1 116), .ref (g.1 117), .ref (g.1 118), .ref (g.1 119), .ref (g.1 120), .ref (g.1 121), .int (f 33)])
  | 1 => ARR g 100 f
  | 2 => ARR g 32 f
  | 3 => ARR g 32 f
  | 4 => ARR g 4 f
  | 5 => ARR g 260 f
  | 6 => ARZ g 260 f
  | 7 => ARR g 4 f
  | 8 => ARR g 4 f
  | 9 => ARR g 4 f
  | 10 => ARR g 256 f
  | 11 => ARR g 4 f
  | 12 => ARR g 32 f
  | 13 => ARR g 4 f
  | 14 => ARZ g 4 f
  | 15 => ARZ g 4 f
  | 16 => ARR g 4 f
  | 17 => ARZ g 4 f
  | 18 => ARR g 4 f
  | 19 => ARZ g 4 f
  | 20 => ARZ g 4 f
  | 21 => ARZ g 4 f
  | 22 => ARR g 4 f
  | 23 => ARR g 4 f
  | 24 => ARR g 12 f
  | 25 => ARR g 12 f
  | 26 => ARZ g 12 f
  | 27 => ARR g 12 f
  | 28 => ARZ g 32 f
  | 29 => ARR g 8 f
  | 30 => ARR g 8 f
  | 31 => ARR g 20 f
  | _ => ARR g 400 f
def cellOf (g : GA) (c : Nat) (f : Nat → Int32) : va_E := if c < 5 then cellW g c f else if c < 89 then cellP g (5 + 21 * ((c - 5) / 21)) ((c - 5) % 21) f else cellM g (c - 89) f
theorem cell_port (g : GA) (f : Nat → Int32) {i j : Nat} (hi : i < 4) (hj : j < 21) : cellOf g (5 + 21 * i + j) f = cellP g (5 + 21 * i) j f := by
  have h1 : ¬ 5 + 21 * i + j < 5 := by omega
  have h2 : 5 + 21 * i + j < 89 := by omega
  have h3 : (5 + 21 * i + j - 5) / 21 = i := by omega
  have h4 : (5 + 21 * i + j - 5) % 21 = j := by omega
  simp only [cellOf, h1, h2, h3, h4, if_false, if_true]
theorem cell_port0 (g : GA) (f : Nat → Int32) {i : Nat} (hi : i < 4) : cellOf g (5 + 21 * i) f = cellP g (5 + 21 * i) 0 f := cell_port g f (j := 0) hi (by decide)
def WL (g : GA) (x : St) : va_W := (List.range 122).map (fun c => (g.1 c, cellOf g c (x c)))
theorem WL_at (g : GA) (x : St) {c : Nat} (h : c < 122) : (WL g x)[c]? = some (g.1 c, cellOf g c (x c)) := by
  simp [WL, List.getElem?_map, List.getElem?_range h]
theorem WL_set (g : GA) (x : St) {c : Nat} (h : c < 122) (k : Nat) (v : Int32) : (WL g x).set c (g.1 c, cellOf g c (upd (x c) k v)) = WL g (up2 x c k v) := by
  apply List.ext_getElem?
  intro i
  by_cases hi : i < 122
  · rw [WL_at g _ hi]
    by_cases hic : i = c
    · subst hic
      rw [List.getElem?_set_self (by simp [WL]; exact h), up2_cell]
    · rw [List.getElem?_set_ne (Ne.symm hic), WL_at g _ hi, up2_c x k v hic]
  · rw [List.getElem?_eq_none (by simp [WL]; omega), List.getElem?_eq_none (by simp [WL]; omega)]
def AQ (g : GA) : Nat → Prop := fun a => ∃ c, c < 122 ∧ a = g.1 c
def Inj (g : GA) : Prop := ∀ a b : Nat, a < 122 → b < 122 → g.1 a = g.1 b → a = b
theorem WL_D {g : GA} (hg : Inj g) (x : St) : va_D (AQ g) (WL g x) := by
  have key : ∀ (k : Nat) (q : Nat × va_E), (WL g x)[k]? = some q → k < 122 ∧ q.1 = g.1 k := by
    intro k q h
    have hk : k < 122 := by
      have := (List.getElem?_eq_some_iff.mp h).1
      simpa [WL] using this
    rw [WL_at g x hk] at h
    cases h
    exact ⟨hk, rfl⟩
  refine ⟨fun i j p q hi hj hpq => ?_, fun k q h => ?_⟩
  · obtain ⟨a1, a2⟩ := key i p hi
    obtain ⟨b1, b2⟩ := key j q hj
    exact hg i j a1 b1 (by rw [← a2, ← b2, hpq])
  · obtain ⟨a1, a2⟩ := key k q h
    exact ⟨k, a1, a2⟩
abbrev TY (g : GA) : List (ClassId × FieldType) := [(g.2 0, .int), (g.2 1, .boolean), (g.2 2, .object RX2)]
def WI (D : va_G) (g : GA) (x : St) (U : State) : Prop := va_P D vwCl (WL g x) U.heap ∧ va_K D vwCl (TY g) U ∧ NW U
def WO (D : va_G) (g : GA) (x : St) (t : State) : Prop := va_P D vwCl (WL g x) t.heap
theorem vp_of {i : Int32} {n : Nat} (h1 : 0 ≤ i.toInt) (h2 : i.toInt < n) : vp_in i n := by
  unfold vp_in
  intro h
  rcases h with h | h
  · have := Int32.lt_iff_toInt_lt.mp h
    simp at this
    omega
  · have : i.toNatClampNeg = i.toInt.toNat := rfl
    omega
theorem tz_nar {v : Int32} (h : v = 0 ∨ v = 1) : vp_nar .boolean v = v := by
  rcases h with rfl | rfl <;> decide
theorem tz_fits {v : Int32} (h : v = 0 ∨ v = 1) : fits .boolean (.int v) = true := by
  rcases h with rfl | rfl <;> decide
theorem tz_narrow {v : Int32} (h : v = 0 ∨ v = 1) : narrow .boolean (.int v) = .int v := by
  rcases h with rfl | rfl <;> decide
section WR
variable {p : Program} {l : Launch} {e : Env} {R : Room} {s : State} {m : MethodId} {args : Array Value} {below : List Frame} {meth : Method} {c : Code} {H : Heap} {locs : List Loc} {cells slots : Nat} {Q : State → Prop}
variable {cc : ByteArray} {pc nL : Nat} {ls : Array Slot} {rest : List Value} {D : va_G} {H0 : Heap} {Ts : List Cond} {own : String} {g : GA} {x : St}
/-- a field read -/
theorem w_get {C : String} {T : u_T} {N ci index : Nat} (S : CallFix p m c cc nL s args Ts own) (hin : ∀ w ∈ u_ws C T N, w ∈ Ts) (hK : va_K D vwCl (TY g) s) (hP : va_P D vwCl (WL g x) H) (c0 : Nat) (h0 : c0 < 122) {fs : List Value} (he : cellOf g c0 (x c0) = .inr (ci, fs)) (hc : vwCl[ci]? = some (C, T, N)) (k : Nat) (hk : k < N) (hlink : (Cond.fieldLink own index (T k).1 (T k).2.1 (T k).2.2.1).before args s = true) {v : Value} (hv : fs[k]? = some v) (hdg : decode cc pc = .ok (.getfield index, 3)) (kk : W p l e R s m args below meth c H locs cells slots Q (F0 m (pc + 3) ls (v :: rest))) : W p l e R s m args below meth c H locs cells slots Q (F0 m pc ls (.ref (g.1 c0) :: rest)) := by
  obtain ⟨hx, hb, hml, hown, hts⟩ := S
  exact va_get hx hb hts hin hown hK hP c0 (by rw [WL_at g x h0, he]) hc k hk hlink (fun _ h => h) hv hdg kk
theorem w_getN {C : String} {T : u_T} {N ci index : Nat} (S : CallFix p m c cc nL s args Ts own) (hin : ∀ w ∈ u_ws C T N, w ∈ Ts) (hK : va_K D vwCl (TY g) s) (hP : va_P D vwCl (WL g x) H) (c0 : Nat) (h0 : c0 < 122) {fs : List Value} (he : cellOf g c0 (x c0) = .inr (ci, fs)) (hc : vwCl[ci]? = some (C, T, N)) (k : Nat) (hk : k < N) {host : String} (hlink : va_Nw (.fieldLinkNest own index (T k).1 (T k).2.1 (T k).2.2.1 host) s) {v : Value} (hv : fs[k]? = some v) (hdg : decode cc pc = .ok (.getfield index, 3)) (kk : W p l e R s m args below meth c H locs cells slots Q (F0 m (pc + 3) ls (v :: rest))) : W p l e R s m args below meth c H locs cells slots Q (F0 m pc ls (.ref (g.1 c0) :: rest)) := by
  obtain ⟨hx, hb, hml, hown, hts⟩ := S
  exact va_getN hx hb hts hin hown hK hP c0 (by rw [WL_at g x h0, he]) hc k hk (hlink.use rfl) (fun _ h => h) hv hdg kk
/-- a field written: an int, or a boolean that is 0 or 1 -/
theorem w_put {C : String} {T : u_T} {N ci index : Nat} {ty0 : Nat → FieldType} (S : CallFix p m c cc nL s args Ts own) (hin : ∀ w ∈ u_ws C T N, w ∈ Ts) (hty : ∀ k, k < N → parseFieldDescriptor (T k).2.2.1 = some (ty0 k)) (hnm : ∀ a, a < N → ∀ b, b < N → a ≠ b → (T a).2.1 ≠ (T b).2.1) (hK : va_K D vwCl (TY g) s) (hg : Inj g) (hP : va_P D vwCl (WL g x) H) (hS : va_S (AQ g) H0 H locs) (c0 : Nat) (h0 : c0 < 122) {F : (Nat → Int32) → List Value} (he : ∀ f, cellOf g c0 f = .inr (ci, F f)) (hc : vwCl[ci]? = some (C, T, N)) (k : Nat) (hk : k < N) (hlink : (Cond.fieldLink own index (T k).1 (T k).2.1 (T k).2.2.1).before args s = true) (hfin : (T k).2.2.2 = false) {v : Int32} (hn : narrow (ty0 k) (.int v) = .int v) (hfit : fits (ty0 k) (.int v) = true) (hl : ∀ f, k < (F f).length) (hset : ∀ f, (F f).set k (.int v) = F (upd f k v)) (hdg : decode cc pc = .ok (.putfield index, 3)) (kk : ∀ (x' : St) (H1 : Heap) (locs1 : List Loc), x' = up2 x c0 k v → va_P D vwCl (WL g x') H1 → va_S (AQ g) H0 H1 locs1 → W p l e R s m args below meth c H1 locs1 cells slots Q (F0 m (pc + 3) ls rest)) : W p l e R s m args below meth c H locs cells slots Q (F0 m pc ls (.int v :: .ref (g.1 c0) :: rest)) := by
  obtain ⟨hx, hb, hml, hown, hts⟩ := S
  refine va_put hx hb hts hin ty0 hty hnm hown hK hP (WL_D hg x) hS c0 (by rw [WL_at g x h0, he]) hc k hk hlink (fun _ h => h) hfin (hty k hk) hn hfit (hl _) hdg (fun H1 locs1 hP1 _ hS1 => kk _ H1 locs1 rfl ?_ hS1)
  rw [hset, ← he, WL_set g x h0] at hP1
  exact hP1
theorem w_putN {C : String} {T : u_T} {N ci index : Nat} {ty0 : Nat → FieldType} (S : CallFix p m c cc nL s args Ts own) (hin : ∀ w ∈ u_ws C T N, w ∈ Ts) (hty : ∀ k, k < N → parseFieldDescriptor (T k).2.2.1 = some (ty0 k)) (hnm : ∀ a, a < N → ∀ b, b < N → a ≠ b → (T a).2.1 ≠ (T b).2.1) (hK : va_K D vwCl (TY g) s) (hg : Inj g) (hP : va_P D vwCl (WL g x) H) (hS : va_S (AQ g) H0 H locs) (c0 : Nat) (h0 : c0 < 122) {F : (Nat → Int32) → List Value} (he : ∀ f, cellOf g c0 f = .inr (ci, F f)) (hc : vwCl[ci]? = some (C, T, N)) (k : Nat) (hk : k < N) {host : String} (hlink : va_Nw (.fieldLinkNest own index (T k).1 (T k).2.1 (T k).2.2.1 host) s) (hfin : (T k).2.2.2 = false) {v : Int32} (hn : narrow (ty0 k) (.int v) = .int v) (hfit : fits (ty0 k) (.int v) = true) (hl : ∀ f, k < (F f).length) (hset : ∀ f, (F f).set k (.int v) = F (upd f k v)) (hdg : decode cc pc = .ok (.putfield index, 3)) (kk : ∀ (x' : St) (H1 : Heap) (locs1 : List Loc), x' = up2 x c0 k v → va_P D vwCl (WL g x') H1 → va_S (AQ g) H0 H1 locs1 → W p l e R s m args below meth c H1 locs1 cells slots Q (F0 m (pc + 3) ls rest)) : W p l e R s m args below meth c H locs cells slots Q (F0 m pc ls (.int v :: .ref (g.1 c0) :: rest)) := by
  obtain ⟨hx, hb, hml, hown, hts⟩ := S
  refine va_putN hx hb hts hin ty0 hty hnm hown hK hP (WL_D hg x) hS c0 (by rw [WL_at g x h0, he]) hc k hk (hlink.use rfl) (fun _ h => h) hfin (hty k hk) hn hfit (hl _) hdg (fun H1 locs1 hP1 _ hS1 => kk _ H1 locs1 rfl ?_ hS1)
  rw [hset, ← he, WL_set g x h0] at hP1
  exact hP1
/-- arrays -/
theorem w_iald (S : CallFix p m c cc nL s args Ts own) (hK : va_K D vwCl (TY g) s) (hP : va_P D vwCl (WL g x) H) (c0 : Nat) (h0 : c0 < 122) {n : Nat} (he : ∀ f, cellOf g c0 f = ARR g n f) {i : Int32} (h1 : 0 ≤ i.toInt) (h2 : i.toInt < n) (hdg : decode cc pc = .ok (.iaload, 1)) (kk : ∀ v : Int32, v = x c0 i.toInt.toNat → W p l e R s m args below meth c H locs cells slots Q (F0 m (pc + 1) ls (.int v :: rest))) : W p l e R s m args below meth c H locs cells slots Q (F0 m pc ls (.int i :: .ref (g.1 c0) :: rest)) :=
  va_iald S.1 S.2.1 hK hP c0 0 (by rw [WL_at g x h0, he]; rfl) rfl (vp_of h1 h2) hdg (kk _ rfl)
theorem w_zald (S : CallFix p m c cc nL s args Ts own) (hK : va_K D vwCl (TY g) s) (hP : va_P D vwCl (WL g x) H) (c0 : Nat) (h0 : c0 < 122) {n : Nat} (he : ∀ f, cellOf g c0 f = ARZ g n f) {i : Int32} (h1 : 0 ≤ i.toInt) (h2 : i.toInt < n) (hdg : decode cc pc = .ok (.baload, 1)) (kk : ∀ v : Int32, v = x c0 i.toInt.toNat → W p l e R s m args below meth c H locs cells slots Q (F0 m (pc + 1) ls (.int v :: rest))) : W p l e R s m args below meth c H locs cells slots Q (F0 m pc ls (.int i :: .ref (g.1 c0) :: rest)) :=
  va_zald S.1 S.2.1 hK hP c0 1 (by rw [WL_at g x h0, he]; rfl) rfl (vp_of h1 h2) hdg (kk _ rfl)
theorem w_iast (S : CallFix p m c cc nL s args Ts own) (hK : va_K D vwCl (TY g) s) (hg : Inj g) (hP : va_P D vwCl (WL g x) H) (hS : va_S (AQ g) H0 H locs) (c0 : Nat) (h0 : c0 < 122) {n : Nat} (he : ∀ f, cellOf g c0 f = ARR g n f) {i v : Int32} (h1 : 0 ≤ i.toInt) (h2 : i.toInt < n) (hdg : decode cc pc = .ok (.iastore, 1)) (kk : ∀ (x' : St) (H1 : Heap) (locs1 : List Loc), x' = up2 x c0 i.toInt.toNat v → va_P D vwCl (WL g x') H1 → va_S (AQ g) H0 H1 locs1 → W p l e R s m args below meth c H1 locs1 cells slots Q (F0 m (pc + 1) ls rest)) : W p l e R s m args below meth c H locs cells slots Q (F0 m pc ls (.int v :: .int i :: .ref (g.1 c0) :: rest)) := by
  refine va_iast S.1 S.2.1 hK hP (WL_D hg x) hS c0 0 (n := n) (f := x c0) (cA := g.2 0) (by rw [WL_at g x h0, he]; rfl) rfl (vp_of h1 h2) hdg (fun H1 locs1 hP1 _ hS1 => kk _ H1 locs1 rfl ?_ hS1)
  have e1 := WL_set g x h0 i.toInt.toNat v
  rw [he] at e1
  rw [← e1]
  exact hP1
theorem w_zast (S : CallFix p m c cc nL s args Ts own) (hK : va_K D vwCl (TY g) s) (hg : Inj g) (hP : va_P D vwCl (WL g x) H) (hS : va_S (AQ g) H0 H locs) (c0 : Nat) (h0 : c0 < 122) {n : Nat} (he : ∀ f, cellOf g c0 f = ARZ g n f) {i v : Int32} (hz : v = 0 ∨ v = 1) (h1 : 0 ≤ i.toInt) (h2 : i.toInt < n) (hdg : decode cc pc = .ok (.bastore, 1)) (kk : ∀ (x' : St) (H1 : Heap) (locs1 : List Loc), x' = up2 x c0 i.toInt.toNat v → va_P D vwCl (WL g x') H1 → va_S (AQ g) H0 H1 locs1 → W p l e R s m args below meth c H1 locs1 cells slots Q (F0 m (pc + 1) ls rest)) : W p l e R s m args below meth c H locs cells slots Q (F0 m pc ls (.int v :: .int i :: .ref (g.1 c0) :: rest)) := by
  refine va_zast S.1 S.2.1 hK hP (WL_D hg x) hS c0 1 (n := n) (f := x c0) (cA := g.2 1) (by rw [WL_at g x h0, he]; rfl) rfl (vp_of h1 h2) hdg (fun H1 locs1 hP1 _ hS1 => kk _ H1 locs1 rfl ?_ hS1)
  rw [tz_nar hz] at hP1
  have e1 := WL_set g x h0 i.toInt.toNat v
  rw [he] at e1
  rw [← e1]
  exact hP1
theorem w_alen (S : CallFix p m c cc nL s args Ts own) (hK : va_K D vwCl (TY g) s) (hP : va_P D vwCl (WL g x) H) (c0 : Nat) (h0 : c0 < 122) {n : Nat} (he : ∀ f, cellOf g c0 f = ARR g n f) (hn : n < 2147483648) (hdg : decode cc pc = .ok (.arraylength, 1)) (kk : ∀ v : Int32, v.toInt = n → W p l e R s m args below meth c H locs cells slots Q (F0 m (pc + 1) ls (.int v :: rest))) : W p l e R s m args below meth c H locs cells slots Q (F0 m pc ls (.ref (g.1 c0) :: rest)) :=
  va_alen S.1 S.2.1 hK hP c0 0 (cA := g.2 0) (x := (n, .inl (x c0))) (by rw [WL_at g x h0, he]; rfl) rfl (v := Int32.ofNat n) rfl hdg (kk _ (Int32.toInt_ofNat_of_lt hn))
theorem w_aald (S : CallFix p m c cc nL s args Ts own) (hK : va_K D vwCl (TY g) s) (hP : va_P D vwCl (WL g x) H) {i : Int32} (h1 : 0 ≤ i.toInt) (h2 : i.toInt < 4) (hdg : decode cc pc = .ok (.aaload, 1)) (kk : W p l e R s m args below meth c H locs cells slots Q (F0 m (pc + 1) ls (.ref (g.1 (5 + 21 * i.toInt.toNat)) :: rest))) : W p l e R s m args below meth c H locs cells slots Q (F0 m pc ls (.int i :: .ref (g.1 1) :: rest)) :=
  va_aldq S.1 S.2.1 hK hP 1 2 (cA := g.2 2) (n := 4) (f := fun i => some (g.1 (5 + 21 * i))) (by rw [WL_at g x (by decide)]; rfl) rfl (vp_of h1 h2) hdg kk
/-- numbers on the stack -/
theorem w_iconst (S : CallFix p m c cc nL s args Ts own) {n : Int} (hdg : decode cc pc = .ok (.iconst n, 1)) (hn : (Int32.ofInt n).toInt = n) (kk : ∀ v : Int32, v.toInt = n → W p l e R s m args below meth c H locs cells slots Q (F0 m (pc + 1) ls (.int v :: rest))) : W p l e R s m args below meth c H locs cells slots Q (F0 m pc ls rest) := lv_iconst S.1 S.2.1 hdg rfl (kk _ hn)
theorem w_bipush (S : CallFix p m c cc nL s args Ts own) {n : Int} (hdg : decode cc pc = .ok (.bipush n, 2)) (hn : ((Int8.ofInt n).toInt32).toInt = n) (kk : ∀ v : Int32, v.toInt = n → W p l e R s m args below meth c H locs cells slots Q (F0 m (pc + 2) ls (.int v :: rest))) : W p l e R s m args below meth c H locs cells slots Q (F0 m pc ls rest) := lv_bipush S.1 S.2.1 hdg rfl (kk _ hn)
theorem w_sipush (S : CallFix p m c cc nL s args Ts own) {n : Int} (hdg : decode cc pc = .ok (.sipush n, 3)) (hn : ((Int16.ofInt n).toInt32).toInt = n) (kk : ∀ v : Int32, v.toInt = n → W p l e R s m args below meth c H locs cells slots Q (F0 m (pc + 3) ls (.int v :: rest))) : W p l e R s m args below meth c H locs cells slots Q (F0 m pc ls rest) := lv_sipush S.1 S.2.1 hdg rfl (kk _ hn)
theorem ti_add {a b : Int32} (h1 : -2147483648 ≤ a.toInt + b.toInt) (h2 : a.toInt + b.toInt ≤ 2147483647) : (a + b).toInt = a.toInt + b.toInt := by
  rw [Int32.toInt_add]; exact Int.bmod_eq_of_le (by omega) (by omega)
theorem ti_sub {a b : Int32} (h1 : -2147483648 ≤ a.toInt - b.toInt) (h2 : a.toInt - b.toInt ≤ 2147483647) : (a - b).toInt = a.toInt - b.toInt := by
  rw [Int32.toInt_sub]; exact Int.bmod_eq_of_le (by omega) (by omega)
theorem ti_mul {a b : Int32} (h1 : -2147483648 ≤ a.toInt * b.toInt) (h2 : a.toInt * b.toInt ≤ 2147483647) : (a * b).toInt = a.toInt * b.toInt := by
  rw [Int32.toInt_mul]; exact Int.bmod_eq_of_le (by omega) (by omega)
theorem w_iadd (S : CallFix p m c cc nL s args Ts own) {a b : Int32} (hdg : decode cc pc = .ok (.iadd, 1)) (h1 : -2147483648 ≤ a.toInt + b.toInt) (h2 : a.toInt + b.toInt ≤ 2147483647) (kk : ∀ v : Int32, v.toInt = a.toInt + b.toInt → W p l e R s m args below meth c H locs cells slots Q (F0 m (pc + 1) ls (.int v :: rest))) : W p l e R s m args below meth c H locs cells slots Q (F0 m pc ls (.int b :: .int a :: rest)) := lv_iadd S.1 S.2.1 hdg (kk _ (ti_add h1 h2))
theorem w_isub (S : CallFix p m c cc nL s args Ts own) {a b : Int32} (hdg : decode cc pc = .ok (.isub, 1)) (h1 : -2147483648 ≤ a.toInt - b.toInt) (h2 : a.toInt - b.toInt ≤ 2147483647) (kk : ∀ v : Int32, v.toInt = a.toInt - b.toInt → W p l e R s m args below meth c H locs cells slots Q (F0 m (pc + 1) ls (.int v :: rest))) : W p l e R s m args below meth c H locs cells slots Q (F0 m pc ls (.int b :: .int a :: rest)) := lv_isub S.1 S.2.1 hdg (kk _ (ti_sub h1 h2))
theorem w_imulk (S : CallFix p m c cc nL s args Ts own) {a b : Int32} (hdg : decode cc pc = .ok (.imul, 1)) (z : Int) (hz : a.toInt = z) (h1 : -2147483648 ≤ z * b.toInt) (h2 : z * b.toInt ≤ 2147483647) (kk : ∀ v : Int32, v.toInt = z * b.toInt → W p l e R s m args below meth c H locs cells slots Q (F0 m (pc + 1) ls (.int v :: rest))) : W p l e R s m args below meth c H locs cells slots Q (F0 m pc ls (.int b :: .int a :: rest)) := by
  subst hz
  exact lv_imul S.1 S.2.1 hdg (kk _ (ti_mul h1 h2))
/-- any number that comes of an instruction whose value doesn't matter -/
theorem w_any1 {a : Int32} (k : ∀ v : Int32, W p l e R s m args below meth c H locs cells slots Q (F0 m pc ls (.int v :: rest))) : W p l e R s m args below meth c H locs cells slots Q (F0 m pc ls (.int a :: rest)) := k a
/-- branches, with what they tell of the numbers -/
theorem t_eq {a b : Int32} : (a = b) ↔ a.toInt = b.toInt := Int32.toInt_inj.symm
theorem t_lt {a b : Int32} : (a < b) ↔ a.toInt < b.toInt := Int32.lt_iff_toInt_lt
theorem t_le {a b : Int32} : (a ≤ b) ↔ a.toInt ≤ b.toInt := Int32.le_iff_toInt_le
theorem t_z : (0 : Int32).toInt = 0 := rfl
theorem w_icmp_eq (S : CallFix p m c cc nL s args Ts own) {a b : Int32} {off : Int} {tgt : Nat} (hdg : decode cc pc = .ok (.if_icmp .eq off, 3)) (ht : (pc : Int) + off = (tgt : Int)) (kt : a.toInt = b.toInt → W p l e R s m args below meth c H locs cells slots Q (F0 m tgt ls rest)) (kf : a.toInt ≠ b.toInt → W p l e R s m args below meth c H locs cells slots Q (F0 m (pc + 3) ls rest)) : W p l e R s m args below meth c H locs cells slots Q (F0 m pc ls (.int b :: .int a :: rest)) := lv_icmp_eq S.1 S.2.1 hdg ht (fun h => kt (t_eq.mp h)) (fun h => kf (fun e => h (t_eq.mpr e)))
theorem w_icmp_ne (S : CallFix p m c cc nL s args Ts own) {a b : Int32} {off : Int} {tgt : Nat} (hdg : decode cc pc = .ok (.if_icmp .ne off, 3)) (ht : (pc : Int) + off = (tgt : Int)) (kt : a.toInt ≠ b.toInt → W p l e R s m args below meth c H locs cells slots Q (F0 m tgt ls rest)) (kf : a.toInt = b.toInt → W p l e R s m args below meth c H locs cells slots Q (F0 m (pc + 3) ls rest)) : W p l e R s m args below meth c H locs cells slots Q (F0 m pc ls (.int b :: .int a :: rest)) := lv_icmp_ne S.1 S.2.1 hdg ht (fun h => kt (fun e => h (t_eq.mpr e))) (fun h => kf (t_eq.mp (by first | exact h | exact Decidable.not_not.mp h)))
theorem w_icmp_lt (S : CallFix p m c cc nL s args Ts own) {a b : Int32} {off : Int} {tgt : Nat} (hdg : decode cc pc = .ok (.if_icmp .lt off, 3)) (ht : (pc : Int) + off = (tgt : Int)) (kt : a.toInt < b.toInt → W p l e R s m args below meth c H locs cells slots Q (F0 m tgt ls rest)) (kf : b.toInt ≤ a.toInt → W p l e R s m args below meth c H locs cells slots Q (F0 m (pc + 3) ls rest)) : W p l e R s m args below meth c H locs cells slots Q (F0 m pc ls (.int b :: .int a :: rest)) := lv_icmp_lt S.1 S.2.1 hdg ht (fun h => kt (t_lt.mp h)) (fun h => kf (by rw [t_lt] at h; omega))
theorem w_icmp_ge (S : CallFix p m c cc nL s args Ts own) {a b : Int32} {off : Int} {tgt : Nat} (hdg : decode cc pc = .ok (.if_icmp .ge off, 3)) (ht : (pc : Int) + off = (tgt : Int)) (kt : b.toInt ≤ a.toInt → W p l e R s m args below meth c H locs cells slots Q (F0 m tgt ls rest)) (kf : a.toInt < b.toInt → W p l e R s m args below meth c H locs cells slots Q (F0 m (pc + 3) ls rest)) : W p l e R s m args below meth c H locs cells slots Q (F0 m pc ls (.int b :: .int a :: rest)) := lv_icmp_ge S.1 S.2.1 hdg ht (fun h => kt (by simp only [t_lt, t_le, ge_iff_le] at h; omega)) (fun h => kf (by simp only [t_lt, t_le, ge_iff_le] at h; omega))
theorem w_icmp_gt (S : CallFix p m c cc nL s args Ts own) {a b : Int32} {off : Int} {tgt : Nat} (hdg : decode cc pc = .ok (.if_icmp .gt off, 3)) (ht : (pc : Int) + off = (tgt : Int)) (kt : b.toInt < a.toInt → W p l e R s m args below meth c H locs cells slots Q (F0 m tgt ls rest)) (kf : a.toInt ≤ b.toInt → W p l e R s m args below meth c H locs cells slots Q (F0 m (pc + 3) ls rest)) : W p l e R s m args below meth c H locs cells slots Q (F0 m pc ls (.int b :: .int a :: rest)) := lv_icmp_gt S.1 S.2.1 hdg ht (fun h => kt (by simp only [t_lt, t_le, gt_iff_lt] at h; omega)) (fun h => kf (by simp only [t_lt, t_le, gt_iff_lt] at h; omega))
theorem w_icmp_le (S : CallFix p m c cc nL s args Ts own) {a b : Int32} {off : Int} {tgt : Nat} (hdg : decode cc pc = .ok (.if_icmp .le off, 3)) (ht : (pc : Int) + off = (tgt : Int)) (kt : a.toInt ≤ b.toInt → W p l e R s m args below meth c H locs cells slots Q (F0 m tgt ls rest)) (kf : b.toInt < a.toInt → W p l e R s m args below meth c H locs cells slots Q (F0 m (pc + 3) ls rest)) : W p l e R s m args below meth c H locs cells slots Q (F0 m pc ls (.int b :: .int a :: rest)) := lv_icmp_le S.1 S.2.1 hdg ht (fun h => kt (by simp only [t_lt, t_le] at h; omega)) (fun h => kf (by simp only [t_lt, t_le] at h; omega))
theorem w_if_eq (S : CallFix p m c cc nL s args Ts own) {a : Int32} {off : Int} {tgt : Nat} (hdg : decode cc pc = .ok (.ifCond .eq off, 3)) (ht : (pc : Int) + off = (tgt : Int)) (kt : a.toInt = 0 → W p l e R s m args below meth c H locs cells slots Q (F0 m tgt ls rest)) (kf : a.toInt ≠ 0 → W p l e R s m args below meth c H locs cells slots Q (F0 m (pc + 3) ls rest)) : W p l e R s m args below meth c H locs cells slots Q (F0 m pc ls (.int a :: rest)) := lv_if_eq S.1 S.2.1 hdg ht (fun h => kt (by rw [h]; rfl)) (fun h => kf (fun e => h (t_eq.mpr e)))
theorem w_if_ne (S : CallFix p m c cc nL s args Ts own) {a : Int32} {off : Int} {tgt : Nat} (hdg : decode cc pc = .ok (.ifCond .ne off, 3)) (ht : (pc : Int) + off = (tgt : Int)) (kt : a.toInt ≠ 0 → W p l e R s m args below meth c H locs cells slots Q (F0 m tgt ls rest)) (kf : a.toInt = 0 → W p l e R s m args below meth c H locs cells slots Q (F0 m (pc + 3) ls rest)) : W p l e R s m args below meth c H locs cells slots Q (F0 m pc ls (.int a :: rest)) := lv_if_ne S.1 S.2.1 hdg ht (fun h => kt (fun e => h (t_eq.mpr e))) (fun h => kf (t_eq.mp (by first | exact h | exact Decidable.not_not.mp h)))
theorem w_if_lt (S : CallFix p m c cc nL s args Ts own) {a : Int32} {off : Int} {tgt : Nat} (hdg : decode cc pc = .ok (.ifCond .lt off, 3)) (ht : (pc : Int) + off = (tgt : Int)) (kt : a.toInt < 0 → W p l e R s m args below meth c H locs cells slots Q (F0 m tgt ls rest)) (kf : 0 ≤ a.toInt → W p l e R s m args below meth c H locs cells slots Q (F0 m (pc + 3) ls rest)) : W p l e R s m args below meth c H locs cells slots Q (F0 m pc ls (.int a :: rest)) := lv_if_lt S.1 S.2.1 hdg ht (fun h => kt (by simp only [t_lt, t_z] at h; omega)) (fun h => kf (by simp only [t_lt, t_z] at h; omega))
theorem w_if_ge (S : CallFix p m c cc nL s args Ts own) {a : Int32} {off : Int} {tgt : Nat} (hdg : decode cc pc = .ok (.ifCond .ge off, 3)) (ht : (pc : Int) + off = (tgt : Int)) (kt : 0 ≤ a.toInt → W p l e R s m args below meth c H locs cells slots Q (F0 m tgt ls rest)) (kf : a.toInt < 0 → W p l e R s m args below meth c H locs cells slots Q (F0 m (pc + 3) ls rest)) : W p l e R s m args below meth c H locs cells slots Q (F0 m pc ls (.int a :: rest)) := lv_if_ge S.1 S.2.1 hdg ht (fun h => kt (by simp only [t_lt, t_le, ge_iff_le, t_z] at h; omega)) (fun h => kf (by simp only [t_lt, t_le, ge_iff_le, t_z] at h; omega))
theorem w_if_gt (S : CallFix p m c cc nL s args Ts own) {a : Int32} {off : Int} {tgt : Nat} (hdg : decode cc pc = .ok (.ifCond .gt off, 3)) (ht : (pc : Int) + off = (tgt : Int)) (kt : 0 < a.toInt → W p l e R s m args below meth c H locs cells slots Q (F0 m tgt ls rest)) (kf : a.toInt ≤ 0 → W p l e R s m args below meth c H locs cells slots Q (F0 m (pc + 3) ls rest)) : W p l e R s m args below meth c H locs cells slots Q (F0 m pc ls (.int a :: rest)) := lv_if_gt S.1 S.2.1 hdg ht (fun h => kt (by simp only [t_lt, t_le, gt_iff_lt, t_z] at h; omega)) (fun h => kf (by simp only [t_lt, t_le, gt_iff_lt, t_z] at h; omega))
theorem w_if_le (S : CallFix p m c cc nL s args Ts own) {a : Int32} {off : Int} {tgt : Nat} (hdg : decode cc pc = .ok (.ifCond .le off, 3)) (ht : (pc : Int) + off = (tgt : Int)) (kt : a.toInt ≤ 0 → W p l e R s m args below meth c H locs cells slots Q (F0 m tgt ls rest)) (kf : 0 < a.toInt → W p l e R s m args below meth c H locs cells slots Q (F0 m (pc + 3) ls rest)) : W p l e R s m args below meth c H locs cells slots Q (F0 m pc ls (.int a :: rest)) := lv_if_le S.1 S.2.1 hdg ht (fun h => kt (by simp only [t_lt, t_le, t_z] at h; omega)) (fun h => kf (by simp only [t_lt, t_le, t_z] at h; omega))
/-- locals -/
theorem w_iinc (S : CallFix p m c cc nL s args Ts own) {i k : Nat} {n : Int} {a : Int32} {lv lv' : List (Nat × Value)} (hdg : decode cc pc = .ok (.iinc i n, 3)) (h : lv_has ls nL lv) (hk : lv[k]? = some (i, .int a)) (hn : i < nL) (hq : (Int32.ofInt n).toInt = n) (h1 : -2147483648 ≤ a.toInt + n) (h2 : a.toInt + n ≤ 2147483647) (hl : ∀ v : Int32, (i, Value.int v) :: lv.filter (fun q => !(q.1 == i) && !(q.1 + 1 == i && q.2.category == 2)) = (i, Value.int v) :: lv') (kk : ∀ (v : Int32) (ls' : Array Slot), v.toInt = a.toInt + n → lv_has ls' nL ((i, Value.int v) :: lv') → W p l e R s m args below meth c H locs cells slots Q (F0 m (pc + 3) ls' rest)) : W p l e R s m args below meth c H locs cells slots Q (F0 m pc ls rest) :=
  lv_iinc S.1 S.2.1 hdg h hk rfl hn (hl _) (fun ls' h' => kk _ ls' (by rw [ti_add (by rw [hq]; exact h1) (by rw [hq]; exact h2), hq]) h')
end WR
theorem t_max {a b v : Int32} (e : v = if a < b then b else a) : (a.toInt < b.toInt → v.toInt = b.toInt) ∧ (b.toInt ≤ a.toInt → v.toInt = a.toInt) := by
  by_cases h : a < b
  · rw [if_pos h] at e; rw [e]; rw [t_lt] at h; omega
  · rw [if_neg h] at e; rw [e]; rw [t_lt] at h; omega
theorem t_min {a b v : Int32} (e : v = if b < a then b else a) : (b.toInt < a.toInt → v.toInt = b.toInt) ∧ (a.toInt ≤ b.toInt → v.toInt = a.toInt) := by
  by_cases h : b < a
  · rw [if_pos h] at e; rw [e]; rw [t_lt] at h; omega
  · rw [if_neg h] at e; rw [e]; rw [t_lt] at h; omega
/-! contracts over the one world: entry, ends, calls -/
theorem w_met {l : Launch} {y : MethodName} {ws ws' : List Cond} {rm : Room} {cc : ByteArray} {maxL : Nat} {ret : Option FieldType} {own : String} {av : List Value} {D : va_G} {g : GA} {x : St} {Qc : Array Value → State → Outcome → State → Prop} (hy : plainName y.cls = true) (hw : ws = Cond.code y cc maxL ret :: ws') (ho : y.cls = own) (hlen : (lg_sl av).length ≤ maxL)
    (body : ∀ (p : Program) (e : Env) (s : State) (m : MethodId) (below : List Frame) (meth : Method) (c : Code), CallFix p m c cc maxL s av.toArray ws own → meth.sig.returnType = ret → meth.locks = false → va_K D vwCl (TY g) s → NW s → va_P D vwCl (WL g x) s.heap → va_S (AQ g) s.heap s.heap [] → ∀ ls : Array Slot, lv_has ls maxL (lv_args 0 av) → W p l e rm s m av.toArray below meth c s.heap [] 0 0 (MQ below Qc av.toArray s 0 0 (AQ g)) (F0 m 0 ls [])) : Met l y ws rm (va_Pc av (WI D g x)) Qc 0 0 (AQ g) := by
  refine Met.ofW (cc := cc) (maxL := maxL) (ret := ret) hy hw ?_
  intro p e s m args below meth c s₁ B hml hv
  obtain ⟨rfl, hP, hK, hN⟩ := hv
  have hts := atoms_spec (ws := ws) B.pre
  have hown : s.vm.findClass own = some m.cls := by rw [← ho]; exact findClass_of_methodNamed B.named
  have hl := lv_entry av (n := maxL) hlen
  rw [lg_entry_eq]
  exact body p e s m below meth c ⟨B.exec, B.bytes, hml, hown, hts⟩ B.returns B.notSynchronized hK hN hP va_S.rf _ hl
section WC
variable {p : Program} {l : Launch} {e : Env} {R : Room} {s : State} {m : MethodId} {args : Array Value} {below : List Frame} {meth : Method} {c : Code} {H : Heap} {locs : List Loc} {cells slots : Nat} {Q : State → Prop}
variable {cc : ByteArray} {pc nL : Nat} {ls : Array Slot} {rest : List Value} {D : va_G} {Ts : List Cond} {own : String} {g : GA} {x : St}
theorem w_iret {post : Int32 → St → Prop} {v : Int32} (S : CallFix p m c cc nL s args Ts own) (hr : meth.sig.returnType = some .int) (hlk : meth.locks = false) (hP : va_P D vwCl (WL g x) H) (hS : va_S (AQ g) s.heap H locs) (hdg : decode cc pc = .ok (.ireturn, 1)) (hp : post v x) : W p l e R s m args below meth c H locs 0 0 (MQ below (va_Qi post (WO D g) (AQ g)) args s 0 0 (AQ g)) (F0 m pc ls [.int v]) :=
  W.iret (v := v) S.1 S.2.1 hr (fun t ht hW => ⟨⟨v, x, rfl, hp, by unfold WO; rw [ht]; exact hP⟩, hS.F ht⟩) hS.2.2 hdg hlk
theorem w_zret {post : Int32 → St → Prop} {v : Int32} (S : CallFix p m c cc nL s args Ts own) (hr : meth.sig.returnType = some .boolean) (hlk : meth.locks = false) (hP : va_P D vwCl (WL g x) H) (hS : va_S (AQ g) s.heap H locs) (hdg : decode cc pc = .ok (.ireturn, 1)) (hz : v = 0 ∨ v = 1) (hp : post v x) : W p l e R s m args below meth c H locs 0 0 (MQ below (va_Qi post (WO D g) (AQ g)) args s 0 0 (AQ g)) (F0 m pc ls [.int v]) :=
  W.zret (v := v) S.1 S.2.1 hr (tz_narrow hz) (fun t ht hW => ⟨⟨v, x, rfl, hp, by unfold WO; rw [ht]; exact hP⟩, hS.F ht⟩) hS.2.2 hdg hlk
theorem w_vret {post : St → Prop} (S : CallFix p m c cc nL s args Ts own) (hr : meth.sig.returnType = none) (hlk : meth.locks = false) (hP : va_P D vwCl (WL g x) H) (hS : va_S (AQ g) s.heap H locs) (hdg : decode cc pc = .ok (.return_, 1)) (hp : post x) : W p l e R s m args below meth c H locs 0 0 (MQ below (va_Qv post (WO D g) (AQ g)) args s 0 0 (AQ g)) (F0 m pc ls []) :=
  W.vret S.1 S.2.1 hr (fun t ht hW => ⟨⟨x, rfl, hp, by unfold WO; rw [ht]; exact hP⟩, hS.F ht⟩) hS.2.2 hdg hlk
theorem w_blind (av : List Value) : FrameBlind (va_Pc av (WI D g x)) := fun a U g' mk h => by
  obtain ⟨h1, h2, h3, h4⟩ := h
  exact ⟨h1, h2, va_K.moved (Vm.Alike.refl U.vm) h3, NW.call _ _ _ h4⟩
variable {y : MethodName} {bytes : ByteArray} {maxL n index : Nat} {ret : Option FieldType} {ws : List Cond} {rm : Room} {As st0 : List Value} {lv : List (Nat × Value)}
theorem w_cVi {post : Int32 → St → Prop} (S : CallFix p m c cc nL s args Ts own) (hK : va_K D vwCl (TY g) s) (hN : NW s) (hP : va_P D vwCl (WL g x) H) (hS : va_S (AQ g) s.heap H locs) (hl : lv_has ls nL lv) (c0 : Nat) (h0 : c0 < 122) {ci N : Nat} {fs : List Value} {C : String} {T : u_T} (he : cellOf g c0 (x c0) = .inr (ci, fs)) (hc : vwCl[ci]? = some (C, T, N)) (hM : Met l y ws rm (va_Pc (.ref (g.1 c0) :: As) (WI D g x)) (va_Qi post (WO D g) (AQ g)) 0 0 (AQ g)) (cw : CallW R s args own C index y bytes maxL ret ws rm 0 0 n) (hn : As.length = n) (hst : st0 = As.reverse ++ .ref (g.1 c0) :: rest) (hcat : (rest.map fun v => v.category).sum ≤ 8) (hdg : decode cc pc = .ok (.invokevirtual index, 3)) (hcs : cells ≤ R.cells ∧ slots ≤ R.slots)
    (kk : ∀ (r : Int32) (x' : St) (H1 : Heap) (locs1 : List Loc), post r x' → va_P D vwCl (WL g x') H1 → va_S (AQ g) s.heap H1 locs1 → W p l e R s m args below meth c H1 locs1 cells slots Q (F0 m (pc + 3) ls (.int r :: rest))) : W p l e R s m args below meth c H locs cells slots Q (F0 m pc ls st0) := by
  subst hst
  exact va_calli (mc := 0) (ms := 0) (va_runV (As := As) (rest := rest) S hM cw ⟨w_blind _, va_recv hK hP hc (by rw [WL_at g x h0, he]), fun U hU hW => ⟨rfl, by rw [hU]; exact hP, va_K.moved hW.alike hK, hN.warm hW⟩⟩ rfl hn hl.1 rfl (lv_room hcat) hdg hcs) hS (fun q _ h => h) (fun q h => h) (fun r u t H1 locs1 ht hvm hw hB hz hk hS1 => kk r u H1 locs1 hw (by rw [← ht]; exact hB) hS1)
theorem w_cVv {post : St → Prop} (S : CallFix p m c cc nL s args Ts own) (hK : va_K D vwCl (TY g) s) (hN : NW s) (hP : va_P D vwCl (WL g x) H) (hS : va_S (AQ g) s.heap H locs) (hl : lv_has ls nL lv) (c0 : Nat) (h0 : c0 < 122) {ci N : Nat} {fs : List Value} {C : String} {T : u_T} (he : cellOf g c0 (x c0) = .inr (ci, fs)) (hc : vwCl[ci]? = some (C, T, N)) (hM : Met l y ws rm (va_Pc (.ref (g.1 c0) :: As) (WI D g x)) (va_Qv post (WO D g) (AQ g)) 0 0 (AQ g)) (cw : CallW R s args own C index y bytes maxL ret ws rm 0 0 n) (hn : As.length = n) (hst : st0 = As.reverse ++ .ref (g.1 c0) :: rest) (hcat : (rest.map fun v => v.category).sum ≤ 8) (hdg : decode cc pc = .ok (.invokevirtual index, 3)) (hcs : cells ≤ R.cells ∧ slots ≤ R.slots)
    (kk : ∀ (x' : St) (H1 : Heap) (locs1 : List Loc), post x' → va_P D vwCl (WL g x') H1 → va_S (AQ g) s.heap H1 locs1 → W p l e R s m args below meth c H1 locs1 cells slots Q (F0 m (pc + 3) ls rest)) : W p l e R s m args below meth c H locs cells slots Q (F0 m pc ls st0) := by
  subst hst
  exact va_callv (mc := 0) (ms := 0) (va_runV (As := As) (rest := rest) S hM cw ⟨w_blind _, va_recv hK hP hc (by rw [WL_at g x h0, he]), fun U hU hW => ⟨rfl, by rw [hU]; exact hP, va_K.moved hW.alike hK, hN.warm hW⟩⟩ rfl hn hl.1 rfl (lv_room hcat) hdg hcs) hS (fun q _ h => h) (fun q h => h) (fun u t H1 locs1 ht hvm hw hB hz hk hS1 => kk u H1 locs1 hw (by rw [← ht]; exact hB) hS1)
theorem w_cSi {post : Int32 → St → Prop} (S : CallFix p m c cc nL s args Ts own) (hK : va_K D vwCl (TY g) s) (hN : NW s) (hP : va_P D vwCl (WL g x) H) (hS : va_S (AQ g) s.heap H locs) (hl : lv_has ls nL lv) (hM : Met l y ws rm (va_Pc As (WI D g x)) (va_Qi post (WO D g) (AQ g)) 0 0 (AQ g)) (cw : CallB R s args own index y bytes maxL ret ws rm 0 0 n ∧ (Cond.static y).before args s = true) (hn : As.length = n) (hst : st0 = As.reverse ++ rest) (hcat : (rest.map fun v => v.category).sum ≤ 8) (hdg : decode cc pc = .ok (.invokestatic index, 3)) (hcs : cells ≤ R.cells ∧ slots ≤ R.slots)
    (kk : ∀ (r : Int32) (x' : St) (H1 : Heap) (locs1 : List Loc), post r x' → va_P D vwCl (WL g x') H1 → va_S (AQ g) s.heap H1 locs1 → W p l e R s m args below meth c H1 locs1 cells slots Q (F0 m (pc + 3) ls (.int r :: rest))) : W p l e R s m args below meth c H locs cells slots Q (F0 m pc ls st0) := by
  subst hst
  exact va_calli (mc := 0) (ms := 0) (va_runS (As := As) (rest := rest) S hM cw ⟨w_blind _, fun U hU hW => ⟨rfl, by rw [hU]; exact hP, va_K.moved hW.alike hK, hN.warm hW⟩⟩ rfl hn hl.1 rfl (lv_room hcat) hdg hcs) hS (fun q _ h => h) (fun q h => h) (fun r u t H1 locs1 ht hvm hw hB hz hk hS1 => kk r u H1 locs1 hw (by rw [← ht]; exact hB) hS1)
end WC
