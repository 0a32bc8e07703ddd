def FPort (g : GA) (B : Nat) (f : Nat → Int32) : List Value := [.ref (g.1 2), .ref (g.1 (B + 1)), .ref (g.1 (B + 2)), .ref (g.1 (B + 4)), .ref (g.1 (B + 7)), .ref (g.1 (B + 12)), .ref (g.1 (B + 17)), .ref (g.1 (B + 19)), .ref (g.1 (B + 20)), .int (f 9), .int (f 10), .int (f 11), .int (f 12), .int (f 13), .int (f 14)]
def FStore (g : GA) (B : Nat) (f : Nat → Int32) : List Value := [.ref (g.1 (B + 5)), .int (f 1), .int (f 2)]
def FOut (g : GA) (B : Nat) (f : Nat → Int32) : List Value := [.ref (g.1 (B + 8)), .ref (g.1 (B + 10)), .int (f 2), .int (f 3), .int (f 4)]
def FWait (g : GA) (B : Nat) (f : Nat → Int32) : List Value := [.ref (g.1 (B + 13)), .ref (g.1 (B + 14)), .ref (g.1 (B + 15)), .ref (g.1 (B + 16)), .int (f 4)]
def FRow (g : GA) (q : Nat) (f : Nat → Int32) : List Value := [.ref (g.1 q), .int (f 1), .int (f 2)]
theorem ceP0 {g : GA} {i : Nat} (hi : i < 4) (f : Nat → Int32) : cellOf g (5 + 21 * i) f = .inr (2, FPort g (5 + 21 * i) f) := cell_port0 g f hi
theorem ceP4 {g : GA} {i : Nat} (hi : i < 4) (f : Nat → Int32) : cellOf g (5 + 21 * i + 4) f = .inr (4, FStore g (5 + 21 * i) f) := cell_port g f hi (by decide)
theorem ceP7 {g : GA} {i : Nat} (hi : i < 4) (f : Nat → Int32) : cellOf g (5 + 21 * i + 7) f = .inr (1, FOut g (5 + 21 * i) f) := cell_port g f hi (by decide)
theorem ceP12 {g : GA} {i : Nat} (hi : i < 4) (f : Nat → Int32) : cellOf g (5 + 21 * i + 12) f = .inr (5, FWait g (5 + 21 * i) f) := cell_port g f hi (by decide)
theorem ceP2 {g : GA} {i : Nat} (hi : i < 4) (f : Nat → Int32) : cellOf g (5 + 21 * i + 2) f = .inr (3, FRow g (5 + 21 * i + 3) f) := cell_port g f hi (by decide)
theorem ceP5 {g : GA} {i : Nat} (hi : i < 4) (f : Nat → Int32) : cellOf g (5 + 21 * i + 5) f = .inr (3, FRow g (5 + 21 * i + 6) f) := cell_port g f hi (by decide)
theorem ceP8 {g : GA} {i : Nat} (hi : i < 4) (f : Nat → Int32) : cellOf g (5 + 21 * i + 8) f = .inr (3, FRow g (5 + 21 * i + 9) f) := cell_port g f hi (by decide)
theorem ceP10 {g : GA} {i : Nat} (hi : i < 4) (f : Nat → Int32) : cellOf g (5 + 21 * i + 10) f = .inr (3, FRow g (5 + 21 * i + 11) f) := cell_port g f hi (by decide)
theorem ceP17 {g : GA} {i : Nat} (hi : i < 4) (f : Nat → Int32) : cellOf g (5 + 21 * i + 17) f = .inr (3, FRow g (5 + 21 * i + 18) f) := cell_port g f hi (by decide)
theorem ceP1 {g : GA} {i : Nat} (hi : i < 4) (f : Nat → Int32) : cellOf g (5 + 21 * i + 1) f = ARR g 25 f := cell_port g f hi (by decide)
theorem ceP3 {g : GA} {i : Nat} (hi : i < 4) (f : Nat → Int32) : cellOf g (5 + 21 * i + 3) f = ARR g 8 f := cell_port g f hi (by decide)
theorem ceP6 {g : GA} {i : Nat} (hi : i < 4) (f : Nat → Int32) : cellOf g (5 + 21 * i + 6) f = ARR g 65 f := cell_port g f hi (by decide)
theorem ceP9 {g : GA} {i : Nat} (hi : i < 4) (f : Nat → Int32) : cellOf g (5 + 21 * i + 9) f = ARR g 64 f := cell_port g f hi (by decide)
theorem ceP11 {g : GA} {i : Nat} (hi : i < 4) (f : Nat → Int32) : cellOf g (5 + 21 * i + 11) f = ARR g 8 f := cell_port g f hi (by decide)
theorem ceP13 {g : GA} {i : Nat} (hi : i < 4) (f : Nat → Int32) : cellOf g (5 + 21 * i + 13) f = ARR g 3 f := cell_port g f hi (by decide)
theorem ceP14 {g : GA} {i : Nat} (hi : i < 4) (f : Nat → Int32) : cellOf g (5 + 21 * i + 14) f = ARR g 3 f := cell_port g f hi (by decide)
theorem ceP16 {g : GA} {i : Nat} (hi : i < 4) (f : Nat → Int32) : cellOf g (5 + 21 * i + 16) f = ARR g 3 f := cell_port g f hi (by decide)
theorem ceP18 {g : GA} {i : Nat} (hi : i < 4) (f : Nat → Int32) : cellOf g (5 + 21 * i + 18) f = ARR g 134 f := cell_port g f hi (by decide)
theorem ceP20 {g : GA} {i : Nat} (hi : i < 4) (f : Nat → Int32) : cellOf g (5 + 21 * i + 20) f = ARR g 5 f := cell_port g f hi (by decide)
theorem ceP15 {g : GA} {i : Nat} (hi : i < 4) (f : Nat → Int32) : cellOf g (5 + 21 * i + 15) f = ARZ g 3 f := cell_port g f hi (by decide)
theorem ceP19 {g : GA} {i : Nat} (hi : i < 4) (f : Nat → Int32) : cellOf g (5 + 21 * i + 19) f = ARZ g 8 f := cell_port g f hi (by decide)
theorem ceK0 {g : GA} (f : Nat → Int32) : cellOf g 0 f = .inr (6, [.ref (g.1 2), .ref (g.1 1)]) := rfl
theorem ceK2 {g : GA} (f : Nat → Int32) : cellOf g 2 f = .inr (0, [.ref (g.1 3), .ref (g.1 4)]) := rfl
theorem ceK3 {g : GA} (f : Nat → Int32) : cellOf g 3 f = ARR g 8 f := rfl
theorem ceK4 {g : GA} (f : Nat → Int32) : cellOf g 4 f = ARR g 8 f := rfl
def FMod (g : GA) (f : Nat → Int32) : List Value := [.int (f 0), .ref (g.1 90), .ref (g.1 91), .ref (g.1 92), .ref (g.1 93), .ref (g.1 94), .ref (g.1 95), .ref (g.1 96), .ref (g.1 97), .ref (g.1 98), .ref (g.1 99), .ref (g.1 100), .ref (g.1 101), .ref (g.1 102), .ref (g.1 103), .ref (g.1 104), .ref (g.1 105), .ref (g.1 106), .ref (g.1 107), .ref (g.1 108), .ref (g.1 109), .ref (g.1 110), .ref (g.1 111), .ref (g.1 112), .ref (g.1 113), .ref (g.1 114), .ref (g.1 115), .ref (g.1 116), .ref (g.1 117), .ref (g.1 118), .ref (g.1 119), .ref (g.1 120), .ref (g.1 121), .int (f 33)]
theorem ceK89 {g : GA} (f : Nat → Int32) : cellOf g 89 f = .inr (7, FMod g f) := rfl
theorem ceK90 {g : GA} (f : Nat → Int32) : cellOf g 90 f = ARR g 100 f := rfl
theorem ceK91 {g : GA} (f : Nat → Int32) : cellOf g 91 f = ARR g 32 f := rfl
theorem ceK92 {g : GA} (f : Nat → Int32) : cellOf g 92 f = ARR g 32 f := rfl
theorem ceK93 {g : GA} (f : Nat → Int32) : cellOf g 93 f = ARR g 4 f := rfl
theorem ceK94 {g : GA} (f : Nat → Int32) : cellOf g 94 f = ARR g 260 f := rfl
theorem ceK95 {g : GA} (f : Nat → Int32) : cellOf g 95 f = ARZ g 260 f := rfl
theorem ceK96 {g : GA} (f : Nat → Int32) : cellOf g 96 f = ARR g 4 f := rfl
theorem ceK97 {g : GA} (f : Nat → Int32) : cellOf g 97 f = ARR g 4 f := rfl
theorem ceK98 {g : GA} (f : Nat → Int32) : cellOf g 98 f = ARR g 4 f := rfl
theorem ceK99 {g : GA} (f : Nat → Int32) : cellOf g 99 f = ARR g 256 f := rfl
theorem ceK100 {g : GA} (f : Nat → Int32) : cellOf g 100 f = ARR g 4 f := rfl
theorem ceK101 {g : GA} (f : Nat → Int32) : cellOf g 101 f = ARR g 32 f := rfl
theorem ceK102 {g : GA} (f : Nat → Int32) : cellOf g 102 f = ARR g 4 f := rfl
theorem ceK103 {g : GA} (f : Nat → Int32) : cellOf g 103 f = ARZ g 4 f := rfl
theorem ceK104 {g : GA} (f : Nat → Int32) : cellOf g 104 f = ARZ g 4 f := rfl
theorem ceK105 {g : GA} (f : Nat → Int32) : cellOf g 105 f = ARR g 4 f := rfl
theorem ceK106 {g : GA} (f : Nat → Int32) : cellOf g 106 f = ARZ g 4 f := rfl
theorem ceK107 {g : GA} (f : Nat → Int32) : cellOf g 107 f = ARR g 4 f := rfl
theorem ceK108 {g : GA} (f : Nat → Int32) : cellOf g 108 f = ARZ g 4 f := rfl
theorem ceK109 {g : GA} (f : Nat → Int32) : cellOf g 109 f = ARZ g 4 f := rfl
theorem ceK110 {g : GA} (f : Nat → Int32) : cellOf g 110 f = ARZ g 4 f := rfl
theorem ceK111 {g : GA} (f : Nat → Int32) : cellOf g 111 f = ARR g 4 f := rfl
theorem ceK112 {g : GA} (f : Nat → Int32) : cellOf g 112 f = ARR g 4 f := rfl
theorem ceK113 {g : GA} (f : Nat → Int32) : cellOf g 113 f = ARR g 12 f := rfl
theorem ceK114 {g : GA} (f : Nat → Int32) : cellOf g 114 f = ARR g 12 f := rfl
theorem ceK115 {g : GA} (f : Nat → Int32) : cellOf g 115 f = ARZ g 12 f := rfl
theorem ceK116 {g : GA} (f : Nat → Int32) : cellOf g 116 f = ARR g 12 f := rfl
theorem ceK117 {g : GA} (f : Nat → Int32) : cellOf g 117 f = ARZ g 32 f := rfl
theorem ceK118 {g : GA} (f : Nat → Int32) : cellOf g 118 f = ARR g 8 f := rfl
theorem ceK119 {g : GA} (f : Nat → Int32) : cellOf g 119 f = ARR g 8 f := rfl
theorem ceK120 {g : GA} (f : Nat → Int32) : cellOf g 120 f = ARR g 20 f := rfl
theorem ceK121 {g : GA} (f : Nat → Int32) : cellOf g 121 f = ARR g 400 f := rfl
def loP (j k : Nat) : Int := match j with
  | 0 => (match k with | 9 => 0 | 10 => 0 | 11 => 0 | 13 => 0 | 14 => -1 | _ => -2147483648)
  | 2 => (match k with | 1 => 0 | 2 => 0 | _ => -2147483648)
  | 5 => (match k with | 1 => 0 | 2 => 0 | _ => -2147483648)
  | 8 => (match k with | 1 => 0 | 2 => 0 | _ => -2147483648)
  | 10 => (match k with | 1 => 0 | 2 => 0 | _ => -2147483648)
  | 17 => (match k with | 1 => 0 | 2 => 0 | _ => -2147483648)
  | 7 => (match k with | 3 => 0 | 4 => 0 | _ => -2147483648)
  | 12 => (match k with | 4 => 0 | _ => -2147483648)
  | 13 => 0
  | 15 => 0
  | 19 => 0
  | _ => -2147483648
def hiP (j k : Nat) : Int := match j with
  | 0 => (match k with | 9 => 1 | 10 => 1 | 11 => 1 | 13 => 1 | 14 => 24 | _ => 2147483647)
  | 2 => (match k with | 1 => 7 | 2 => 8 | _ => 2147483647)
  | 5 => (match k with | 1 => 64 | 2 => 65 | _ => 2147483647)
  | 8 => (match k with | 1 => 63 | 2 => 64 | _ => 2147483647)
  | 10 => (match k with | 1 => 7 | 2 => 8 | _ => 2147483647)
  | 17 => (match k with | 1 => 133 | 2 => 134 | _ => 2147483647)
  | 7 => (match k with | 3 => 1 | 4 => 1 | _ => 2147483647)
  | 12 => (match k with | 4 => 3 | _ => 2147483647)
  | 13 => 24
  | 15 => 1
  | 19 => 1
  | _ => 2147483647
def loM (j k : Nat) : Int := match j with
  | 0 => (match k with | 33 => 0 | _ => -2147483648)
  | 4 => 0
  | 6 => 0
  | 7 => 0
  | 8 => 0
  | 11 => 0
  | 13 => 0
  | 14 => 0
  | 15 => 0
  | 17 => 0
  | 19 => 0
  | 20 => 0
  | 21 => 0
  | 23 => 0
  | 24 => 0
  | 26 => 0
  | 28 => 0
  | _ => -2147483648
def hiM (j k : Nat) : Int := match j with
  | 0 => (match k with | 33 => 400 | _ => 2147483647)
  | 4 => 8
  | 6 => 1
  | 7 => 65
  | 8 => 65
  | 11 => 64
  | 13 => 8
  | 14 => 1
  | 15 => 1
  | 17 => 1
  | 19 => 1
  | 20 => 1
  | 21 => 1
  | 23 => 3
  | 24 => 24
  | 26 => 1
  | 28 => 1
  | _ => 2147483647
def lo (c k : Nat) : Int := if c < 5 then -2147483648 else if c < 89 then loP ((c - 5) % 21) k else loM (c - 89) k
def hi (c k : Nat) : Int := if c < 5 then 2147483647 else if c < 89 then hiP ((c - 5) % 21) k else hiM (c - 89) k
theorem lo_port {i j : Nat} (k : Nat) (h : i < 4) (hj : j < 21) : lo (5 + 21 * i + j) k = loP j k := by
  have h1 : ¬ 5 + 21 * i + j < 5 := by omega
  have h2 : 5 + 21 * i + j < 89 := by omega
  have h4 : (5 + 21 * i + j - 5) % 21 = j := by omega
  simp only [lo, h1, h2, h4, if_false, if_true]
theorem hi_port {i j : Nat} (k : Nat) (h : i < 4) (hj : j < 21) : hi (5 + 21 * i + j) k = hiP j k := by
  have h1 : ¬ 5 + 21 * i + j < 5 := by omega
  have h2 : 5 + 21 * i + j < 89 := by omega
  have h4 : (5 + 21 * i + j - 5) % 21 = j := by omega
  simp only [hi, h1, h2, h4, if_false, if_true]
def Inv (x : St) : Prop := ∀ c k, lo c k ≤ (x c k).toInt ∧ (x c k).toInt ≤ hi c k
theorem Inv.up {x : St} {c k : Nat} {v : Int32} (h : Inv x) (h1 : lo c k ≤ v.toInt) (h2 : v.toInt ≤ hi c k) : Inv (up2 x c k v) := by
  intro c' k'
  by_cases e : c' = c ∧ k' = k
  · obtain ⟨rfl, rfl⟩ := e
    rw [up2_at]
    exact ⟨h1, h2⟩
  · rw [up2_ne x v e]
    exact h c' k'
theorem i_ge (v : Int32) : -2147483648 ≤ v.toInt := Int32.le_toInt v
theorem i_le (v : Int32) : v.toInt ≤ 2147483647 := by have := Int32.toInt_lt v; omega
theorem Inv.upP {x : St} {i j k : Nat} {v : Int32} (h : Inv x) (hi4 : i < 4) (hj : j < 21) (h1 : loP j k ≤ v.toInt) (h2 : v.toInt ≤ hiP j k) : Inv (up2 x (5 + 21 * i + j) k v) := h.up (by rw [lo_port k hi4 hj]; exact h1) (by rw [hi_port k hi4 hj]; exact h2)
theorem Inv.upP0 {x : St} {i k : Nat} {v : Int32} (h : Inv x) (hi4 : i < 4) (h1 : loP 0 k ≤ v.toInt) (h2 : v.toInt ≤ hiP 0 k) : Inv (up2 x (5 + 21 * i) k v) := h.upP (j := 0) hi4 (by decide) h1 h2
theorem Inv.atP {x : St} {i j k : Nat} (h : Inv x) (hi4 : i < 4) (hj : j < 21) : loP j k ≤ (x (5 + 21 * i + j) k).toInt ∧ (x (5 + 21 * i + j) k).toInt ≤ hiP j k := by
  have := h (5 + 21 * i + j) k
  rw [lo_port k hi4 hj, hi_port k hi4 hj] at this
  exact this
theorem Inv.atP0 {x : St} {i k : Nat} (h : Inv x) (hi4 : i < 4) : loP 0 k ≤ (x (5 + 21 * i) k).toInt ∧ (x (5 + 21 * i) k).toInt ≤ hiP 0 k := h.atP (j := 0) hi4 (by decide)
theorem z01 {v : Int32} (h1 : 0 ≤ v.toInt) (h2 : v.toInt ≤ 1) : v = 0 ∨ v = 1 := by
  rcases (show v.toInt = 0 ∨ v.toInt = 1 by omega) with h | h
  · exact Or.inl (t_eq.mpr h)
  · exact Or.inr (t_eq.mpr h)
def Same (T : Nat → Nat → Prop) (x y : St) : Prop := ∀ c k, T c k → y c k = x c k
theorem Same.rf {T : Nat → Nat → Prop} {x : St} : Same T x x := fun _ _ _ => rfl
theorem Same.up {T : Nat → Nat → Prop} {x y : St} {c k : Nat} {v : Int32} (h : Same T x y) (hn : ¬ T c k) : Same T x (up2 y c k v) := by
  intro c' k' ht
  rw [up2_ne y v (fun e => hn (by obtain ⟨rfl, rfl⟩ := e; exact ht))]
  exact h c' k' ht
theorem Same.tr {T T' : Nat → Nat → Prop} {x y z : St} (h : Same T x y) (h' : Same T' y z) (hs : ∀ c k, T c k → T' c k) : Same T x z := fun c k ht => (h' c k (hs c k ht)).trans (h c k ht)
def TrC (c k : Nat) : Prop := 5 ≤ c ∧ c < 89 ∧ (((c - 5) % 21 = 2 ∧ k = 2) ∨ ((c - 5) % 21 = 0 ∧ (k = 10 ∨ k = 11)) ∨ (c - 5) % 21 = 19)
def TC (c k : Nat) : Prop := 89 ≤ c ∨ TrC c k
def TrM (c _ : Nat) : Prop := c = 93 ∨ c = 108 ∨ c = 110 ∨ c = 117
def TM (c k : Nat) : Prop := c < 89 ∨ TrM c k
def TCr (i c k : Nat) : Prop := TC c k ∧ ¬ (c = 5 + 21 * i + 2 ∧ k = 2)
def TCh (i c k : Nat) : Prop := TC c k ∧ ¬ (c = 5 + 21 * i ∧ k = 11)
def TCo (i c k : Nat) : Prop := TC c k ∧ ¬ (c = 5 + 21 * i ∧ k = 11) ∧ ¬ c = 5 + 21 * i + 19
def TCc (i c k : Nat) : Prop := TC c k ∧ ¬ (c = 5 + 21 * i ∧ (k = 10 ∨ k = 11))
def TCp (i c k : Nat) : Prop := TC c k ∧ ¬ c = 5 + 21 * i + 19
def TCt (c k : Nat) : Prop := TC c k ∧ ¬ (5 ≤ c ∧ c < 89 ∧ (c - 5) % 21 = 2 ∧ k = 2)
def TMr (i c k : Nat) : Prop := TM c k ∧ ¬ (c = 93 ∧ k = i)
def TMc (i c k : Nat) : Prop := TM c k ∧ ¬ (c = 108 ∧ k = i) ∧ ¬ (c = 110 ∧ k = i)
def TMo (i c k : Nat) : Prop := TM c k ∧ ¬ (c = 110 ∧ k = i) ∧ ¬ (c = 117 ∧ 8 * i ≤ k ∧ k < 8 * i + 8)
def TMp (a c k : Nat) : Prop := TM c k ∧ ¬ (c = 117 ∧ k = a)
def TMt (c k : Nat) : Prop := TM c k ∧ ¬ c = 93
def TR (c0 : Nat) (c _ : Nat) : Prop := c ≠ c0 ∧ c ≠ c0 + 1
def Rel (x : St) : Prop := ∀ p, p < 4 → (x 97 p).toInt ≤ (x 96 p).toInt
def IsRow (g : GA) (c n : Nat) : Prop := (5 ≤ c ∧ c + 1 < 89) ∧ (∀ f, cellOf g c f = .inr (3, FRow g (c + 1) f)) ∧ (∀ f, cellOf g (c + 1) f = ARR g n f) ∧ (1 ≤ n ∧ n ≤ 134) ∧ (lo c 1 = 0 ∧ hi c 1 = n - 1 ∧ lo c 2 = 0 ∧ hi c 2 = n) ∧ ∀ k, lo (c + 1) k = -2147483648 ∧ hi (c + 1) k = 2147483647
theorem isRow2 {g : GA} {i : Nat} (h : i < 4) : IsRow g (5 + 21 * i + 2) 8 := ⟨⟨by omega, by omega⟩, ceP2 h, ceP3 h, ⟨by decide, by decide⟩, ⟨lo_port 1 h (by decide), hi_port 1 h (by decide), lo_port 2 h (by decide), hi_port 2 h (by decide)⟩, fun k => ⟨lo_port (j := 3) k h (by decide), hi_port (j := 3) k h (by decide)⟩⟩
theorem isRow5 {g : GA} {i : Nat} (h : i < 4) : IsRow g (5 + 21 * i + 5) 65 := ⟨⟨by omega, by omega⟩, ceP5 h, ceP6 h, ⟨by decide, by decide⟩, ⟨lo_port 1 h (by decide), hi_port 1 h (by decide), lo_port 2 h (by decide), hi_port 2 h (by decide)⟩, fun k => ⟨lo_port (j := 6) k h (by decide), hi_port (j := 6) k h (by decide)⟩⟩
theorem isRow8 {g : GA} {i : Nat} (h : i < 4) : IsRow g (5 + 21 * i + 8) 64 := ⟨⟨by omega, by omega⟩, ceP8 h, ceP9 h, ⟨by decide, by decide⟩, ⟨lo_port 1 h (by decide), hi_port 1 h (by decide), lo_port 2 h (by decide), hi_port 2 h (by decide)⟩, fun k => ⟨lo_port (j := 9) k h (by decide), hi_port (j := 9) k h (by decide)⟩⟩
theorem isRow10 {g : GA} {i : Nat} (h : i < 4) : IsRow g (5 + 21 * i + 10) 8 := ⟨⟨by omega, by omega⟩, ceP10 h, ceP11 h, ⟨by decide, by decide⟩, ⟨lo_port 1 h (by decide), hi_port 1 h (by decide), lo_port 2 h (by decide), hi_port 2 h (by decide)⟩, fun k => ⟨lo_port (j := 11) k h (by decide), hi_port (j := 11) k h (by decide)⟩⟩
theorem isRow17 {g : GA} {i : Nat} (h : i < 4) : IsRow g (5 + 21 * i + 17) 134 := ⟨⟨by omega, by omega⟩, ceP17 h, ceP18 h, ⟨by decide, by decide⟩, ⟨lo_port 1 h (by decide), hi_port 1 h (by decide), lo_port 2 h (by decide), hi_port 2 h (by decide)⟩, fun k => ⟨lo_port (j := 18) k h (by decide), hi_port (j := 18) k h (by decide)⟩⟩
theorem IsRow.lt {g : GA} {c n : Nat} (h : IsRow g c n) : c < 122 := by have := h.1; omega
theorem IsRow.lt1 {g : GA} {c n : Nat} (h : IsRow g c n) : c + 1 < 122 := by have := h.1; omega
theorem IsRow.first {g : GA} {c n : Nat} (h : IsRow g c n) {x : St} (hI : Inv x) : 0 ≤ (x c 1).toInt ∧ (x c 1).toInt < n := by
  have h1 := hI c 1
  rw [h.2.2.2.2.1.1, h.2.2.2.2.1.2.1] at h1
  omega
theorem IsRow.size {g : GA} {c n : Nat} (h : IsRow g c n) {x : St} (hI : Inv x) : 0 ≤ (x c 2).toInt ∧ (x c 2).toInt ≤ n := by
  have h1 := hI c 2
  rw [h.2.2.2.2.1.2.2.1, h.2.2.2.2.1.2.2.2] at h1
  omega
theorem IsRow.upF {g : GA} {c n : Nat} (h : IsRow g c n) {x : St} {v : Int32} (hI : Inv x) (h1 : 0 ≤ v.toInt) (h2 : v.toInt < n) : Inv (up2 x c 1 v) := hI.up (by rw [h.2.2.2.2.1.1]; exact h1) (by rw [h.2.2.2.2.1.2.1]; omega)
theorem IsRow.upS {g : GA} {c n : Nat} (h : IsRow g c n) {x : St} {v : Int32} (hI : Inv x) (h1 : 0 ≤ v.toInt) (h2 : v.toInt ≤ n) : Inv (up2 x c 2 v) := hI.up (by rw [h.2.2.2.2.1.2.2.1]; exact h1) (by rw [h.2.2.2.2.1.2.2.2]; exact h2)
theorem IsRow.upA {g : GA} {c n : Nat} (h : IsRow g c n) {x : St} {v : Int32} {k : Nat} (hI : Inv x) : Inv (up2 x (c + 1) k v) := hI.up (by rw [(h.2.2.2.2.2 k).1]; exact i_ge v) (by rw [(h.2.2.2.2.2 k).2]; exact i_le v)
