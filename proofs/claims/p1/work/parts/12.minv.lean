def TG (c _ : Nat) : Prop := c ≠ 99 ∧ c ≠ 100 ∧ c ≠ 105
def TE (c k : Nat) : Prop := c ≠ 99 ∧ c ≠ 100 ∧ c ≠ 105 ∧ c ≠ 120 ∧ c ≠ 121 ∧ ¬ (c = 89 ∧ k = 33)
def TW (c k : Nat) : Prop := c ≠ 121 ∧ ¬ (c = 89 ∧ k = 33)
def TS (c _ : Nat) : Prop := c ≠ 90 ∧ c ≠ 94 ∧ c ≠ 95 ∧ c ≠ 96 ∧ c ≠ 97 ∧ c ≠ 106 ∧ c ≠ 107
theorem Rel.oth {x : St} {c k : Nat} {v : Int32} (h : Rel x) (h1 : c ≠ 96) (h2 : c ≠ 97) : Rel (up2 x c k v) := by
  intro p hp
  rw [up2_ne x v (by omega), up2_ne x v (by omega)]
  exact h p hp
theorem Rel.st {x : St} {k : Nat} {v : Int32} (h : Rel x) (h1 : (x 97 k).toInt ≤ v.toInt) : Rel (up2 x 96 k v) := by
  intro p hp
  rw [up2_ne (c := 96) (c' := 97) x v (by omega)]
  by_cases e : p = k
  · subst e; rw [up2_at]; exact h1
  · rw [up2_ne x v (by omega)]; exact h p hp
theorem Rel.rl {x : St} {k : Nat} {v : Int32} (h : Rel x) (h1 : v.toInt ≤ (x 96 k).toInt) : Rel (up2 x 97 k v) := by
  intro p hp
  rw [up2_ne (c := 97) (c' := 96) x v (by omega)]
  by_cases e : p = k
  · subst e; rw [up2_at]; exact h1
  · rw [up2_ne x v (by omega)]; exact h p hp
theorem Rel.both {x : St} {k : Nat} {v w : Int32} (h : Rel x) (h1 : w.toInt ≤ v.toInt) : Rel (up2 (up2 x 96 k v) 97 k w) := by
  intro p hp
  by_cases e : p = k
  · subst e; rw [up2_at, up2_ne (c := 97) (c' := 96) _ w (by omega), up2_at]; exact h1
  · rw [up2_ne _ w (by omega), up2_ne _ w (by omega), up2_ne _ v (by omega), up2_ne _ v (by omega)]; exact h p hp
theorem t_rem8 {a b v : Int32} (h : v = a - a / b * b) (hb : b.toInt = 8) : -7 ≤ v.toInt ∧ v.toInt ≤ 7 := by
  have h1 := i_ge a
  have h2 := i_le a
  have hd : (0 ≤ a.toInt ∧ a.toInt.tdiv 8 = a.toInt / 8) ∨ (a.toInt < 0 ∧ a.toInt.tdiv 8 = -((-a.toInt) / 8)) := by
    rcases Int.lt_or_le a.toInt 0 with q | q
    · refine Or.inr ⟨q, ?_⟩
      have e := Int.neg_tdiv (-a.toInt) 8
      rw [Int.neg_neg] at e
      rw [e, Int.tdiv_eq_ediv_of_nonneg (by omega)]
    · exact Or.inl ⟨q, Int.tdiv_eq_ediv_of_nonneg q⟩
  have hq : (a / b).toInt = a.toInt.tdiv 8 := by
    rw [Int32.toInt_div, hb]
    exact Int.bmod_eq_of_le (by omega) (by omega)
  have hm : (a / b * b).toInt = a.toInt.tdiv 8 * 8 := by
    rw [ti_mul (by rw [hq, hb]; omega) (by rw [hq, hb]; omega), hq, hb]
  rw [h, ti_sub (by rw [hm]; omega) (by rw [hm]; omega), hm]
  omega
