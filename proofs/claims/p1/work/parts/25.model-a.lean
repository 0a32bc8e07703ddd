set_option maxRecDepth 100000 in
set_option maxHeartbeats 4000000 in
theorem c_X7_isPort (l : Launch) (D : va_G) (g : GA) (hg : Inj g) (x : St) (hI : Inv x) (a : Int32) : Met l yX7_isPort wsX7_isPort ({ frames := 0, cells := 0, slots := 0, locals := 0 } : Room) (va_Pc [.int a] (WI D g x)) (va_Qi (fun r x2 => x2 = x ∧ ((r.toInt = 1 ∧ 0 ≤ a.toInt ∧ a.toInt ≤ 3) ∨ (r.toInt = 0 ∧ (a.toInt < 0 ∨ 3 < a.toInt)))) (WO D g) (AQ g)) 0 0 (AQ g) := by
  refine w_met (cc := cX7_isPort) (maxL := 1) (ret := (some .boolean)) (own := RX7) (by decide) rfl rfl (Nat.le_of_ble_eq_true rfl) (fun p e s m below meth co S hr0 hlk hK hN hP hS ls hl => ?_)
  have hts := S.2.2.2.2
  have hl : lv_has ls 1 [(0, .int a)] := hl
  refine lv_iload_n S.1 S.2.1 dX7_isPort_0 rfl (lv_at hl 0 rfl) ?_
  refine w_if_lt (tgt := 13) S dX7_isPort_1 (by decide) (fun hb1 => ?_) (fun hb1 => ?_)
  · refine w_iconst S dX7_isPort_13 (by decide) (fun k2 hk2 => ?_)
    exact w_zret S hr0 hlk hP hS dX7_isPort_14 (z01 (by omega) (by omega)) (⟨rfl, by omega⟩)
  · refine lv_iload_n S.1 S.2.1 dX7_isPort_4 rfl (lv_at hl 0 rfl) ?_
    refine w_iconst S dX7_isPort_5 (by decide) (fun k3 hk3 => ?_)
    refine w_icmp_ge (tgt := 13) S dX7_isPort_6 (by decide) (fun hb4 => ?_) (fun hb4 => ?_)
    · refine w_iconst S dX7_isPort_13 (by decide) (fun k5 hk5 => ?_)
      exact w_zret S hr0 hlk hP hS dX7_isPort_14 (z01 (by omega) (by omega)) (⟨rfl, by omega⟩)
    · refine w_iconst S dX7_isPort_9 (by decide) (fun k6 hk6 => ?_)
      refine lv_goto (tgt := 14) S.1 S.2.1 dX7_isPort_10 (by decide) ?_
      exact w_zret S hr0 hlk hP hS dX7_isPort_14 (z01 (by omega) (by omega)) (⟨rfl, by omega⟩)
set_option maxRecDepth 100000 in
set_option maxHeartbeats 4000000 in
theorem c_X7_isProcess (l : Launch) (D : va_G) (g : GA) (hg : Inj g) (x : St) (hI : Inv x) (a : Int32) : Met l yX7_isProcess wsX7_isProcess ({ frames := 0, cells := 0, slots := 0, locals := 0 } : Room) (va_Pc [.int a] (WI D g x)) (va_Qi (fun r x2 => x2 = x ∧ ((r.toInt = 1 ∧ 0 ≤ a.toInt ∧ a.toInt ≤ 7) ∨ (r.toInt = 0 ∧ (a.toInt < 0 ∨ 7 < a.toInt)))) (WO D g) (AQ g)) 0 0 (AQ g) := by
  refine w_met (cc := cX7_isProcess) (maxL := 1) (ret := (some .boolean)) (own := RX7) (by decide) rfl rfl (Nat.le_of_ble_eq_true rfl) (fun p e s m below meth co S hr0 hlk hK hN hP hS ls hl => ?_)
  have hts := S.2.2.2.2
  have hl : lv_has ls 1 [(0, .int a)] := hl
  refine lv_iload_n S.1 S.2.1 dX7_isProcess_0 rfl (lv_at hl 0 rfl) ?_
  refine w_if_lt (tgt := 14) S dX7_isProcess_1 (by decide) (fun hb1 => ?_) (fun hb1 => ?_)
  · refine w_iconst S dX7_isProcess_14 (by decide) (fun k2 hk2 => ?_)
    exact w_zret S hr0 hlk hP hS dX7_isProcess_15 (z01 (by omega) (by omega)) (⟨rfl, by omega⟩)
  · refine lv_iload_n S.1 S.2.1 dX7_isProcess_4 rfl (lv_at hl 0 rfl) ?_
    refine w_bipush S dX7_isProcess_5 (by decide) (fun k3 hk3 => ?_)
    refine w_icmp_ge (tgt := 14) S dX7_isProcess_7 (by decide) (fun hb4 => ?_) (fun hb4 => ?_)
    · refine w_iconst S dX7_isProcess_14 (by decide) (fun k5 hk5 => ?_)
      exact w_zret S hr0 hlk hP hS dX7_isProcess_15 (z01 (by omega) (by omega)) (⟨rfl, by omega⟩)
    · refine w_iconst S dX7_isProcess_10 (by decide) (fun k6 hk6 => ?_)
      refine lv_goto (tgt := 15) S.1 S.2.1 dX7_isProcess_11 (by decide) ?_
      exact w_zret S hr0 hlk hP hS dX7_isProcess_15 (z01 (by omega) (by omega)) (⟨rfl, by omega⟩)
set_option maxRecDepth 100000 in
set_option maxHeartbeats 4000000 in
theorem c_X7_most (l : Launch) (D : va_G) (g : GA) (hg : Inj g) (x : St) (hI : Inv x) (a : Int32) : Met l yX7_most wsX7_most ({ frames := 0, cells := 0, slots := 0, locals := 0 } : Room) (va_Pc [.int a] (WI D g x)) (va_Qi (fun r x2 => x2 = x ∧ (a.toInt < 12 → r.toInt = 1) ∧ (a.toInt = 12 → r.toInt = 32) ∧ (a.toInt = 13 → r.toInt = 20) ∧ (13 < a.toInt → r.toInt = 256)) (WO D g) (AQ g)) 0 0 (AQ g) := by
  refine w_met (cc := cX7_most) (maxL := 1) (ret := (some .int)) (own := RX7) (by decide) rfl rfl (Nat.le_of_ble_eq_true rfl) (fun p e s m below meth co S hr0 hlk hK hN hP hS ls hl => ?_)
  have hts := S.2.2.2.2
  have hl : lv_has ls 1 [(0, .int a)] := hl
  refine lv_iload_n S.1 S.2.1 dX7_most_0 rfl (lv_at hl 0 rfl) ?_
  refine w_bipush S dX7_most_1 (by decide) (fun k1 hk1 => ?_)
  refine w_icmp_ge (tgt := 8) S dX7_most_3 (by decide) (fun hb2 => ?_) (fun hb2 => ?_)
  · refine lv_iload_n S.1 S.2.1 dX7_most_8 rfl (lv_at hl 0 rfl) ?_
    refine w_bipush S dX7_most_9 (by decide) (fun k3 hk3 => ?_)
    refine w_icmp_ne (tgt := 17) S dX7_most_11 (by decide) (fun hb4 => ?_) (fun hb4 => ?_)
    · refine lv_iload_n S.1 S.2.1 dX7_most_17 rfl (lv_at hl 0 rfl) ?_
      refine w_bipush S dX7_most_18 (by decide) (fun k5 hk5 => ?_)
      refine w_icmp_ne (tgt := 26) S dX7_most_20 (by decide) (fun hb6 => ?_) (fun hb6 => ?_)
      · refine w_sipush S dX7_most_26 (by decide) (fun k7 hk7 => ?_)
        exact w_iret S hr0 hlk hP hS dX7_most_29 (⟨rfl, by omega, by omega, by omega, by omega⟩)
      · refine w_bipush S dX7_most_23 (by decide) (fun k8 hk8 => ?_)
        exact w_iret S hr0 hlk hP hS dX7_most_25 (⟨rfl, by omega, by omega, by omega, by omega⟩)
    · refine w_bipush S dX7_most_14 (by decide) (fun k9 hk9 => ?_)
      exact w_iret S hr0 hlk hP hS dX7_most_16 (⟨rfl, by omega, by omega, by omega, by omega⟩)
  · refine w_iconst S dX7_most_6 (by decide) (fun k10 hk10 => ?_)
    exact w_iret S hr0 hlk hP hS dX7_most_7 (⟨rfl, by omega, by omega, by omega, by omega⟩)
set_option maxRecDepth 100000 in
set_option maxHeartbeats 4000000 in
theorem c_X7_isPlain (l : Launch) (D : va_G) (g : GA) (hg : Inj g) (x : St) (hI : Inv x) (a : Int32) : Met l yX7_isPlain wsX7_isPlain ({ frames := 0, cells := 0, slots := 0, locals := 0 } : Room) (va_Pc [.int a] (WI D g x)) (va_Qi (fun r x2 => x2 = x ∧ (0 ≤ r.toInt ∧ r.toInt ≤ 1)) (WO D g) (AQ g)) 0 0 (AQ g) := by
  refine w_met (cc := cX7_isPlain) (maxL := 1) (ret := (some .boolean)) (own := RX7) (by decide) rfl rfl (Nat.le_of_ble_eq_true rfl) (fun p e s m below meth co S hr0 hlk hK hN hP hS ls hl => ?_)
  have hts := S.2.2.2.2
  have hl : lv_has ls 1 [(0, .int a)] := hl
  refine lv_iload_n S.1 S.2.1 dX7_isPlain_0 rfl (lv_at hl 0 rfl) ?_
  refine w_bipush S dX7_isPlain_1 (by decide) (fun k1 hk1 => ?_)
  refine w_icmp_lt (tgt := 16) S dX7_isPlain_3 (by decide) (fun hb2 => ?_) (fun hb2 => ?_)
  · refine w_iconst S dX7_isPlain_16 (by decide) (fun k3 hk3 => ?_)
    exact w_zret S hr0 hlk hP hS dX7_isPlain_17 (z01 (by omega) (by omega)) (⟨rfl, by omega⟩)
  · refine lv_iload_n S.1 S.2.1 dX7_isPlain_6 rfl (lv_at hl 0 rfl) ?_
    refine w_bipush S dX7_isPlain_7 (by decide) (fun k4 hk4 => ?_)
    refine w_icmp_eq (tgt := 16) S dX7_isPlain_9 (by decide) (fun hb5 => ?_) (fun hb5 => ?_)
    · refine w_iconst S dX7_isPlain_16 (by decide) (fun k6 hk6 => ?_)
      exact w_zret S hr0 hlk hP hS dX7_isPlain_17 (z01 (by omega) (by omega)) (⟨rfl, by omega⟩)
    · refine w_iconst S dX7_isPlain_12 (by decide) (fun k7 hk7 => ?_)
      refine lv_goto (tgt := 17) S.1 S.2.1 dX7_isPlain_13 (by decide) ?_
      exact w_zret S hr0 hlk hP hS dX7_isPlain_17 (z01 (by omega) (by omega)) (⟨rfl, by omega⟩)
set_option maxRecDepth 100000 in
set_option maxHeartbeats 4000000 in
theorem c_X7_mode1 (l : Launch) (D : va_G) (g : GA) (hg : Inj g) (x : St) (hI : Inv x) (po : Int32) (k : Int32) (hy0 : 0 ≤ po.toInt ∧ po.toInt < 4) (hy1 : 0 ≤ k.toInt ∧ k.toInt ≤ 24) : Met l yX7_mode1 wsX7_mode1 ({ frames := 0, cells := 0, slots := 0, locals := 0 } : Room) (va_Pc [.ref (g.1 89), .int po, .int k] (WI D g x)) (va_Qi (fun r x2 => x2 = x ∧ r.toInt = (x 90 ((25 * po.toInt + k.toInt).toNat)).toInt) (WO D g) (AQ g)) 0 0 (AQ g) := by
  refine w_met (cc := cX7_mode1) (maxL := 3) (ret := (some .int)) (own := RX7) (by decide) rfl rfl (Nat.le_of_ble_eq_true rfl) (fun p e s m below meth co S hr0 hlk hK hN hP hS ls hl => ?_)
  have hts := S.2.2.2.2
  have hl : lv_has ls 3 [(0, .ref (g.1 89)), (1, .int po), (2, .int k)] := hl
  refine lv_aload_n S.1 S.2.1 dX7_mode1_0 rfl (lv_at hl 0 rfl) ?_
  refine w_get (C := RX7) (T := TX7) (N := 34) S (fun _ h => List.mem_cons_of_mem _ (List.mem_append_right _ h)) hK hP 89 (by decide) (ceK89 _) rfl 1 (by decide) (hts _ (List.mem_of_getElem? (i := 1) rfl)) (v := .ref (g.1 90)) rfl dX7_mode1_1 ?_
  refine w_bipush S dX7_mode1_4 (by decide) (fun k1 hk1 => ?_)
  refine lv_iload_n S.1 S.2.1 dX7_mode1_6 rfl (lv_at hl 1 rfl) ?_
  refine w_imulk S dX7_mode1_7 25 hk1 (by omega) (by omega) (fun v2 hv2 => ?_)
  refine lv_iload_n S.1 S.2.1 dX7_mode1_8 rfl (lv_at hl 2 rfl) ?_
  refine w_iadd S dX7_mode1_9 (by omega) (by omega) (fun v3 hv3 => ?_)
  have hix : v3.toInt.toNat = (25 * po.toInt + k.toInt).toNat := by omega
  refine w_iald S hK hP 90 (by decide) ceK90 (by omega) (by omega) dX7_mode1_10 (fun v4 ev4 => ?_)
  have wv4 : v4.toInt = (x 90 v3.toInt.toNat).toInt := by rw [ev4]
  have hr11 : v4.toInt = (x 90 ((25 * po.toInt + k.toInt).toNat)).toInt := by rw [wv4, hix]
  exact w_iret S hr0 hlk hP hS dX7_mode1_11 (⟨rfl, hr11⟩)
set_option maxRecDepth 100000 in
set_option maxHeartbeats 4000000 in
theorem c_X7_on (l : Launch) (D : va_G) (g : GA) (hg : Inj g) (x : St) (hI : Inv x) (po : Int32) (k : Int32) (hy0 : 0 ≤ po.toInt ∧ po.toInt < 4) (hy1 : 0 ≤ k.toInt ∧ k.toInt ≤ 24) : Met l yX7_on wsX7_on ({ frames := 0, cells := 0, slots := 0, locals := 0 } : Room) (va_Pc [.ref (g.1 89), .int po, .int k] (WI D g x)) (va_Qi (fun r x2 => x2 = x ∧ (0 ≤ r.toInt ∧ r.toInt ≤ 1)) (WO D g) (AQ g)) 0 0 (AQ g) := by
  refine w_met (cc := cX7_on) (maxL := 3) (ret := (some .boolean)) (own := RX7) (by decide) rfl rfl (Nat.le_of_ble_eq_true rfl) (fun p e s m below meth co S hr0 hlk hK hN hP hS ls hl => ?_)
  have hts := S.2.2.2.2
  have hl : lv_has ls 3 [(0, .ref (g.1 89)), (1, .int po), (2, .int k)] := hl
  refine lv_aload_n S.1 S.2.1 dX7_on_0 rfl (lv_at hl 0 rfl) ?_
  refine w_get (C := RX7) (T := TX7) (N := 34) S (fun _ h => List.mem_cons_of_mem _ (List.mem_append_right _ h)) hK hP 89 (by decide) (ceK89 _) rfl 1 (by decide) (hts _ (List.mem_of_getElem? (i := 1) rfl)) (v := .ref (g.1 90)) rfl dX7_on_1 ?_
  refine w_bipush S dX7_on_4 (by decide) (fun k1 hk1 => ?_)
  refine lv_iload_n S.1 S.2.1 dX7_on_6 rfl (lv_at hl 1 rfl) ?_
  refine w_imulk S dX7_on_7 25 hk1 (by omega) (by omega) (fun v2 hv2 => ?_)
  refine lv_iload_n S.1 S.2.1 dX7_on_8 rfl (lv_at hl 2 rfl) ?_
  refine w_iadd S dX7_on_9 (by omega) (by omega) (fun v3 hv3 => ?_)
  refine w_iald S hK hP 90 (by decide) ceK90 (by omega) (by omega) dX7_on_10 (fun v4 ev4 => ?_)
  have wv4 : v4.toInt = (x 90 v3.toInt.toNat).toInt := by rw [ev4]
  refine w_iconst S dX7_on_11 (by decide) (fun k5 hk5 => ?_)
  refine w_icmp_ne (tgt := 19) S dX7_on_12 (by decide) (fun hb6 => ?_) (fun hb6 => ?_)
  · refine w_iconst S dX7_on_19 (by decide) (fun k7 hk7 => ?_)
    exact w_zret S hr0 hlk hP hS dX7_on_20 (z01 (by omega) (by omega)) (⟨rfl, by omega⟩)
  · refine w_iconst S dX7_on_15 (by decide) (fun k8 hk8 => ?_)
    refine lv_goto (tgt := 20) S.1 S.2.1 dX7_on_16 (by decide) ?_
    exact w_zret S hr0 hlk hP hS dX7_on_20 (z01 (by omega) (by omega)) (⟨rfl, by omega⟩)
set_option maxRecDepth 100000 in
set_option maxHeartbeats 4000000 in
theorem c_X7_raise (l : Launch) (D : va_G) (g : GA) (hg : Inj g) (x : St) (hI : Inv x) (hE : Rel x) (a : Int32) (b : Int32) : Met l yX7_raise wsX7_raise ({ frames := 0, cells := 0, slots := 0, locals := 0 } : Room) (va_Pc [.ref (g.1 89), .int a, .int b] (WI D g x)) (va_Qv (fun x2 => Inv x2 ∧ Same (TM) x x2 ∧ Rel x2 ∧ (x2 89 33).toInt = (x 89 33).toInt) (WO D g) (AQ g)) 0 0 (AQ g) := by
  refine w_met (cc := cX7_raise) (maxL := 4) (ret := none) (own := RX7) (by decide) rfl rfl (Nat.le_of_ble_eq_true rfl) (fun p e s m below meth co S hr0 hlk hK hN hP hS ls hl => ?_)
  have hts := S.2.2.2.2
  have hl : lv_has ls 4 [(0, .ref (g.1 89)), (1, .int a), (2, .int b)] := hl
  have hT : Same (TM) x x := Same.rf
  have J7 : ∀ (n0 : Nat) (x_7 : St) (H : Heap) (locs : List Loc) (ls : Array Slot) (y7_3 : Int32), Inv x_7 → Same (TM) x x_7 → Rel x_7 → (0 ≤ y7_3.toInt) → (y7_3.toInt ≤ 8) → ((x_7 89 33).toInt = (x 89 33).toInt) → (8 - y7_3.toInt).toNat < n0 → va_P D vwCl (WL g x_7) H → va_S (AQ g) s.heap H locs → lv_has ls 4 [(0, .ref (g.1 89)), (1, .int a), (2, .int b), (3, .int y7_3)] → W p l e ({ frames := 0, cells := 0, slots := 0, locals := 0 } : Room) s m ([.ref (g.1 89), .int a, .int b] : List Value).toArray below meth co H locs 0 0 (MQ below (va_Qv (fun x2 => Inv x2 ∧ Same (TM) x x2 ∧ Rel x2 ∧ (x2 89 33).toInt = (x 89 33).toInt) (WO D g) (AQ g)) ([.ref (g.1 89), .int a, .int b] : List Value).toArray s 0 0 (AQ g)) (F0 m 7 ls []) := by
    intro n0
    induction n0 with
    | zero => intro x_7 H locs ls y7_3 hI_7 hT_7 hE_7 hf7_0 hf7_1 hf7_2 hm_7 hP hS hl; exact absurd hm_7 (Nat.not_lt_zero _)
    | succ n0 ih7 =>
      intro x_7 H locs ls y7_3 hI_7 hT_7 hE_7 hf7_0 hf7_1 hf7_2 hm_7 hP hS hl
      refine lv_iload_n S.1 S.2.1 dX7_raise_7 rfl (lv_at hl 3 rfl) ?_
      refine w_bipush S dX7_raise_8 (by decide) (fun k1 hk1 => ?_)
      refine w_icmp_ge (tgt := 39) S dX7_raise_10 (by decide) (fun hb2 => ?_) (fun hb2 => ?_)
      · exact w_vret S hr0 hlk hP hS dX7_raise_39 (⟨hI_7, hT_7, hE_7, by omega⟩)
      · refine lv_aload_n S.1 S.2.1 dX7_raise_13 rfl (lv_at hl 0 rfl) ?_
        refine w_get (C := RX7) (T := TX7) (N := 34) S (fun _ h => List.mem_cons_of_mem _ (List.mem_append_right _ h)) hK hP 89 (by decide) (ceK89 _) rfl 29 (by decide) (hts _ (List.mem_of_getElem? (i := 1) rfl)) (v := .ref (g.1 118)) rfl dX7_raise_14 ?_
        refine lv_iload_n S.1 S.2.1 dX7_raise_17 rfl (lv_at hl 3 rfl) ?_
        refine w_iald S hK hP 118 (by decide) ceK118 (by omega) (by omega) dX7_raise_18 (fun v3 ev3 => ?_)
        have wv3 : v3.toInt = (x_7 118 y7_3.toInt.toNat).toInt := by rw [ev3]
        refine lv_iload_n S.1 S.2.1 dX7_raise_19 rfl (lv_at hl 1 rfl) ?_
        refine w_icmp_ne (tgt := 33) S dX7_raise_20 (by decide) (fun hb4 => ?_) (fun hb4 => ?_)
        · refine w_iinc (lv' := [(0, .ref (g.1 89)), (1, .int a), (2, .int b)]) S dX7_raise_33 hl (k := 3) rfl (by decide) (by decide) (by omega) (by omega) (fun _ => rfl) (fun v5 ls hv5 hl => ?_)
          refine lv_goto (tgt := 7) S.1 S.2.1 dX7_raise_36 (by decide) ?_
          exact ih7 _ _ _ _ v5 hI_7 hT_7 hE_7 (by omega) (by omega) (by omega) (by omega) hP hS (lv_sub hl [1, 2, 3, 0] rfl)
        · refine lv_aload_n S.1 S.2.1 dX7_raise_23 rfl (lv_at hl 0 rfl) ?_
          refine w_get (C := RX7) (T := TX7) (N := 34) S (fun _ h => List.mem_cons_of_mem _ (List.mem_append_right _ h)) hK hP 89 (by decide) (ceK89 _) rfl 30 (by decide) (hts _ (List.mem_of_getElem? (i := 2) rfl)) (v := .ref (g.1 119)) rfl dX7_raise_24 ?_
          refine lv_iload_n S.1 S.2.1 dX7_raise_27 rfl (lv_at hl 3 rfl) ?_
          refine lv_dup2_11 S.1 S.2.1 dX7_raise_28 rfl rfl ?_
          refine w_iald S hK hP 119 (by decide) ceK119 (by omega) (by omega) dX7_raise_29 (fun v6 ev6 => ?_)
          have wv6 : v6.toInt = (x_7 119 y7_3.toInt.toNat).toInt := by rw [ev6]
          refine lv_iload_n S.1 S.2.1 dX7_raise_30 rfl (lv_at hl 2 rfl) ?_
          refine lv_ior S.1 S.2.1 dX7_raise_31 ?_
          refine w_any1 (fun v7 => ?_)
          refine w_iast S hK hg hP hS 119 (by decide) ceK119 (by omega) (by omega) dX7_raise_32 (fun x8 H locs ex8 hP hS => ?_)
          have hI9 : Inv x8 := by rw [ex8]; exact hI_7.up (i_ge _) (i_le _)
          have hT10 : Same (TM) x x8 := by rw [ex8]; exact hT_7.up (by unfold TM TrM; omega)
          have hE11 : Rel x8 := by rw [ex8]; exact Rel.oth hE_7 (by decide) (by decide)
          have u12 : (x8 89 (33)).toInt = (x_7 89 (33)).toInt := by rw [ex8, up2_ne _ _ (by omega)]
          refine w_iinc (lv' := [(0, .ref (g.1 89)), (1, .int a), (2, .int b)]) S dX7_raise_33 hl (k := 3) rfl (by decide) (by decide) (by omega) (by omega) (fun _ => rfl) (fun v13 ls hv13 hl => ?_)
          refine lv_goto (tgt := 7) S.1 S.2.1 dX7_raise_36 (by decide) ?_
          exact ih7 _ _ _ _ v13 hI9 hT10 hE11 (by omega) (by omega) (by omega) (by omega) hP hS (lv_sub hl [1, 2, 3, 0] rfl)
  refine lv_iload_n S.1 S.2.1 dX7_raise_0 rfl (lv_at hl 1 rfl) ?_
  refine w_if_ge (tgt := 5) S dX7_raise_1 (by decide) (fun hb14 => ?_) (fun hb14 => ?_)
  · refine w_iconst S dX7_raise_5 (by decide) (fun k15 hk15 => ?_)
    refine lv_istore_n (lv' := [(3, .int k15), (0, .ref (g.1 89)), (1, .int a), (2, .int b)]) S.1 S.2.1 dX7_raise_6 rfl hl (by decide) rfl (fun ls hl => ?_)
    exact J7 _ _ _ _ _ k15 hI hT hE (by omega) (by omega) (by omega) (Nat.lt_succ_self _) hP hS (lv_sub hl [1, 2, 3, 0] rfl)
  · exact w_vret S hr0 hlk hP hS dX7_raise_4 (⟨hI, hT, hE, by omega⟩)
set_option maxRecDepth 100000 in
set_option maxHeartbeats 4000000 in
theorem c_X7_column1 (l : Launch) (D : va_G) (g : GA) (hg : Inj g) (x : St) (hI : Inv x) (a : Int32) (b : Int32) : Met l yX7_column1 wsX7_column1 ({ frames := 0, cells := 0, slots := 0, locals := 0 } : Room) (va_Pc [.ref (g.1 89), .int a, .int b] (WI D g x)) (va_Qi (fun r x2 => x2 = x ∧ True) (WO D g) (AQ g)) 0 0 (AQ g) := by
  refine w_met (cc := cX7_column1) (maxL := 3) (ret := (some .int)) (own := RX7) (by decide) rfl rfl (Nat.le_of_ble_eq_true rfl) (fun p e s m below meth co S hr0 hlk hK hN hP hS ls hl => ?_)
  have hts := S.2.2.2.2
  have hl : lv_has ls 3 [(0, .ref (g.1 89)), (1, .int a), (2, .int b)] := hl
  refine lv_iload_n S.1 S.2.1 dX7_column1_0 rfl (lv_at hl 2 rfl) ?_
  refine w_bipush S dX7_column1_1 (by decide) (fun k1 hk1 => ?_)
  refine w_icmp_ne (tgt := 8) S dX7_column1_3 (by decide) (fun hb2 => ?_) (fun hb2 => ?_)
  · refine lv_iload_n S.1 S.2.1 dX7_column1_8 rfl (lv_at hl 2 rfl) ?_
    refine w_bipush S dX7_column1_9 (by decide) (fun k3 hk3 => ?_)
    refine w_icmp_ne (tgt := 22) S dX7_column1_11 (by decide) (fun hb4 => ?_) (fun hb4 => ?_)
    · refine lv_iload_n S.1 S.2.1 dX7_column1_22 rfl (lv_at hl 2 rfl) ?_
      refine w_bipush S dX7_column1_23 (by decide) (fun k5 hk5 => ?_)
      refine w_icmp_ne (tgt := 39) S dX7_column1_25 (by decide) (fun hb6 => ?_) (fun hb6 => ?_)
      · refine lv_iload_n S.1 S.2.1 dX7_column1_39 rfl (lv_at hl 2 rfl) ?_
        refine w_bipush S dX7_column1_40 (by decide) (fun k7 hk7 => ?_)
        refine w_icmp_lt (tgt := 55) S dX7_column1_42 (by decide) (fun hb8 => ?_) (fun hb8 => ?_)
        · refine lv_iload_n S.1 S.2.1 dX7_column1_55 rfl (lv_at hl 1 rfl) ?_
          exact w_iret S hr0 hlk hP hS dX7_column1_56 (⟨rfl, trivial⟩)
        · refine lv_iload_n S.1 S.2.1 dX7_column1_45 rfl (lv_at hl 2 rfl) ?_
          refine w_bipush S dX7_column1_46 (by decide) (fun k9 hk9 => ?_)
          refine w_icmp_eq (tgt := 55) S dX7_column1_48 (by decide) (fun hb10 => ?_) (fun hb10 => ?_)
          · refine lv_iload_n S.1 S.2.1 dX7_column1_55 rfl (lv_at hl 1 rfl) ?_
            exact w_iret S hr0 hlk hP hS dX7_column1_56 (⟨rfl, trivial⟩)
          · refine lv_iload_n S.1 S.2.1 dX7_column1_51 rfl (lv_at hl 1 rfl) ?_
            refine w_iconst S dX7_column1_52 (by decide) (fun k11 hk11 => ?_)
            refine lv_iadd S.1 S.2.1 dX7_column1_53 ?_
            refine w_any1 (fun v12 => ?_)
            exact w_iret S hr0 hlk hP hS dX7_column1_54 (⟨rfl, trivial⟩)
      · refine lv_iload_n S.1 S.2.1 dX7_column1_28 rfl (lv_at hl 1 rfl) ?_
        refine w_bipush S dX7_column1_29 (by decide) (fun k13 hk13 => ?_)
        refine lv_idiv S.1 S.2.1 dX7_column1_31 (by intro e0; rw [e0] at hk13; exact absurd hk13 (by decide)) ?_
        refine w_any1 (fun v14 => ?_)
        refine w_bipush S dX7_column1_32 (by decide) (fun k15 hk15 => ?_)
        refine lv_imul S.1 S.2.1 dX7_column1_34 ?_
        refine w_any1 (fun v16 => ?_)
        refine w_bipush S dX7_column1_35 (by decide) (fun k17 hk17 => ?_)
        refine lv_iadd S.1 S.2.1 dX7_column1_37 ?_
        refine w_any1 (fun v18 => ?_)
        exact w_iret S hr0 hlk hP hS dX7_column1_38 (⟨rfl, trivial⟩)
    · refine lv_iload_n S.1 S.2.1 dX7_column1_14 rfl (lv_at hl 1 rfl) ?_
      refine w_if_le (tgt := 22) S dX7_column1_15 (by decide) (fun hb19 => ?_) (fun hb19 => ?_)
      · refine lv_iload_n S.1 S.2.1 dX7_column1_22 rfl (lv_at hl 2 rfl) ?_
        refine w_bipush S dX7_column1_23 (by decide) (fun k20 hk20 => ?_)
        refine w_icmp_ne (tgt := 39) S dX7_column1_25 (by decide) (fun hb21 => ?_) (fun hb21 => ?_)
        · refine lv_iload_n S.1 S.2.1 dX7_column1_39 rfl (lv_at hl 2 rfl) ?_
          refine w_bipush S dX7_column1_40 (by decide) (fun k22 hk22 => ?_)
          refine w_icmp_lt (tgt := 55) S dX7_column1_42 (by decide) (fun hb23 => ?_) (fun hb23 => ?_)
          · refine lv_iload_n S.1 S.2.1 dX7_column1_55 rfl (lv_at hl 1 rfl) ?_
            exact w_iret S hr0 hlk hP hS dX7_column1_56 (⟨rfl, trivial⟩)
          · refine lv_iload_n S.1 S.2.1 dX7_column1_45 rfl (lv_at hl 2 rfl) ?_
            refine w_bipush S dX7_column1_46 (by decide) (fun k24 hk24 => ?_)
            refine w_icmp_eq (tgt := 55) S dX7_column1_48 (by decide) (fun hb25 => ?_) (fun hb25 => ?_)
            · refine lv_iload_n S.1 S.2.1 dX7_column1_55 rfl (lv_at hl 1 rfl) ?_
              exact w_iret S hr0 hlk hP hS dX7_column1_56 (⟨rfl, trivial⟩)
            · refine lv_iload_n S.1 S.2.1 dX7_column1_51 rfl (lv_at hl 1 rfl) ?_
              refine w_iconst S dX7_column1_52 (by decide) (fun k26 hk26 => ?_)
              refine lv_iadd S.1 S.2.1 dX7_column1_53 ?_
              refine w_any1 (fun v27 => ?_)
              exact w_iret S hr0 hlk hP hS dX7_column1_54 (⟨rfl, trivial⟩)
        · refine lv_iload_n S.1 S.2.1 dX7_column1_28 rfl (lv_at hl 1 rfl) ?_
          refine w_bipush S dX7_column1_29 (by decide) (fun k28 hk28 => ?_)
          refine lv_idiv S.1 S.2.1 dX7_column1_31 (by intro e0; rw [e0] at hk28; exact absurd hk28 (by decide)) ?_
          refine w_any1 (fun v29 => ?_)
          refine w_bipush S dX7_column1_32 (by decide) (fun k30 hk30 => ?_)
          refine lv_imul S.1 S.2.1 dX7_column1_34 ?_
          refine w_any1 (fun v31 => ?_)
          refine w_bipush S dX7_column1_35 (by decide) (fun k32 hk32 => ?_)
          refine lv_iadd S.1 S.2.1 dX7_column1_37 ?_
          refine w_any1 (fun v33 => ?_)
          exact w_iret S hr0 hlk hP hS dX7_column1_38 (⟨rfl, trivial⟩)
      · refine lv_iload_n S.1 S.2.1 dX7_column1_18 rfl (lv_at hl 1 rfl) ?_
        refine w_iconst S dX7_column1_19 (by decide) (fun k34 hk34 => ?_)
        refine lv_isub S.1 S.2.1 dX7_column1_20 ?_
        refine w_any1 (fun v35 => ?_)
        exact w_iret S hr0 hlk hP hS dX7_column1_21 (⟨rfl, trivial⟩)
  · refine w_iconst S dX7_column1_6 (by decide) (fun k36 hk36 => ?_)
    exact w_iret S hr0 hlk hP hS dX7_column1_7 (⟨rfl, trivial⟩)
set_option maxRecDepth 100000 in
set_option maxHeartbeats 4000000 in
theorem c_X7_give (l : Launch) (D : va_G) (g : GA) (hg : Inj g) (x : St) (hI : Inv x) (hE : Rel x) (po : Int32) (b : Int32) (hy0 : 0 ≤ po.toInt ∧ po.toInt < 4) (hy1 : (x 100 (po.toInt.toNat)).toInt < 64) : Met l yX7_give wsX7_give ({ frames := 1, cells := 0, slots := 0, locals := 22 } : Room) (va_Pc [.ref (g.1 89), .int po, .int b] (WI D g x)) (va_Qv (fun x2 => Inv x2 ∧ Same (TG) x x2 ∧ Rel x2 ∧ (x2 100 (po.toInt.toNat)).toInt = (x 100 (po.toInt.toNat)).toInt + 1) (WO D g) (AQ g)) 0 0 (AQ g) := by
  refine w_met (cc := cX7_give) (maxL := 3) (ret := none) (own := RX7) (by decide) rfl rfl (Nat.le_of_ble_eq_true rfl) (fun p e s m below meth co S hr0 hlk hK hN hP hS ls hl => ?_)
  have hts := S.2.2.2.2
  have hl : lv_has ls 3 [(0, .ref (g.1 89)), (1, .int po), (2, .int b)] := hl
  have hT : Same (TG) x x := Same.rf
  refine lv_aload_n S.1 S.2.1 dX7_give_0 rfl (lv_at hl 0 rfl) ?_
  refine w_get (C := RX7) (T := TX7) (N := 34) S (fun _ h => List.mem_cons_of_mem _ (List.mem_append_right _ h)) hK hP 89 (by decide) (ceK89 _) rfl 10 (by decide) (hts _ (List.mem_of_getElem? (i := 1) rfl)) (v := .ref (g.1 99)) rfl dX7_give_1 ?_
  refine w_bipush S dX7_give_4 (by decide) (fun k1 hk1 => ?_)
  refine lv_iload_n S.1 S.2.1 dX7_give_6 rfl (lv_at hl 1 rfl) ?_
  refine w_imulk S dX7_give_7 64 hk1 (by omega) (by omega) (fun v2 hv2 => ?_)
  refine lv_aload_n S.1 S.2.1 dX7_give_8 rfl (lv_at hl 0 rfl) ?_
  refine w_get (C := RX7) (T := TX7) (N := 34) S (fun _ h => List.mem_cons_of_mem _ (List.mem_append_right _ h)) hK hP 89 (by decide) (ceK89 _) rfl 11 (by decide) (hts _ (List.mem_of_getElem? (i := 2) rfl)) (v := .ref (g.1 100)) rfl dX7_give_9 ?_
  refine lv_iload_n S.1 S.2.1 dX7_give_12 rfl (lv_at hl 1 rfl) ?_
  refine w_iald S hK hP 100 (by decide) ceK100 (by omega) (by omega) dX7_give_13 (fun v3 ev3 => ?_)
  have wv3 : v3.toInt = (x 100 po.toInt.toNat).toInt := by rw [ev3]
  have rv3 : (0 : Int) ≤ v3.toInt ∧ v3.toInt ≤ (64 : Int) := by rw [ev3]; exact hI 100 _
  refine w_iadd S dX7_give_14 (by omega) (by omega) (fun v4 hv4 => ?_)
  refine lv_iload_n S.1 S.2.1 dX7_give_15 rfl (lv_at hl 2 rfl) ?_
  refine w_iast S hK hg hP hS 99 (by decide) ceK99 (by omega) (by omega) dX7_give_16 (fun x5 H locs ex5 hP hS => ?_)
  have hI6 : Inv x5 := by rw [ex5]; exact hI.up (i_ge _) (i_le _)
  have hT7 : Same (TG) x x5 := by rw [ex5]; exact hT.up (by unfold TG; omega)
  have hE8 : Rel x5 := by rw [ex5]; exact Rel.oth hE (by decide) (by decide)
  have u9 : (x5 89 (33)).toInt = (x 89 (33)).toInt := by rw [ex5, up2_ne _ _ (by omega)]
  have u10 : (x5 100 (po.toInt.toNat)).toInt = (x 100 (po.toInt.toNat)).toInt := by rw [ex5, up2_ne _ _ (by omega)]
  refine lv_aload_n S.1 S.2.1 dX7_give_17 rfl (lv_at hl 0 rfl) ?_
  refine w_get (C := RX7) (T := TX7) (N := 34) S (fun _ h => List.mem_cons_of_mem _ (List.mem_append_right _ h)) hK hP 89 (by decide) (ceK89 _) rfl 11 (by decide) (hts _ (List.mem_of_getElem? (i := 2) rfl)) (v := .ref (g.1 100)) rfl dX7_give_18 ?_
  refine lv_iload_n S.1 S.2.1 dX7_give_21 rfl (lv_at hl 1 rfl) ?_
  refine lv_dup2_11 S.1 S.2.1 dX7_give_22 rfl rfl ?_
  refine w_iald S hK hP 100 (by decide) ceK100 (by omega) (by omega) dX7_give_23 (fun v11 ev11 => ?_)
  have wv11 : v11.toInt = (x5 100 po.toInt.toNat).toInt := by rw [ev11]
  have rv11 : (0 : Int) ≤ v11.toInt ∧ v11.toInt ≤ (64 : Int) := by rw [ev11]; exact hI6 100 _
  refine w_iconst S dX7_give_24 (by decide) (fun k12 hk12 => ?_)
  refine w_iadd S dX7_give_25 (by omega) (by omega) (fun v13 hv13 => ?_)
  refine w_iast S hK hg hP hS 100 (by decide) ceK100 (by omega) (by omega) dX7_give_26 (fun x14 H locs ex14 hP hS => ?_)
  have hI15 : Inv x14 := by rw [ex14]; exact hI6.up (show (0 : Int) ≤ _ by omega) (show _ ≤ (64 : Int) by omega)
  have hT16 : Same (TG) x x14 := by rw [ex14]; exact hT7.up (by unfold TG; omega)
  have hE17 : Rel x14 := by rw [ex14]; exact Rel.oth hE8 (by decide) (by decide)
  have u18 : (x14 89 (33)).toInt = (x5 89 (33)).toInt := by rw [ex14, up2_ne _ _ (by omega)]
  have u19 : (x14 100 (po.toInt.toNat)).toInt = v13.toInt := by rw [ex14, up2_at]
  refine lv_aload_n S.1 S.2.1 dX7_give_27 rfl (lv_at hl 0 rfl) ?_
  refine w_get (C := RX7) (T := TX7) (N := 34) S (fun _ h => List.mem_cons_of_mem _ (List.mem_append_right _ h)) hK hP 89 (by decide) (ceK89 _) rfl 16 (by decide) (hts _ (List.mem_of_getElem? (i := 3) rfl)) (v := .ref (g.1 105)) rfl dX7_give_28 ?_
  refine lv_iload_n S.1 S.2.1 dX7_give_31 rfl (lv_at hl 1 rfl) ?_
  refine lv_aload_n S.1 S.2.1 dX7_give_32 rfl (lv_at hl 0 rfl) ?_
  refine lv_aload_n S.1 S.2.1 dX7_give_33 rfl (lv_at hl 0 rfl) ?_
  refine w_get (C := RX7) (T := TX7) (N := 34) S (fun _ h => List.mem_cons_of_mem _ (List.mem_append_right _ h)) hK hP 89 (by decide) (ceK89 _) rfl 16 (by decide) (hts _ (List.mem_of_getElem? (i := 3) rfl)) (v := .ref (g.1 105)) rfl dX7_give_34 ?_
  refine lv_iload_n S.1 S.2.1 dX7_give_37 rfl (lv_at hl 1 rfl) ?_
  refine w_iald S hK hP 105 (by decide) ceK105 (by omega) (by omega) dX7_give_38 (fun v20 ev20 => ?_)
  have wv20 : v20.toInt = (x14 105 po.toInt.toNat).toInt := by rw [ev20]
  refine lv_iload_n S.1 S.2.1 dX7_give_39 rfl (lv_at hl 2 rfl) ?_
  refine w_cVi (As := [.int v20, .int b]) (rest := [.int po, .ref (g.1 105)]) S hK hN hP hS hl 89 (by decide) (ceK89 _) rfl (c_X7_column1 l D g hg x14 hI15 v20 b) (cwV 2 hts gX7_give_X7_column1 rfl rfl rfl (by decide +kernel) ⟨Nat.le_of_ble_eq_true rfl, Nat.le_of_ble_eq_true rfl⟩) rfl rfl (Nat.le_of_ble_eq_true rfl) dX7_give_40 ⟨Nat.zero_le _, Nat.zero_le _⟩ (fun r22 x21 H locs hq23 hP hS => ?_)
  obtain ⟨ex24, hf25⟩ := hq23
  rw [ex24] at hP
  refine w_iast S hK hg hP hS 105 (by decide) ceK105 (by omega) (by omega) dX7_give_43 (fun x26 H locs ex26 hP hS => ?_)
  have hI27 : Inv x26 := by rw [ex26]; exact hI15.up (i_ge _) (i_le _)
  have hT28 : Same (TG) x x26 := by rw [ex26]; exact hT16.up (by unfold TG; omega)
  have hE29 : Rel x26 := by rw [ex26]; exact Rel.oth hE17 (by decide) (by decide)
  have u30 : (x26 89 (33)).toInt = (x14 89 (33)).toInt := by rw [ex26, up2_ne _ _ (by omega)]
  have u31 : (x26 100 (po.toInt.toNat)).toInt = (x14 100 (po.toInt.toNat)).toInt := by rw [ex26, up2_ne _ _ (by omega)]
  exact w_vret S hr0 hlk hP hS dX7_give_44 (⟨hI27, hT28, hE29, by omega⟩)
set_option maxRecDepth 100000 in
set_option maxHeartbeats 4000000 in
theorem c_X7_push (l : Launch) (D : va_G) (g : GA) (hg : Inj g) (x : St) (hI : Inv x) (hE : Rel x) (po : Int32) (hy0 : 0 ≤ po.toInt ∧ po.toInt < 4) : Met l yX7_push wsX7_push ({ frames := 0, cells := 0, slots := 0, locals := 0 } : Room) (va_Pc [.ref (g.1 89), .int po] (WI D g x)) (va_Qv (fun x2 => Inv x2 ∧ Same TM x x2 ∧ Rel x2 ∧ (x2 89 33).toInt = (x 89 33).toInt ∧ ((x 100 (po.toInt.toNat)).toInt = 0 → x2 = x)) (WO D g) (AQ g)) 0 0 (AQ g) := by
  refine w_met (cc := cX7_push) (maxL := 3) (ret := none) (own := RX7) (by decide) rfl rfl (Nat.le_of_ble_eq_true rfl) (fun p e s m below meth co S hr0 hlk hK hN hP hS ls hl => ?_)
  have hts := S.2.2.2.2
  have hl : lv_has ls 3 [(0, .ref (g.1 89)), (1, .int po)] := hl
  have hT : Same (TM) x x := Same.rf
  have J0 : ∀ (n0 : Nat) (x_0 : St) (H : Heap) (locs : List Loc) (ls : Array Slot), Inv x_0 → Same (TM) x x_0 → Rel x_0 → ((x_0 89 33).toInt = (x 89 33).toInt) → ((x 100 (po.toInt.toNat)).toInt = 0 → x_0 = x) → (x_0 100 (po.toInt.toNat)).toInt.toNat < n0 → va_P D vwCl (WL g x_0) H → va_S (AQ g) s.heap H locs → lv_has ls 3 [(0, .ref (g.1 89)), (1, .int po)] → W p l e ({ frames := 0, cells := 0, slots := 0, locals := 0 } : Room) s m ([.ref (g.1 89), .int po] : List Value).toArray below meth co H locs 0 0 (MQ below (va_Qv (fun x2 => Inv x2 ∧ Same TM x x2 ∧ Rel x2 ∧ (x2 89 33).toInt = (x 89 33).toInt ∧ ((x 100 (po.toInt.toNat)).toInt = 0 → x2 = x)) (WO D g) (AQ g)) ([.ref (g.1 89), .int po] : List Value).toArray s 0 0 (AQ g)) (F0 m 0 ls []) := by
    intro n0
    induction n0 with
    | zero => intro x_0 H locs ls hI_0 hT_0 hE_0 hf0_0 hf0_1 hm_0 hP hS hl; exact absurd hm_0 (Nat.not_lt_zero _)
    | succ n0 ih0 =>
      intro x_0 H locs ls hI_0 hT_0 hE_0 hf0_0 hf0_1 hm_0 hP hS hl
      have J67 : ∀ (n0 : Nat) (x_67 : St) (H : Heap) (locs : List Loc) (ls : Array Slot) (y67_2 : Int32), Inv x_67 → Same (TM) x x_67 → Rel x_67 → (0 ≤ y67_2.toInt) → ((x_67 89 33).toInt = (x 89 33).toInt) → ((x_67 100 (po.toInt.toNat)).toInt < (x_0 100 (po.toInt.toNat)).toInt) → (0 < (x_0 100 (po.toInt.toNat)).toInt) → ((x_67 100 (po.toInt.toNat)).toInt ≤ 63) → (y67_2.toInt ≤ 64) → (64 - y67_2.toInt).toNat < n0 → va_P D vwCl (WL g x_67) H → va_S (AQ g) s.heap H locs → lv_has ls 3 [(0, .ref (g.1 89)), (1, .int po), (2, .int y67_2)] → W p l e ({ frames := 0, cells := 0, slots := 0, locals := 0 } : Room) s m ([.ref (g.1 89), .int po] : List Value).toArray below meth co H locs 0 0 (MQ below (va_Qv (fun x2 => Inv x2 ∧ Same TM x x2 ∧ Rel x2 ∧ (x2 89 33).toInt = (x 89 33).toInt ∧ ((x 100 (po.toInt.toNat)).toInt = 0 → x2 = x)) (WO D g) (AQ g)) ([.ref (g.1 89), .int po] : List Value).toArray s 0 0 (AQ g)) (F0 m 67 ls []) := by
        intro n0
        induction n0 with
        | zero => intro x_67 H locs ls y67_2 hI_67 hT_67 hE_67 hf67_0 hf67_1 hf67_2 hf67_3 hf67_4 hf67_5 hm_67 hP hS hl; exact absurd hm_67 (Nat.not_lt_zero _)
        | succ n0 ih67 =>
          intro x_67 H locs ls y67_2 hI_67 hT_67 hE_67 hf67_0 hf67_1 hf67_2 hf67_3 hf67_4 hf67_5 hm_67 hP hS hl
          refine lv_iload_n S.1 S.2.1 dX7_push_67 rfl (lv_at hl 2 rfl) ?_
          refine lv_aload_n S.1 S.2.1 dX7_push_68 rfl (lv_at hl 0 rfl) ?_
          refine w_get (C := RX7) (T := TX7) (N := 34) S (fun _ h => List.mem_cons_of_mem _ (List.mem_append_right _ h)) hK hP 89 (by decide) (ceK89 _) rfl 11 (by decide) (hts _ (List.mem_of_getElem? (i := 1) rfl)) (v := .ref (g.1 100)) rfl dX7_push_69 ?_
          refine lv_iload_n S.1 S.2.1 dX7_push_72 rfl (lv_at hl 1 rfl) ?_
          refine w_iald S hK hP 100 (by decide) ceK100 (by omega) (by omega) dX7_push_73 (fun v1 ev1 => ?_)
          have wv1 : v1.toInt = (x_67 100 po.toInt.toNat).toInt := by rw [ev1]
          have rv1 : (0 : Int) ≤ v1.toInt ∧ v1.toInt ≤ (64 : Int) := by rw [ev1]; exact hI_67 100 _
          refine w_icmp_ge (tgt := 107) S dX7_push_74 (by decide) (fun hb2 => ?_) (fun hb2 => ?_)
          · refine lv_goto (tgt := 0) S.1 S.2.1 dX7_push_107 (by decide) ?_
            exact ih0 _ _ _ _ hI_67 hT_67 hE_67 (by omega) (by first | exact fun _ => rfl | (intro h0; exfalso; have e9 := hf0_1 h0; subst e9; omega)) (by omega) hP hS (lv_sub hl [0, 1] rfl)
          · refine lv_aload_n S.1 S.2.1 dX7_push_77 rfl (lv_at hl 0 rfl) ?_
            refine w_get (C := RX7) (T := TX7) (N := 34) S (fun _ h => List.mem_cons_of_mem _ (List.mem_append_right _ h)) hK hP 89 (by decide) (ceK89 _) rfl 10 (by decide) (hts _ (List.mem_of_getElem? (i := 4) rfl)) (v := .ref (g.1 99)) rfl dX7_push_78 ?_
            refine w_bipush S dX7_push_81 (by decide) (fun k3 hk3 => ?_)
            refine lv_iload_n S.1 S.2.1 dX7_push_83 rfl (lv_at hl 1 rfl) ?_
            refine w_imulk S dX7_push_84 64 hk3 (by omega) (by omega) (fun v4 hv4 => ?_)
            refine lv_iload_n S.1 S.2.1 dX7_push_85 rfl (lv_at hl 2 rfl) ?_
            refine w_iadd S dX7_push_86 (by omega) (by omega) (fun v5 hv5 => ?_)
            refine lv_aload_n S.1 S.2.1 dX7_push_87 rfl (lv_at hl 0 rfl) ?_
            refine w_get (C := RX7) (T := TX7) (N := 34) S (fun _ h => List.mem_cons_of_mem _ (List.mem_append_right _ h)) hK hP 89 (by decide) (ceK89 _) rfl 10 (by decide) (hts _ (List.mem_of_getElem? (i := 4) rfl)) (v := .ref (g.1 99)) rfl dX7_push_88 ?_
            refine w_bipush S dX7_push_91 (by decide) (fun k6 hk6 => ?_)
            refine lv_iload_n S.1 S.2.1 dX7_push_93 rfl (lv_at hl 1 rfl) ?_
            refine w_imulk S dX7_push_94 64 hk6 (by omega) (by omega) (fun v7 hv7 => ?_)
            refine lv_iload_n S.1 S.2.1 dX7_push_95 rfl (lv_at hl 2 rfl) ?_
            refine w_iadd S dX7_push_96 (by omega) (by omega) (fun v8 hv8 => ?_)
            refine w_iconst S dX7_push_97 (by decide) (fun k9 hk9 => ?_)
            refine w_iadd S dX7_push_98 (by omega) (by omega) (fun v10 hv10 => ?_)
            refine w_iald S hK hP 99 (by decide) ceK99 (by omega) (by omega) dX7_push_99 (fun v11 ev11 => ?_)
            have wv11 : v11.toInt = (x_67 99 v10.toInt.toNat).toInt := by rw [ev11]
            refine w_iast S hK hg hP hS 99 (by decide) ceK99 (by omega) (by omega) dX7_push_100 (fun x12 H locs ex12 hP hS => ?_)
            have hI13 : Inv x12 := by rw [ex12]; exact hI_67.up (i_ge _) (i_le _)
            have hT14 : Same (TM) x x12 := by rw [ex12]; exact hT_67.up (by unfold TM TrM; omega)
            have hE15 : Rel x12 := by rw [ex12]; exact Rel.oth hE_67 (by decide) (by decide)
            have u16 : (x12 89 (33)).toInt = (x_67 89 (33)).toInt := by rw [ex12, up2_ne _ _ (by omega)]
            have u17 : (x12 100 (po.toInt.toNat)).toInt = (x_67 100 (po.toInt.toNat)).toInt := by rw [ex12, up2_ne _ _ (by omega)]
            have u18 : (x12 102 (po.toInt.toNat)).toInt = (x_67 102 (po.toInt.toNat)).toInt := by rw [ex12, up2_ne _ _ (by omega)]
            refine w_iinc (lv' := [(0, .ref (g.1 89)), (1, .int po)]) S dX7_push_101 hl (k := 2) rfl (by decide) (by decide) (by omega) (by omega) (fun _ => rfl) (fun v19 ls hv19 hl => ?_)
            refine lv_goto (tgt := 67) S.1 S.2.1 dX7_push_104 (by decide) ?_
            exact ih67 _ _ _ _ v19 hI13 hT14 hE15 (by omega) (by omega) (by omega) (by omega) (by omega) (by omega) (by omega) hP hS (lv_sub hl [1, 2, 0] rfl)
      refine lv_aload_n S.1 S.2.1 dX7_push_0 rfl (lv_at hl 0 rfl) ?_
      refine w_get (C := RX7) (T := TX7) (N := 34) S (fun _ h => List.mem_cons_of_mem _ (List.mem_append_right _ h)) hK hP 89 (by decide) (ceK89 _) rfl 11 (by decide) (hts _ (List.mem_of_getElem? (i := 1) rfl)) (v := .ref (g.1 100)) rfl dX7_push_1 ?_
      refine lv_iload_n S.1 S.2.1 dX7_push_4 rfl (lv_at hl 1 rfl) ?_
      refine w_iald S hK hP 100 (by decide) ceK100 (by omega) (by omega) dX7_push_5 (fun v20 ev20 => ?_)
      have wv20 : v20.toInt = (x_0 100 po.toInt.toNat).toInt := by rw [ev20]
      have rv20 : (0 : Int) ≤ v20.toInt ∧ v20.toInt ≤ (64 : Int) := by rw [ev20]; exact hI_0 100 _
      refine w_if_le (tgt := 110) S dX7_push_6 (by decide) (fun hb21 => ?_) (fun hb21 => ?_)
      · exact w_vret S hr0 hlk hP hS dX7_push_110 (⟨hI_0, hT_0, hE_0, by omega, by assumption⟩)
      · refine lv_aload_n S.1 S.2.1 dX7_push_9 rfl (lv_at hl 0 rfl) ?_
        refine w_get (C := RX7) (T := TX7) (N := 34) S (fun _ h => List.mem_cons_of_mem _ (List.mem_append_right _ h)) hK hP 89 (by decide) (ceK89 _) rfl 13 (by decide) (hts _ (List.mem_of_getElem? (i := 2) rfl)) (v := .ref (g.1 102)) rfl dX7_push_10 ?_
        refine lv_iload_n S.1 S.2.1 dX7_push_13 rfl (lv_at hl 1 rfl) ?_
        refine w_iald S hK hP 102 (by decide) ceK102 (by omega) (by omega) dX7_push_14 (fun v22 ev22 => ?_)
        have wv22 : v22.toInt = (x_0 102 po.toInt.toNat).toInt := by rw [ev22]
        have rv22 : (0 : Int) ≤ v22.toInt ∧ v22.toInt ≤ (8 : Int) := by rw [ev22]; exact hI_0 102 _
        refine w_bipush S dX7_push_15 (by decide) (fun k23 hk23 => ?_)
        refine w_icmp_ge (tgt := 110) S dX7_push_17 (by decide) (fun hb24 => ?_) (fun hb24 => ?_)
        · exact w_vret S hr0 hlk hP hS dX7_push_110 (⟨hI_0, hT_0, hE_0, by omega, by assumption⟩)
        · refine lv_aload_n S.1 S.2.1 dX7_push_20 rfl (lv_at hl 0 rfl) ?_
          refine w_get (C := RX7) (T := TX7) (N := 34) S (fun _ h => List.mem_cons_of_mem _ (List.mem_append_right _ h)) hK hP 89 (by decide) (ceK89 _) rfl 12 (by decide) (hts _ (List.mem_of_getElem? (i := 3) rfl)) (v := .ref (g.1 101)) rfl dX7_push_21 ?_
          refine w_bipush S dX7_push_24 (by decide) (fun k25 hk25 => ?_)
          refine lv_iload_n S.1 S.2.1 dX7_push_26 rfl (lv_at hl 1 rfl) ?_
          refine w_imulk S dX7_push_27 8 hk25 (by omega) (by omega) (fun v26 hv26 => ?_)
          refine lv_aload_n S.1 S.2.1 dX7_push_28 rfl (lv_at hl 0 rfl) ?_
          refine w_get (C := RX7) (T := TX7) (N := 34) S (fun _ h => List.mem_cons_of_mem _ (List.mem_append_right _ h)) hK hP 89 (by decide) (ceK89 _) rfl 13 (by decide) (hts _ (List.mem_of_getElem? (i := 2) rfl)) (v := .ref (g.1 102)) rfl dX7_push_29 ?_
          refine lv_iload_n S.1 S.2.1 dX7_push_32 rfl (lv_at hl 1 rfl) ?_
          refine w_iald S hK hP 102 (by decide) ceK102 (by omega) (by omega) dX7_push_33 (fun v27 ev27 => ?_)
          have wv27 : v27.toInt = (x_0 102 po.toInt.toNat).toInt := by rw [ev27]
          have rv27 : (0 : Int) ≤ v27.toInt ∧ v27.toInt ≤ (8 : Int) := by rw [ev27]; exact hI_0 102 _
          refine w_iadd S dX7_push_34 (by omega) (by omega) (fun v28 hv28 => ?_)
          refine lv_aload_n S.1 S.2.1 dX7_push_35 rfl (lv_at hl 0 rfl) ?_
          refine w_get (C := RX7) (T := TX7) (N := 34) S (fun _ h => List.mem_cons_of_mem _ (List.mem_append_right _ h)) hK hP 89 (by decide) (ceK89 _) rfl 10 (by decide) (hts _ (List.mem_of_getElem? (i := 4) rfl)) (v := .ref (g.1 99)) rfl dX7_push_36 ?_
          refine w_bipush S dX7_push_39 (by decide) (fun k29 hk29 => ?_)
          refine lv_iload_n S.1 S.2.1 dX7_push_41 rfl (lv_at hl 1 rfl) ?_
          refine w_imulk S dX7_push_42 64 hk29 (by omega) (by omega) (fun v30 hv30 => ?_)
          refine w_iald S hK hP 99 (by decide) ceK99 (by omega) (by omega) dX7_push_43 (fun v31 ev31 => ?_)
          have wv31 : v31.toInt = (x_0 99 v30.toInt.toNat).toInt := by rw [ev31]
          refine w_iast S hK hg hP hS 101 (by decide) ceK101 (by omega) (by omega) dX7_push_44 (fun x32 H locs ex32 hP hS => ?_)
          have hI33 : Inv x32 := by rw [ex32]; exact hI_0.up (i_ge _) (i_le _)
          have hT34 : Same (TM) x x32 := by rw [ex32]; exact hT_0.up (by unfold TM TrM; omega)
          have hE35 : Rel x32 := by rw [ex32]; exact Rel.oth hE_0 (by decide) (by decide)
          have u36 : (x32 89 (33)).toInt = (x_0 89 (33)).toInt := by rw [ex32, up2_ne _ _ (by omega)]
          have u37 : (x32 100 (po.toInt.toNat)).toInt = (x_0 100 (po.toInt.toNat)).toInt := by rw [ex32, up2_ne _ _ (by omega)]
          have u38 : (x32 102 (po.toInt.toNat)).toInt = (x_0 102 (po.toInt.toNat)).toInt := by rw [ex32, up2_ne _ _ (by omega)]
          refine lv_aload_n S.1 S.2.1 dX7_push_45 rfl (lv_at hl 0 rfl) ?_
          refine w_get (C := RX7) (T := TX7) (N := 34) S (fun _ h => List.mem_cons_of_mem _ (List.mem_append_right _ h)) hK hP 89 (by decide) (ceK89 _) rfl 13 (by decide) (hts _ (List.mem_of_getElem? (i := 2) rfl)) (v := .ref (g.1 102)) rfl dX7_push_46 ?_
          refine lv_iload_n S.1 S.2.1 dX7_push_49 rfl (lv_at hl 1 rfl) ?_
          refine lv_dup2_11 S.1 S.2.1 dX7_push_50 rfl rfl ?_
          refine w_iald S hK hP 102 (by decide) ceK102 (by omega) (by omega) dX7_push_51 (fun v39 ev39 => ?_)
          have wv39 : v39.toInt = (x32 102 po.toInt.toNat).toInt := by rw [ev39]
          have rv39 : (0 : Int) ≤ v39.toInt ∧ v39.toInt ≤ (8 : Int) := by rw [ev39]; exact hI33 102 _
          refine w_iconst S dX7_push_52 (by decide) (fun k40 hk40 => ?_)
          refine w_iadd S dX7_push_53 (by omega) (by omega) (fun v41 hv41 => ?_)
          refine w_iast S hK hg hP hS 102 (by decide) ceK102 (by omega) (by omega) dX7_push_54 (fun x42 H locs ex42 hP hS => ?_)
          have hI43 : Inv x42 := by rw [ex42]; exact hI33.up (show (0 : Int) ≤ _ by omega) (show _ ≤ (8 : Int) by omega)
          have hT44 : Same (TM) x x42 := by rw [ex42]; exact hT34.up (by unfold TM TrM; omega)
          have hE45 : Rel x42 := by rw [ex42]; exact Rel.oth hE35 (by decide) (by decide)
          have u46 : (x42 89 (33)).toInt = (x32 89 (33)).toInt := by rw [ex42, up2_ne _ _ (by omega)]
          have u47 : (x42 100 (po.toInt.toNat)).toInt = (x32 100 (po.toInt.toNat)).toInt := by rw [ex42, up2_ne _ _ (by omega)]
          have u48 : (x42 102 (po.toInt.toNat)).toInt = v41.toInt := by rw [ex42, up2_at]
          refine lv_aload_n S.1 S.2.1 dX7_push_55 rfl (lv_at hl 0 rfl) ?_
          refine w_get (C := RX7) (T := TX7) (N := 34) S (fun _ h => List.mem_cons_of_mem _ (List.mem_append_right _ h)) hK hP 89 (by decide) (ceK89 _) rfl 11 (by decide) (hts _ (List.mem_of_getElem? (i := 1) rfl)) (v := .ref (g.1 100)) rfl dX7_push_56 ?_
          refine lv_iload_n S.1 S.2.1 dX7_push_59 rfl (lv_at hl 1 rfl) ?_
          refine lv_dup2_11 S.1 S.2.1 dX7_push_60 rfl rfl ?_
          refine w_iald S hK hP 100 (by decide) ceK100 (by omega) (by omega) dX7_push_61 (fun v49 ev49 => ?_)
          have wv49 : v49.toInt = (x42 100 po.toInt.toNat).toInt := by rw [ev49]
          have rv49 : (0 : Int) ≤ v49.toInt ∧ v49.toInt ≤ (64 : Int) := by rw [ev49]; exact hI43 100 _
          refine w_iconst S dX7_push_62 (by decide) (fun k50 hk50 => ?_)
          refine w_isub S dX7_push_63 (by omega) (by omega) (fun v51 hv51 => ?_)
          refine w_iast S hK hg hP hS 100 (by decide) ceK100 (by omega) (by omega) dX7_push_64 (fun x52 H locs ex52 hP hS => ?_)
          have hI53 : Inv x52 := by rw [ex52]; exact hI43.up (show (0 : Int) ≤ _ by omega) (show _ ≤ (64 : Int) by omega)
          have hT54 : Same (TM) x x52 := by rw [ex52]; exact hT44.up (by unfold TM TrM; omega)
          have hE55 : Rel x52 := by rw [ex52]; exact Rel.oth hE45 (by decide) (by decide)
          have u56 : (x52 89 (33)).toInt = (x42 89 (33)).toInt := by rw [ex52, up2_ne _ _ (by omega)]
          have u57 : (x52 100 (po.toInt.toNat)).toInt = v51.toInt := by rw [ex52, up2_at]
          have u58 : (x52 102 (po.toInt.toNat)).toInt = (x42 102 (po.toInt.toNat)).toInt := by rw [ex52, up2_ne _ _ (by omega)]
          refine w_iconst S dX7_push_65 (by decide) (fun k59 hk59 => ?_)
          refine lv_istore_n (lv' := [(2, .int k59), (0, .ref (g.1 89)), (1, .int po)]) S.1 S.2.1 dX7_push_66 rfl hl (by decide) rfl (fun ls hl => ?_)
          exact J67 _ _ _ _ _ k59 hI53 hT54 hE55 (by omega) (by omega) (by omega) (by omega) (by omega) (by omega) (Nat.lt_succ_self _) hP hS (lv_sub hl [1, 2, 0] rfl)
  exact J0 _ _ _ _ _ hI hT hE (by omega) (by first | exact fun _ => rfl | (intro h0; exfalso; have e9 := hf0_1 h0; subst e9; omega)) (Nat.lt_succ_self _) hP hS (lv_sub hl [0, 1] rfl)
set_option maxRecDepth 100000 in
set_option maxHeartbeats 4000000 in
theorem c_X7_add (l : Launch) (D : va_G) (g : GA) (hg : Inj g) (x : St) (hI : Inv x) (hE : Rel x) (b : Int32) (hy0 : (x 89 33).toInt < 400) : Met l yX7_add wsX7_add ({ frames := 0, cells := 0, slots := 0, locals := 0 } : Room) (va_Pc [.ref (g.1 89), .int b] (WI D g x)) (va_Qv (fun x2 => Inv x2 ∧ Same (TW) x x2 ∧ Rel x2 ∧ (x2 89 33).toInt = (x 89 33).toInt + 1) (WO D g) (AQ g)) 0 0 (AQ g) := by
  refine w_met (cc := cX7_add) (maxL := 2) (ret := none) (own := RX7) (by decide) rfl rfl (Nat.le_of_ble_eq_true rfl) (fun p e s m below meth co S hr0 hlk hK hN hP hS ls hl => ?_)
  have hts := S.2.2.2.2
  have hl : lv_has ls 2 [(0, .ref (g.1 89)), (1, .int b)] := hl
  have hT : Same (TW) x x := Same.rf
  refine lv_aload_n S.1 S.2.1 dX7_add_0 rfl (lv_at hl 0 rfl) ?_
  refine w_get (C := RX7) (T := TX7) (N := 34) S (fun _ h => List.mem_cons_of_mem _ (List.mem_append_right _ h)) hK hP 89 (by decide) (ceK89 _) rfl 32 (by decide) (hts _ (List.mem_of_getElem? (i := 1) rfl)) (v := .ref (g.1 121)) rfl dX7_add_1 ?_
  refine lv_aload_n S.1 S.2.1 dX7_add_4 rfl (lv_at hl 0 rfl) ?_
  refine w_get (C := RX7) (T := TX7) (N := 34) S (fun _ h => List.mem_cons_of_mem _ (List.mem_append_right _ h)) hK hP 89 (by decide) (ceK89 _) rfl 33 (by decide) (hts _ (List.mem_of_getElem? (i := 2) rfl)) (v := .int (x 89 33)) rfl dX7_add_5 ?_
  refine lv_topi (fun v1 ev1 => ?_)
  have wv1 : v1.toInt = (x 89 33).toInt := by rw [ev1]
  have rv1 : (0 : Int) ≤ v1.toInt ∧ v1.toInt ≤ (400 : Int) := by rw [ev1]; exact hI 89 33
  refine lv_iload_n S.1 S.2.1 dX7_add_8 rfl (lv_at hl 1 rfl) ?_
  refine w_iast S hK hg hP hS 121 (by decide) ceK121 (by omega) (by omega) dX7_add_9 (fun x2 H locs ex2 hP hS => ?_)
  have hI3 : Inv x2 := by rw [ex2]; exact hI.up (i_ge _) (i_le _)
  have hT4 : Same (TW) x x2 := by rw [ex2]; exact hT.up (by unfold TW; omega)
  have hE5 : Rel x2 := by rw [ex2]; exact Rel.oth hE (by decide) (by decide)
  have u6 : (x2 89 (33)).toInt = (x 89 (33)).toInt := by rw [ex2, up2_ne _ _ (by omega)]
  refine lv_aload_n S.1 S.2.1 dX7_add_10 rfl (lv_at hl 0 rfl) ?_
  refine lv_dup S.1 S.2.1 dX7_add_11 rfl ?_
  refine w_get (C := RX7) (T := TX7) (N := 34) S (fun _ h => List.mem_cons_of_mem _ (List.mem_append_right _ h)) hK hP 89 (by decide) (ceK89 _) rfl 33 (by decide) (hts _ (List.mem_of_getElem? (i := 2) rfl)) (v := .int (x2 89 33)) rfl dX7_add_12 ?_
  refine lv_topi (fun v7 ev7 => ?_)
  have wv7 : v7.toInt = (x2 89 33).toInt := by rw [ev7]
  have rv7 : (0 : Int) ≤ v7.toInt ∧ v7.toInt ≤ (400 : Int) := by rw [ev7]; exact hI3 89 33
  refine w_iconst S dX7_add_15 (by decide) (fun k8 hk8 => ?_)
  refine w_iadd S dX7_add_16 (by omega) (by omega) (fun v9 hv9 => ?_)
  refine w_put (C := RX7) (T := TX7) (N := 34) (F := FMod g) S (fun _ h => List.mem_cons_of_mem _ (List.mem_append_right _ h)) tyX7_ok nmX7 hK hg hP hS 89 (by decide) ceK89 rfl 33 (by decide) (hts _ (List.mem_of_getElem? (i := 2) rfl)) rfl rfl rfl (fun _ => Nat.le_of_ble_eq_true rfl) (fun _ => rfl) dX7_add_17 (fun x10 H locs ex10 hP hS => ?_)
  have hI11 : Inv x10 := by rw [ex10]; exact hI3.up (show (0 : Int) ≤ _ by omega) (show _ ≤ (400 : Int) by omega)
  have hT12 : Same (TW) x x10 := by rw [ex10]; exact hT4.up (by unfold TW; omega)
  have hE13 : Rel x10 := by rw [ex10]; exact Rel.oth hE5 (by decide) (by decide)
  have u14 : (x10 89 (33)).toInt = v9.toInt := by rw [ex10, up2_at]
  exact w_vret S hr0 hlk hP hS dX7_add_20 (⟨hI11, hT12, hE13, by omega⟩)
set_option maxRecDepth 100000 in
set_option maxHeartbeats 4000000 in
theorem c_X7_addForm (l : Launch) (D : va_G) (g : GA) (hg : Inj g) (x : St) (hI : Inv x) (hE : Rel x) (b : Int32) (hy0 : (x 89 33).toInt ≤ 398) : Met l yX7_addForm wsX7_addForm ({ frames := 1, cells := 0, slots := 0, locals := 21 } : Room) (va_Pc [.ref (g.1 89), .int b] (WI D g x)) (va_Qv (fun x2 => Inv x2 ∧ Same (TW) x x2 ∧ Rel x2 ∧ ((x 89 33).toInt + 1 ≤ (x2 89 33).toInt ∧ (x2 89 33).toInt ≤ (x 89 33).toInt + 2)) (WO D g) (AQ g)) 0 0 (AQ g) := by
  refine w_met (cc := cX7_addForm) (maxL := 2) (ret := none) (own := RX7) (by decide) rfl rfl (Nat.le_of_ble_eq_true rfl) (fun p e s m below meth co S hr0 hlk hK hN hP hS ls hl => ?_)
  have hts := S.2.2.2.2
  have hl : lv_has ls 2 [(0, .ref (g.1 89)), (1, .int b)] := hl
  have hT : Same (TW) x x := Same.rf
  refine lv_iload_n S.1 S.2.1 dX7_addForm_0 rfl (lv_at hl 1 rfl) ?_
  refine w_cSi (As := [.int b]) (rest := []) S hK hN hP hS hl (c_X7_isPlain l D g hg x hI b) (va_cwS 1 hts gX7_addForm_X7_isPlain rfl rfl rfl (by decide +kernel) ⟨Nat.le_of_ble_eq_true rfl, Nat.le_of_ble_eq_true rfl⟩) rfl rfl (Nat.le_of_ble_eq_true rfl) dX7_addForm_1 ⟨Nat.zero_le _, Nat.zero_le _⟩ (fun r2 x1 H locs hq3 hP hS => ?_)
  obtain ⟨ex4, hf5⟩ := hq3
  rw [ex4] at hP
  refine w_if_eq (tgt := 13) S dX7_addForm_4 (by decide) (fun hb6 => ?_) (fun hb6 => ?_)
  · refine lv_aload_n S.1 S.2.1 dX7_addForm_13 rfl (lv_at hl 0 rfl) ?_
    refine w_bipush S dX7_addForm_14 (by decide) (fun k7 hk7 => ?_)
    refine w_cVv (As := [.int k7]) (rest := []) S hK hN hP hS hl 89 (by decide) (ceK89 _) rfl (c_X7_add l D g hg x hI hE k7 (by omega)) (cwV 1 hts gX7_addForm_X7_add rfl rfl rfl (by decide +kernel) ⟨Nat.le_of_ble_eq_true rfl, Nat.le_of_ble_eq_true rfl⟩) rfl rfl (Nat.le_of_ble_eq_true rfl) dX7_addForm_16 ⟨Nat.zero_le _, Nat.zero_le _⟩ (fun x8 H locs hq10 hP hS => ?_)
    obtain ⟨hI11, hT12, hE14, hf13⟩ := hq10
    have hT15 : Same (TW) x x8 := hT.tr hT12 (fun c0 k0 h => by unfold TW at h; unfold TW; omega)
    refine lv_iload_n S.1 S.2.1 dX7_addForm_19 rfl (lv_at hl 1 rfl) ?_
    refine w_bipush S dX7_addForm_20 (by decide) (fun k16 hk16 => ?_)
    refine w_icmp_ne (tgt := 34) S dX7_addForm_22 (by decide) (fun hb17 => ?_) (fun hb17 => ?_)
    · refine lv_aload_n S.1 S.2.1 dX7_addForm_34 rfl (lv_at hl 0 rfl) ?_
      refine lv_iload_n S.1 S.2.1 dX7_addForm_35 rfl (lv_at hl 1 rfl) ?_
      refine w_bipush S dX7_addForm_36 (by decide) (fun k18 hk18 => ?_)
      refine lv_iadd S.1 S.2.1 dX7_addForm_38 ?_
      refine w_any1 (fun v19 => ?_)
      refine w_cVv (As := [.int v19]) (rest := []) S hK hN hP hS hl 89 (by decide) (ceK89 _) rfl (c_X7_add l D g hg x8 hI11 hE14 v19 (by omega)) (cwV 1 hts gX7_addForm_X7_add rfl rfl rfl (by decide +kernel) ⟨Nat.le_of_ble_eq_true rfl, Nat.le_of_ble_eq_true rfl⟩) rfl rfl (Nat.le_of_ble_eq_true rfl) dX7_addForm_39 ⟨Nat.zero_le _, Nat.zero_le _⟩ (fun x20 H locs hq22 hP hS => ?_)
      obtain ⟨hI23, hT24, hE26, hf25⟩ := hq22
      have hT27 : Same (TW) x x20 := hT15.tr hT24 (fun c0 k0 h => by unfold TW at h; unfold TW; omega)
      exact w_vret S hr0 hlk hP hS dX7_addForm_42 (⟨hI23, hT27, hE26, by omega⟩)
    · refine lv_aload_n S.1 S.2.1 dX7_addForm_25 rfl (lv_at hl 0 rfl) ?_
      refine w_bipush S dX7_addForm_26 (by decide) (fun k28 hk28 => ?_)
      refine w_cVv (As := [.int k28]) (rest := []) S hK hN hP hS hl 89 (by decide) (ceK89 _) rfl (c_X7_add l D g hg x8 hI11 hE14 k28 (by omega)) (cwV 1 hts gX7_addForm_X7_add rfl rfl rfl (by decide +kernel) ⟨Nat.le_of_ble_eq_true rfl, Nat.le_of_ble_eq_true rfl⟩) rfl rfl (Nat.le_of_ble_eq_true rfl) dX7_addForm_28 ⟨Nat.zero_le _, Nat.zero_le _⟩ (fun x29 H locs hq31 hP hS => ?_)
      obtain ⟨hI32, hT33, hE35, hf34⟩ := hq31
      have hT36 : Same (TW) x x29 := hT15.tr hT33 (fun c0 k0 h => by unfold TW at h; unfold TW; omega)
      refine lv_goto (tgt := 42) S.1 S.2.1 dX7_addForm_31 (by decide) ?_
      exact w_vret S hr0 hlk hP hS dX7_addForm_42 (⟨hI32, hT36, hE35, by omega⟩)
  · refine lv_aload_n S.1 S.2.1 dX7_addForm_7 rfl (lv_at hl 0 rfl) ?_
    refine lv_iload_n S.1 S.2.1 dX7_addForm_8 rfl (lv_at hl 1 rfl) ?_
    refine w_cVv (As := [.int b]) (rest := []) S hK hN hP hS hl 89 (by decide) (ceK89 _) rfl (c_X7_add l D g hg x hI hE b (by omega)) (cwV 1 hts gX7_addForm_X7_add rfl rfl rfl (by decide +kernel) ⟨Nat.le_of_ble_eq_true rfl, Nat.le_of_ble_eq_true rfl⟩) rfl rfl (Nat.le_of_ble_eq_true rfl) dX7_addForm_9 ⟨Nat.zero_le _, Nat.zero_le _⟩ (fun x37 H locs hq39 hP hS => ?_)
    obtain ⟨hI40, hT41, hE43, hf42⟩ := hq39
    have hT44 : Same (TW) x x37 := hT.tr hT41 (fun c0 k0 h => by unfold TW at h; unfold TW; omega)
    exact w_vret S hr0 hlk hP hS dX7_addForm_12 (⟨hI40, hT44, hE43, by omega⟩)
set_option maxRecDepth 100000 in
set_option maxHeartbeats 4000000 in
theorem c_X7_echo (l : Launch) (D : va_G) (g : GA) (hg : Inj g) (x : St) (hI : Inv x) (hE : Rel x) (po : Int32) (hy0 : 0 ≤ po.toInt ∧ po.toInt < 4) : Met l yX7_echo wsX7_echo ({ frames := 2, cells := 0, slots := 0, locals := 44 } : Room) (va_Pc [.ref (g.1 89), .int po] (WI D g x)) (va_Qv (fun x2 => Inv x2 ∧ Same (TE) x x2 ∧ Rel x2 ∧ (x2 89 33).toInt = 0) (WO D g) (AQ g)) 0 0 (AQ g) := by
  refine w_met (cc := cX7_echo) (maxL := 3) (ret := none) (own := RX7) (by decide) rfl rfl (Nat.le_of_ble_eq_true rfl) (fun p e s m below meth co S hr0 hlk hK hN hP hS ls hl => ?_)
  have hts := S.2.2.2.2
  have hl : lv_has ls 3 [(0, .ref (g.1 89)), (1, .int po)] := hl
  have hT : Same (TE) x x := Same.rf
  have J69 : ∀ (x_69 : St) (H : Heap) (locs : List Loc) (ls : Array Slot), Inv x_69 → Same (TE) x x_69 → Rel x_69 → va_P D vwCl (WL g x_69) H → va_S (AQ g) s.heap H locs → lv_has ls 3 [(0, .ref (g.1 89)), (1, .int po)] → W p l e ({ frames := 2, cells := 0, slots := 0, locals := 44 } : Room) s m ([.ref (g.1 89), .int po] : List Value).toArray below meth co H locs 0 0 (MQ below (va_Qv (fun x2 => Inv x2 ∧ Same (TE) x x2 ∧ Rel x2 ∧ (x2 89 33).toInt = 0) (WO D g) (AQ g)) ([.ref (g.1 89), .int po] : List Value).toArray s 0 0 (AQ g)) (F0 m 69 ls []) := by
    intro x_69 H locs ls hI_69 hT_69 hE_69 hP hS hl
    refine lv_aload_n S.1 S.2.1 dX7_echo_69 rfl (lv_at hl 0 rfl) ?_
    refine w_iconst S dX7_echo_70 (by decide) (fun k1 hk1 => ?_)
    refine w_put (C := RX7) (T := TX7) (N := 34) (F := FMod g) S (fun _ h => List.mem_cons_of_mem _ (List.mem_append_right _ h)) tyX7_ok nmX7 hK hg hP hS 89 (by decide) ceK89 rfl 33 (by decide) (hts _ (List.mem_of_getElem? (i := 2) rfl)) rfl rfl rfl (fun _ => Nat.le_of_ble_eq_true rfl) (fun _ => rfl) dX7_echo_71 (fun x2 H locs ex2 hP hS => ?_)
    have hI3 : Inv x2 := by rw [ex2]; exact hI_69.up (show (0 : Int) ≤ _ by omega) (show _ ≤ (400 : Int) by omega)
    have hT4 : Same (TE) x x2 := by rw [ex2]; exact hT_69.up (by unfold TE; omega)
    have hE5 : Rel x2 := by rw [ex2]; exact Rel.oth hE_69 (by decide) (by decide)
    have u6 : (x2 89 (33)).toInt = k1.toInt := by rw [ex2, up2_at]
    have u7 : (x2 100 (po.toInt.toNat)).toInt = (x_69 100 (po.toInt.toNat)).toInt := by rw [ex2, up2_ne _ _ (by omega)]
    exact w_vret S hr0 hlk hP hS dX7_echo_74 (⟨hI3, hT4, hE5, by omega⟩)
  have J27 : ∀ (n0 : Nat) (x_27 : St) (H : Heap) (locs : List Loc) (ls : Array Slot) (y27_2 : Int32), Inv x_27 → Same (TE) x x_27 → Rel x_27 → (0 ≤ y27_2.toInt) → ((x_27 89 33).toInt = (x 89 33).toInt) → ((x_27 100 (po.toInt.toNat)).toInt + (x 89 33).toInt - y27_2.toInt ≤ 64) → (y27_2.toInt ≤ (x 89 33).toInt) → ((x 89 33).toInt ≤ 400) → ((x 89 33).toInt - y27_2.toInt).toNat < n0 → va_P D vwCl (WL g x_27) H → va_S (AQ g) s.heap H locs → lv_has ls 3 [(0, .ref (g.1 89)), (1, .int po), (2, .int y27_2)] → W p l e ({ frames := 2, cells := 0, slots := 0, locals := 44 } : Room) s m ([.ref (g.1 89), .int po] : List Value).toArray below meth co H locs 0 0 (MQ below (va_Qv (fun x2 => Inv x2 ∧ Same (TE) x x2 ∧ Rel x2 ∧ (x2 89 33).toInt = 0) (WO D g) (AQ g)) ([.ref (g.1 89), .int po] : List Value).toArray s 0 0 (AQ g)) (F0 m 27 ls []) := by
    intro n0
    induction n0 with
    | zero => intro x_27 H locs ls y27_2 hI_27 hT_27 hE_27 hf27_0 hf27_1 hf27_2 hf27_3 hf27_4 hm_27 hP hS hl; exact absurd hm_27 (Nat.not_lt_zero _)
    | succ n0 ih27 =>
      intro x_27 H locs ls y27_2 hI_27 hT_27 hE_27 hf27_0 hf27_1 hf27_2 hf27_3 hf27_4 hm_27 hP hS hl
      refine lv_iload_n S.1 S.2.1 dX7_echo_27 rfl (lv_at hl 2 rfl) ?_
      refine lv_aload_n S.1 S.2.1 dX7_echo_28 rfl (lv_at hl 0 rfl) ?_
      refine w_get (C := RX7) (T := TX7) (N := 34) S (fun _ h => List.mem_cons_of_mem _ (List.mem_append_right _ h)) hK hP 89 (by decide) (ceK89 _) rfl 33 (by decide) (hts _ (List.mem_of_getElem? (i := 2) rfl)) (v := .int (x_27 89 33)) rfl dX7_echo_29 ?_
      refine lv_topi (fun v8 ev8 => ?_)
      have wv8 : v8.toInt = (x_27 89 33).toInt := by rw [ev8]
      have rv8 : (0 : Int) ≤ v8.toInt ∧ v8.toInt ≤ (400 : Int) := by rw [ev8]; exact hI_27 89 33
      refine w_icmp_ge (tgt := 52) S dX7_echo_32 (by decide) (fun hb9 => ?_) (fun hb9 => ?_)
      · refine lv_aload_n S.1 S.2.1 dX7_echo_52 rfl (lv_at hl 0 rfl) ?_
        refine w_get (C := RX7) (T := TX7) (N := 34) S (fun _ h => List.mem_cons_of_mem _ (List.mem_append_right _ h)) hK hP 89 (by decide) (ceK89 _) rfl 31 (by decide) (hts _ (List.mem_of_getElem? (i := 4) rfl)) (v := .ref (g.1 120)) rfl dX7_echo_53 ?_
        refine w_iconst S dX7_echo_56 (by decide) (fun k10 hk10 => ?_)
        refine lv_iload_n S.1 S.2.1 dX7_echo_57 rfl (lv_at hl 1 rfl) ?_
        refine w_imulk S dX7_echo_58 5 hk10 (by omega) (by omega) (fun v11 hv11 => ?_)
        refine w_iconst S dX7_echo_59 (by decide) (fun k12 hk12 => ?_)
        refine w_iadd S dX7_echo_60 (by omega) (by omega) (fun v13 hv13 => ?_)
        refine lv_dup2_11 S.1 S.2.1 dX7_echo_61 rfl rfl ?_
        refine w_iald S hK hP 120 (by decide) ceK120 (by omega) (by omega) dX7_echo_62 (fun v14 ev14 => ?_)
        have wv14 : v14.toInt = (x_27 120 v13.toInt.toNat).toInt := by rw [ev14]
        refine lv_aload_n S.1 S.2.1 dX7_echo_63 rfl (lv_at hl 0 rfl) ?_
        refine w_get (C := RX7) (T := TX7) (N := 34) S (fun _ h => List.mem_cons_of_mem _ (List.mem_append_right _ h)) hK hP 89 (by decide) (ceK89 _) rfl 33 (by decide) (hts _ (List.mem_of_getElem? (i := 2) rfl)) (v := .int (x_27 89 33)) rfl dX7_echo_64 ?_
        refine lv_topi (fun v15 ev15 => ?_)
        have wv15 : v15.toInt = (x_27 89 33).toInt := by rw [ev15]
        have rv15 : (0 : Int) ≤ v15.toInt ∧ v15.toInt ≤ (400 : Int) := by rw [ev15]; exact hI_27 89 33
        refine lv_iadd S.1 S.2.1 dX7_echo_67 ?_
        refine w_any1 (fun v16 => ?_)
        refine w_iast S hK hg hP hS 120 (by decide) ceK120 (by omega) (by omega) dX7_echo_68 (fun x17 H locs ex17 hP hS => ?_)
        have hI18 : Inv x17 := by rw [ex17]; exact hI_27.up (i_ge _) (i_le _)
        have hT19 : Same (TE) x x17 := by rw [ex17]; exact hT_27.up (by unfold TE; omega)
        have hE20 : Rel x17 := by rw [ex17]; exact Rel.oth hE_27 (by decide) (by decide)
        have u21 : (x17 89 (33)).toInt = (x_27 89 (33)).toInt := by rw [ex17, up2_ne _ _ (by omega)]
        have u22 : (x17 100 (po.toInt.toNat)).toInt = (x_27 100 (po.toInt.toNat)).toInt := by rw [ex17, up2_ne _ _ (by omega)]
        exact J69 _ _ _ _ hI18 hT19 hE20 hP hS (lv_sub hl [0, 1] rfl)
      · refine lv_aload_n S.1 S.2.1 dX7_echo_35 rfl (lv_at hl 0 rfl) ?_
        refine lv_iload_n S.1 S.2.1 dX7_echo_36 rfl (lv_at hl 1 rfl) ?_
        refine lv_aload_n S.1 S.2.1 dX7_echo_37 rfl (lv_at hl 0 rfl) ?_
        refine w_get (C := RX7) (T := TX7) (N := 34) S (fun _ h => List.mem_cons_of_mem _ (List.mem_append_right _ h)) hK hP 89 (by decide) (ceK89 _) rfl 32 (by decide) (hts _ (List.mem_of_getElem? (i := 3) rfl)) (v := .ref (g.1 121)) rfl dX7_echo_38 ?_
        refine lv_iload_n S.1 S.2.1 dX7_echo_41 rfl (lv_at hl 2 rfl) ?_
        refine w_iald S hK hP 121 (by decide) ceK121 (by omega) (by omega) dX7_echo_42 (fun v23 ev23 => ?_)
        have wv23 : v23.toInt = (x_27 121 y27_2.toInt.toNat).toInt := by rw [ev23]
        refine w_cVv (As := [.int po, .int v23]) (rest := []) S hK hN hP hS hl 89 (by decide) (ceK89 _) rfl (c_X7_give l D g hg x_27 hI_27 hE_27 po v23 (by omega) (by omega)) (cwV 2 hts gX7_echo_X7_give rfl rfl rfl (by decide +kernel) ⟨Nat.le_of_ble_eq_true rfl, Nat.le_of_ble_eq_true rfl⟩) rfl rfl (Nat.le_of_ble_eq_true rfl) dX7_echo_43 ⟨Nat.zero_le _, Nat.zero_le _⟩ (fun x24 H locs hq26 hP hS => ?_)
        obtain ⟨hI27, hT28, hE30, hf29⟩ := hq26
        have hT31 : Same (TE) x x24 := hT_27.tr hT28 (fun c0 k0 h => by unfold TE at h; unfold TG; omega)
        have u32 : (x24 89 (33)).toInt = (x_27 89 (33)).toInt := by rw [hT28 89 (33) (by unfold TG; omega)]
        refine w_iinc (lv' := [(0, .ref (g.1 89)), (1, .int po)]) S dX7_echo_46 hl (k := 2) rfl (by decide) (by decide) (by omega) (by omega) (fun _ => rfl) (fun v33 ls hv33 hl => ?_)
        refine lv_goto (tgt := 27) S.1 S.2.1 dX7_echo_49 (by decide) ?_
        exact ih27 _ _ _ _ v33 hI27 hT31 hE30 (by omega) (by omega) (by omega) (by omega) (by omega) (by omega) hP hS (lv_sub hl [1, 2, 0] rfl)
  refine lv_aload_n S.1 S.2.1 dX7_echo_0 rfl (lv_at hl 0 rfl) ?_
  refine lv_iload_n S.1 S.2.1 dX7_echo_1 rfl (lv_at hl 1 rfl) ?_
  refine w_iconst S dX7_echo_2 (by decide) (fun k34 hk34 => ?_)
  refine w_cVi (As := [.int po, .int k34]) (rest := []) S hK hN hP hS hl 89 (by decide) (ceK89 _) rfl (c_X7_on l D g hg x hI po k34 (by omega) (by omega)) (cwV 2 hts gX7_echo_X7_on rfl rfl rfl (by decide +kernel) ⟨Nat.le_of_ble_eq_true rfl, Nat.le_of_ble_eq_true rfl⟩) rfl rfl (Nat.le_of_ble_eq_true rfl) dX7_echo_3 ⟨Nat.zero_le _, Nat.zero_le _⟩ (fun r36 x35 H locs hq37 hP hS => ?_)
  obtain ⟨ex38, hf39⟩ := hq37
  rw [ex38] at hP
  refine w_if_eq (tgt := 69) S dX7_echo_6 (by decide) (fun hb40 => ?_) (fun hb40 => ?_)
  · exact J69 _ _ _ _ hI hT hE hP hS (lv_sub hl [0, 1] rfl)
  · refine lv_aload_n S.1 S.2.1 dX7_echo_9 rfl (lv_at hl 0 rfl) ?_
    refine w_get (C := RX7) (T := TX7) (N := 34) S (fun _ h => List.mem_cons_of_mem _ (List.mem_append_right _ h)) hK hP 89 (by decide) (ceK89 _) rfl 11 (by decide) (hts _ (List.mem_of_getElem? (i := 1) rfl)) (v := .ref (g.1 100)) rfl dX7_echo_10 ?_
    refine lv_iload_n S.1 S.2.1 dX7_echo_13 rfl (lv_at hl 1 rfl) ?_
    refine w_iald S hK hP 100 (by decide) ceK100 (by omega) (by omega) dX7_echo_14 (fun v41 ev41 => ?_)
    have wv41 : v41.toInt = (x 100 po.toInt.toNat).toInt := by rw [ev41]
    have rv41 : (0 : Int) ≤ v41.toInt ∧ v41.toInt ≤ (64 : Int) := by rw [ev41]; exact hI 100 _
    refine lv_aload_n S.1 S.2.1 dX7_echo_15 rfl (lv_at hl 0 rfl) ?_
    refine w_get (C := RX7) (T := TX7) (N := 34) S (fun _ h => List.mem_cons_of_mem _ (List.mem_append_right _ h)) hK hP 89 (by decide) (ceK89 _) rfl 33 (by decide) (hts _ (List.mem_of_getElem? (i := 2) rfl)) (v := .int (x 89 33)) rfl dX7_echo_16 ?_
    refine lv_topi (fun v42 ev42 => ?_)
    have wv42 : v42.toInt = (x 89 33).toInt := by rw [ev42]
    have rv42 : (0 : Int) ≤ v42.toInt ∧ v42.toInt ≤ (400 : Int) := by rw [ev42]; exact hI 89 33
    refine w_iadd S dX7_echo_19 (by omega) (by omega) (fun v43 hv43 => ?_)
    refine w_bipush S dX7_echo_20 (by decide) (fun k44 hk44 => ?_)
    refine w_icmp_gt (tgt := 69) S dX7_echo_22 (by decide) (fun hb45 => ?_) (fun hb45 => ?_)
    · exact J69 _ _ _ _ hI hT hE hP hS (lv_sub hl [0, 1] rfl)
    · refine w_iconst S dX7_echo_25 (by decide) (fun k46 hk46 => ?_)
      refine lv_istore_n (lv' := [(2, .int k46), (0, .ref (g.1 89)), (1, .int po)]) S.1 S.2.1 dX7_echo_26 rfl hl (by decide) rfl (fun ls hl => ?_)
      exact J27 _ _ _ _ _ k46 hI hT hE (by omega) (by omega) (by omega) (by omega) (by omega) (Nat.lt_succ_self _) hP hS (lv_sub hl [1, 2, 0] rfl)
set_option maxRecDepth 100000 in
set_option maxHeartbeats 4000000 in
theorem c_X7_echoForm (l : Launch) (D : va_G) (g : GA) (hg : Inj g) (x : St) (hI : Inv x) (hE : Rel x) (po : Int32) (b : Int32) (hy0 : 0 ≤ po.toInt ∧ po.toInt < 4) (hy1 : (x 89 33).toInt = 0) : Met l yX7_echoForm wsX7_echoForm ({ frames := 3, cells := 0, slots := 0, locals := 66 } : Room) (va_Pc [.ref (g.1 89), .int po, .int b] (WI D g x)) (va_Qv (fun x2 => Inv x2 ∧ Same (TE) x x2 ∧ Rel x2 ∧ (x2 89 33).toInt = 0) (WO D g) (AQ g)) 0 0 (AQ g) := by
  refine w_met (cc := cX7_echoForm) (maxL := 3) (ret := none) (own := RX7) (by decide) rfl rfl (Nat.le_of_ble_eq_true rfl) (fun p e s m below meth co S hr0 hlk hK hN hP hS ls hl => ?_)
  have hts := S.2.2.2.2
  have hl : lv_has ls 3 [(0, .ref (g.1 89)), (1, .int po), (2, .int b)] := hl
  have hT : Same (TE) x x := Same.rf
  refine lv_aload_n S.1 S.2.1 dX7_echoForm_0 rfl (lv_at hl 0 rfl) ?_
  refine lv_iload_n S.1 S.2.1 dX7_echoForm_1 rfl (lv_at hl 2 rfl) ?_
  refine w_cVv (As := [.int b]) (rest := []) S hK hN hP hS hl 89 (by decide) (ceK89 _) rfl (c_X7_addForm l D g hg x hI hE b (by omega)) (cwV 1 hts gX7_echoForm_X7_addForm rfl rfl rfl (by decide +kernel) ⟨Nat.le_of_ble_eq_true rfl, Nat.le_of_ble_eq_true rfl⟩) rfl rfl (Nat.le_of_ble_eq_true rfl) dX7_echoForm_2 ⟨Nat.zero_le _, Nat.zero_le _⟩ (fun x1 H locs hq3 hP hS => ?_)
  obtain ⟨hI4, hT5, hE7, hf6⟩ := hq3
  have hT8 : Same (TE) x x1 := hT.tr hT5 (fun c0 k0 h => by unfold TE at h; unfold TW; omega)
  refine lv_aload_n S.1 S.2.1 dX7_echoForm_5 rfl (lv_at hl 0 rfl) ?_
  refine lv_iload_n S.1 S.2.1 dX7_echoForm_6 rfl (lv_at hl 1 rfl) ?_
  refine w_cVv (As := [.int po]) (rest := []) S hK hN hP hS hl 89 (by decide) (ceK89 _) rfl (c_X7_echo l D g hg x1 hI4 hE7 po (by omega)) (cwV 1 hts gX7_echoForm_X7_echo rfl rfl rfl (by decide +kernel) ⟨Nat.le_of_ble_eq_true rfl, Nat.le_of_ble_eq_true rfl⟩) rfl rfl (Nat.le_of_ble_eq_true rfl) dX7_echoForm_7 ⟨Nat.zero_le _, Nat.zero_le _⟩ (fun x9 H locs hq11 hP hS => ?_)
  obtain ⟨hI12, hT13, hE15, hf14⟩ := hq11
  have hT16 : Same (TE) x x9 := hT8.tr hT13 (fun c0 k0 h => by unfold TE at h; unfold TE; omega)
  exact w_vret S hr0 hlk hP hS dX7_echoForm_10 (⟨hI12, hT16, hE15, by omega⟩)
set_option maxRecDepth 100000 in
set_option maxHeartbeats 4000000 in
theorem c_X7_isCanon (l : Launch) (D : va_G) (g : GA) (hg : Inj g) (x : St) (hI : Inv x) (po : Int32) (hy0 : 0 ≤ po.toInt ∧ po.toInt < 4) : Met l yX7_isCanon wsX7_isCanon ({ frames := 1, cells := 0, slots := 0, locals := 22 } : Room) (va_Pc [.ref (g.1 89), .int po] (WI D g x)) (va_Qi (fun r x2 => x2 = x ∧ (0 ≤ r.toInt ∧ r.toInt ≤ 1)) (WO D g) (AQ g)) 0 0 (AQ g) := by
  refine w_met (cc := cX7_isCanon) (maxL := 2) (ret := (some .boolean)) (own := RX7) (by decide) rfl rfl (Nat.le_of_ble_eq_true rfl) (fun p e s m below meth co S hr0 hlk hK hN hP hS ls hl => ?_)
  have hts := S.2.2.2.2
  have hl : lv_has ls 2 [(0, .ref (g.1 89)), (1, .int po)] := hl
  refine lv_aload_n S.1 S.2.1 dX7_isCanon_0 rfl (lv_at hl 0 rfl) ?_
  refine lv_iload_n S.1 S.2.1 dX7_isCanon_1 rfl (lv_at hl 1 rfl) ?_
  refine w_iconst S dX7_isCanon_2 (by decide) (fun k1 hk1 => ?_)
  refine w_cVi (As := [.int po, .int k1]) (rest := []) S hK hN hP hS hl 89 (by decide) (ceK89 _) rfl (c_X7_on l D g hg x hI po k1 (by omega) (by omega)) (cwV 2 hts gX7_isCanon_X7_on rfl rfl rfl (by decide +kernel) ⟨Nat.le_of_ble_eq_true rfl, Nat.le_of_ble_eq_true rfl⟩) rfl rfl (Nat.le_of_ble_eq_true rfl) dX7_isCanon_3 ⟨Nat.zero_le _, Nat.zero_le _⟩ (fun r3 x2 H locs hq4 hP hS => ?_)
  obtain ⟨ex5, hf6⟩ := hq4
  rw [ex5] at hP
  exact w_zret S hr0 hlk hP hS dX7_isCanon_6 (z01 (by omega) (by omega)) (⟨rfl, by omega⟩)
set_option maxRecDepth 100000 in
set_option maxHeartbeats 4000000 in
theorem c_X7_flowUp (l : Launch) (D : va_G) (g : GA) (hg : Inj g) (x : St) (hI : Inv x) (hE : Rel x) (po : Int32) (hy0 : 0 ≤ po.toInt ∧ po.toInt < 4) : Met l yX7_flowUp wsX7_flowUp ({ frames := 1, cells := 0, slots := 0, locals := 22 } : Room) (va_Pc [.ref (g.1 89), .int po] (WI D g x)) (va_Qv (fun x2 => Inv x2 ∧ Same (TM) x x2 ∧ Rel x2 ∧ (x2 89 33).toInt = (x 89 33).toInt) (WO D g) (AQ g)) 0 0 (AQ g) := by
  refine w_met (cc := cX7_flowUp) (maxL := 2) (ret := none) (own := RX7) (by decide) rfl rfl (Nat.le_of_ble_eq_true rfl) (fun p e s m below meth co S hr0 hlk hK hN hP hS ls hl => ?_)
  have hts := S.2.2.2.2
  have hl : lv_has ls 2 [(0, .ref (g.1 89)), (1, .int po)] := hl
  have hT : Same (TM) x x := Same.rf
  refine lv_aload_n S.1 S.2.1 dX7_flowUp_0 rfl (lv_at hl 0 rfl) ?_
  refine lv_iload_n S.1 S.2.1 dX7_flowUp_1 rfl (lv_at hl 1 rfl) ?_
  refine w_bipush S dX7_flowUp_2 (by decide) (fun k1 hk1 => ?_)
  refine w_cVi (As := [.int po, .int k1]) (rest := []) S hK hN hP hS hl 89 (by decide) (ceK89 _) rfl (c_X7_on l D g hg x hI po k1 (by omega) (by omega)) (cwV 2 hts gX7_flowUp_X7_on rfl rfl rfl (by decide +kernel) ⟨Nat.le_of_ble_eq_true rfl, Nat.le_of_ble_eq_true rfl⟩) rfl rfl (Nat.le_of_ble_eq_true rfl) dX7_flowUp_4 ⟨Nat.zero_le _, Nat.zero_le _⟩ (fun r3 x2 H locs hq4 hP hS => ?_)
  obtain ⟨ex5, hf6⟩ := hq4
  rw [ex5] at hP
  refine w_if_eq (tgt := 30) S dX7_flowUp_7 (by decide) (fun hb7 => ?_) (fun hb7 => ?_)
  · exact w_vret S hr0 hlk hP hS dX7_flowUp_30 (⟨hI, hT, hE, by omega⟩)
  · refine lv_aload_n S.1 S.2.1 dX7_flowUp_10 rfl (lv_at hl 0 rfl) ?_
    refine w_get (C := RX7) (T := TX7) (N := 34) S (fun _ h => List.mem_cons_of_mem _ (List.mem_append_right _ h)) hK hP 89 (by decide) (ceK89 _) rfl 17 (by decide) (hts _ (List.mem_of_getElem? (i := 1) rfl)) (v := .ref (g.1 106)) rfl dX7_flowUp_11 ?_
    refine lv_iload_n S.1 S.2.1 dX7_flowUp_14 rfl (lv_at hl 1 rfl) ?_
    refine w_zald S hK hP 106 (by decide) ceK106 (by omega) (by omega) dX7_flowUp_15 (fun v8 ev8 => ?_)
    have wv8 : v8.toInt = (x 106 po.toInt.toNat).toInt := by rw [ev8]
    have rv8 : (0 : Int) ≤ v8.toInt ∧ v8.toInt ≤ (1 : Int) := by rw [ev8]; exact hI 106 _
    refine w_if_ne (tgt := 30) S dX7_flowUp_16 (by decide) (fun hb9 => ?_) (fun hb9 => ?_)
    · exact w_vret S hr0 hlk hP hS dX7_flowUp_30 (⟨hI, hT, hE, by omega⟩)
    · refine lv_aload_n S.1 S.2.1 dX7_flowUp_19 rfl (lv_at hl 0 rfl) ?_
      refine w_get (C := RX7) (T := TX7) (N := 34) S (fun _ h => List.mem_cons_of_mem _ (List.mem_append_right _ h)) hK hP 89 (by decide) (ceK89 _) rfl 7 (by decide) (hts _ (List.mem_of_getElem? (i := 2) rfl)) (v := .ref (g.1 96)) rfl dX7_flowUp_20 ?_
      refine lv_iload_n S.1 S.2.1 dX7_flowUp_23 rfl (lv_at hl 1 rfl) ?_
      refine w_iald S hK hP 96 (by decide) ceK96 (by omega) (by omega) dX7_flowUp_24 (fun v10 ev10 => ?_)
      have wv10 : v10.toInt = (x 96 po.toInt.toNat).toInt := by rw [ev10]
      have rv10 : (0 : Int) ≤ v10.toInt ∧ v10.toInt ≤ (65 : Int) := by rw [ev10]; exact hI 96 _
      refine w_bipush S dX7_flowUp_25 (by decide) (fun k11 hk11 => ?_)
      refine w_icmp_gt (tgt := 31) S dX7_flowUp_27 (by decide) (fun hb12 => ?_) (fun hb12 => ?_)
      · refine lv_aload_n S.1 S.2.1 dX7_flowUp_31 rfl (lv_at hl 0 rfl) ?_
        refine w_get (C := RX7) (T := TX7) (N := 34) S (fun _ h => List.mem_cons_of_mem _ (List.mem_append_right _ h)) hK hP 89 (by decide) (ceK89 _) rfl 17 (by decide) (hts _ (List.mem_of_getElem? (i := 1) rfl)) (v := .ref (g.1 106)) rfl dX7_flowUp_32 ?_
        refine lv_iload_n S.1 S.2.1 dX7_flowUp_35 rfl (lv_at hl 1 rfl) ?_
        refine w_iconst S dX7_flowUp_36 (by decide) (fun k13 hk13 => ?_)
        refine w_zast S hK hg hP hS 106 (by decide) ceK106 (z01 (by omega) (by omega)) (by omega) (by omega) dX7_flowUp_37 (fun x14 H locs ex14 hP hS => ?_)
        have hI15 : Inv x14 := by rw [ex14]; exact hI.up (show (0 : Int) ≤ _ by omega) (show _ ≤ (1 : Int) by omega)
        have hT16 : Same (TM) x x14 := by rw [ex14]; exact hT.up (by unfold TM TrM; omega)
        have hE17 : Rel x14 := by rw [ex14]; exact Rel.oth hE (by decide) (by decide)
        have u18 : (x14 89 (33)).toInt = (x 89 (33)).toInt := by rw [ex14, up2_ne _ _ (by omega)]
        refine lv_aload_n S.1 S.2.1 dX7_flowUp_38 rfl (lv_at hl 0 rfl) ?_
        refine w_get (C := RX7) (T := TX7) (N := 34) S (fun _ h => List.mem_cons_of_mem _ (List.mem_append_right _ h)) hK hP 89 (by decide) (ceK89 _) rfl 18 (by decide) (hts _ (List.mem_of_getElem? (i := 3) rfl)) (v := .ref (g.1 107)) rfl dX7_flowUp_39 ?_
        refine lv_iload_n S.1 S.2.1 dX7_flowUp_42 rfl (lv_at hl 1 rfl) ?_
        refine w_iconst S dX7_flowUp_43 (by decide) (fun k19 hk19 => ?_)
        refine w_iast S hK hg hP hS 107 (by decide) ceK107 (by omega) (by omega) dX7_flowUp_44 (fun x20 H locs ex20 hP hS => ?_)
        have hI21 : Inv x20 := by rw [ex20]; exact hI15.up (i_ge _) (i_le _)
        have hT22 : Same (TM) x x20 := by rw [ex20]; exact hT16.up (by unfold TM TrM; omega)
        have hE23 : Rel x20 := by rw [ex20]; exact Rel.oth hE17 (by decide) (by decide)
        have u24 : (x20 89 (33)).toInt = (x14 89 (33)).toInt := by rw [ex20, up2_ne _ _ (by omega)]
        exact w_vret S hr0 hlk hP hS dX7_flowUp_45 (⟨hI21, hT22, hE23, by omega⟩)
      · exact w_vret S hr0 hlk hP hS dX7_flowUp_30 (⟨hI, hT, hE, by omega⟩)
set_option maxRecDepth 100000 in
set_option maxHeartbeats 4000000 in
theorem c_X7_flowDown (l : Launch) (D : va_G) (g : GA) (hg : Inj g) (x : St) (hI : Inv x) (hE : Rel x) (po : Int32) (hy0 : 0 ≤ po.toInt ∧ po.toInt < 4) : Met l yX7_flowDown wsX7_flowDown ({ frames := 0, cells := 0, slots := 0, locals := 0 } : Room) (va_Pc [.ref (g.1 89), .int po] (WI D g x)) (va_Qv (fun x2 => Inv x2 ∧ Same (TS) x x2 ∧ Rel x2 ∧ (x2 89 33).toInt = (x 89 33).toInt) (WO D g) (AQ g)) 0 0 (AQ g) := by
  refine w_met (cc := cX7_flowDown) (maxL := 2) (ret := none) (own := RX7) (by decide) rfl rfl (Nat.le_of_ble_eq_true rfl) (fun p e s m below meth co S hr0 hlk hK hN hP hS ls hl => ?_)
  have hts := S.2.2.2.2
  have hl : lv_has ls 2 [(0, .ref (g.1 89)), (1, .int po)] := hl
  have hT : Same (TS) x x := Same.rf
  refine lv_aload_n S.1 S.2.1 dX7_flowDown_0 rfl (lv_at hl 0 rfl) ?_
  refine w_get (C := RX7) (T := TX7) (N := 34) S (fun _ h => List.mem_cons_of_mem _ (List.mem_append_right _ h)) hK hP 89 (by decide) (ceK89 _) rfl 17 (by decide) (hts _ (List.mem_of_getElem? (i := 1) rfl)) (v := .ref (g.1 106)) rfl dX7_flowDown_1 ?_
  refine lv_iload_n S.1 S.2.1 dX7_flowDown_4 rfl (lv_at hl 1 rfl) ?_
  refine w_zald S hK hP 106 (by decide) ceK106 (by omega) (by omega) dX7_flowDown_5 (fun v1 ev1 => ?_)
  have wv1 : v1.toInt = (x 106 po.toInt.toNat).toInt := by rw [ev1]
  have rv1 : (0 : Int) ≤ v1.toInt ∧ v1.toInt ≤ (1 : Int) := by rw [ev1]; exact hI 106 _
  refine w_if_eq (tgt := 20) S dX7_flowDown_6 (by decide) (fun hb2 => ?_) (fun hb2 => ?_)
  · exact w_vret S hr0 hlk hP hS dX7_flowDown_20 (⟨hI, hT, hE, by omega⟩)
  · refine lv_aload_n S.1 S.2.1 dX7_flowDown_9 rfl (lv_at hl 0 rfl) ?_
    refine w_get (C := RX7) (T := TX7) (N := 34) S (fun _ h => List.mem_cons_of_mem _ (List.mem_append_right _ h)) hK hP 89 (by decide) (ceK89 _) rfl 7 (by decide) (hts _ (List.mem_of_getElem? (i := 2) rfl)) (v := .ref (g.1 96)) rfl dX7_flowDown_10 ?_
    refine lv_iload_n S.1 S.2.1 dX7_flowDown_13 rfl (lv_at hl 1 rfl) ?_
    refine w_iald S hK hP 96 (by decide) ceK96 (by omega) (by omega) dX7_flowDown_14 (fun v3 ev3 => ?_)
    have wv3 : v3.toInt = (x 96 po.toInt.toNat).toInt := by rw [ev3]
    have rv3 : (0 : Int) ≤ v3.toInt ∧ v3.toInt ≤ (65 : Int) := by rw [ev3]; exact hI 96 _
    refine w_bipush S dX7_flowDown_15 (by decide) (fun k4 hk4 => ?_)
    refine w_icmp_le (tgt := 21) S dX7_flowDown_17 (by decide) (fun hb5 => ?_) (fun hb5 => ?_)
    · refine lv_aload_n S.1 S.2.1 dX7_flowDown_21 rfl (lv_at hl 0 rfl) ?_
      refine w_get (C := RX7) (T := TX7) (N := 34) S (fun _ h => List.mem_cons_of_mem _ (List.mem_append_right _ h)) hK hP 89 (by decide) (ceK89 _) rfl 17 (by decide) (hts _ (List.mem_of_getElem? (i := 1) rfl)) (v := .ref (g.1 106)) rfl dX7_flowDown_22 ?_
      refine lv_iload_n S.1 S.2.1 dX7_flowDown_25 rfl (lv_at hl 1 rfl) ?_
      refine w_iconst S dX7_flowDown_26 (by decide) (fun k6 hk6 => ?_)
      refine w_zast S hK hg hP hS 106 (by decide) ceK106 (z01 (by omega) (by omega)) (by omega) (by omega) dX7_flowDown_27 (fun x7 H locs ex7 hP hS => ?_)
      have hI8 : Inv x7 := by rw [ex7]; exact hI.up (show (0 : Int) ≤ _ by omega) (show _ ≤ (1 : Int) by omega)
      have hT9 : Same (TS) x x7 := by rw [ex7]; exact hT.up (by unfold TS; omega)
      have hE10 : Rel x7 := by rw [ex7]; exact Rel.oth hE (by decide) (by decide)
      have u11 : (x7 89 (33)).toInt = (x 89 (33)).toInt := by rw [ex7, up2_ne _ _ (by omega)]
      refine lv_aload_n S.1 S.2.1 dX7_flowDown_28 rfl (lv_at hl 0 rfl) ?_
      refine w_get (C := RX7) (T := TX7) (N := 34) S (fun _ h => List.mem_cons_of_mem _ (List.mem_append_right _ h)) hK hP 89 (by decide) (ceK89 _) rfl 18 (by decide) (hts _ (List.mem_of_getElem? (i := 3) rfl)) (v := .ref (g.1 107)) rfl dX7_flowDown_29 ?_
      refine lv_iload_n S.1 S.2.1 dX7_flowDown_32 rfl (lv_at hl 1 rfl) ?_
      refine w_iconst S dX7_flowDown_33 (by decide) (fun k12 hk12 => ?_)
      refine w_iast S hK hg hP hS 107 (by decide) ceK107 (by omega) (by omega) dX7_flowDown_34 (fun x13 H locs ex13 hP hS => ?_)
      have hI14 : Inv x13 := by rw [ex13]; exact hI8.up (i_ge _) (i_le _)
      have hT15 : Same (TS) x x13 := by rw [ex13]; exact hT9.up (by unfold TS; omega)
      have hE16 : Rel x13 := by rw [ex13]; exact Rel.oth hE10 (by decide) (by decide)
      have u17 : (x13 89 (33)).toInt = (x7 89 (33)).toInt := by rw [ex13, up2_ne _ _ (by omega)]
      exact w_vret S hr0 hlk hP hS dX7_flowDown_35 (⟨hI14, hT15, hE16, by omega⟩)
    · exact w_vret S hr0 hlk hP hS dX7_flowDown_20 (⟨hI, hT, hE, by omega⟩)
set_option maxRecDepth 100000 in
set_option maxHeartbeats 4000000 in
theorem c_X7_release (l : Launch) (D : va_G) (g : GA) (hg : Inj g) (x : St) (hI : Inv x) (hE : Rel x) (po : Int32) (hy0 : 0 ≤ po.toInt ∧ po.toInt < 4) : Met l yX7_release wsX7_release ({ frames := 2, cells := 0, slots := 0, locals := 43 } : Room) (va_Pc [.ref (g.1 89), .int po] (WI D g x)) (va_Qv (fun x2 => Inv x2 ∧ Same (TM) x x2 ∧ Rel x2 ∧ (x2 89 33).toInt = (x 89 33).toInt) (WO D g) (AQ g)) 0 0 (AQ g) := by
  refine w_met (cc := cX7_release) (maxL := 4) (ret := none) (own := RX7) (by decide) rfl rfl (Nat.le_of_ble_eq_true rfl) (fun p e s m below meth co S hr0 hlk hK hN hP hS ls hl => ?_)
  have hts := S.2.2.2.2
  have hl : lv_has ls 4 [(0, .ref (g.1 89)), (1, .int po)] := hl
  have hT : Same (TM) x x := Same.rf
  have J15 : ∀ (n0 : Nat) (x_15 : St) (H : Heap) (locs : List Loc) (ls : Array Slot) (y15_2 : Int32), Inv x_15 → Same (TM) x x_15 → Rel x_15 → (0 ≤ y15_2.toInt) → (y15_2.toInt ≤ 65) → ((x_15 89 33).toInt = (x 89 33).toInt) → (65 - y15_2.toInt).toNat < n0 → va_P D vwCl (WL g x_15) H → va_S (AQ g) s.heap H locs → lv_has ls 4 [(0, .ref (g.1 89)), (1, .int po), (2, .int y15_2)] → W p l e ({ frames := 2, cells := 0, slots := 0, locals := 43 } : Room) s m ([.ref (g.1 89), .int po] : List Value).toArray below meth co H locs 0 0 (MQ below (va_Qv (fun x2 => Inv x2 ∧ Same (TM) x x2 ∧ Rel x2 ∧ (x2 89 33).toInt = (x 89 33).toInt) (WO D g) (AQ g)) ([.ref (g.1 89), .int po] : List Value).toArray s 0 0 (AQ g)) (F0 m 15 ls []) := by
    intro n0
    induction n0 with
    | zero => intro x_15 H locs ls y15_2 hI_15 hT_15 hE_15 hf15_0 hf15_1 hf15_2 hm_15 hP hS hl; exact absurd hm_15 (Nat.not_lt_zero _)
    | succ n0 ih15 =>
      intro x_15 H locs ls y15_2 hI_15 hT_15 hE_15 hf15_0 hf15_1 hf15_2 hm_15 hP hS hl
      refine lv_iload_n S.1 S.2.1 dX7_release_15 rfl (lv_at hl 2 rfl) ?_
      refine lv_aload_n S.1 S.2.1 dX7_release_16 rfl (lv_at hl 0 rfl) ?_
      refine w_get (C := RX7) (T := TX7) (N := 34) S (fun _ h => List.mem_cons_of_mem _ (List.mem_append_right _ h)) hK hP 89 (by decide) (ceK89 _) rfl 7 (by decide) (hts _ (List.mem_of_getElem? (i := 2) rfl)) (v := .ref (g.1 96)) rfl dX7_release_17 ?_
      refine lv_iload_n S.1 S.2.1 dX7_release_20 rfl (lv_at hl 1 rfl) ?_
      refine w_iald S hK hP 96 (by decide) ceK96 (by omega) (by omega) dX7_release_21 (fun v1 ev1 => ?_)
      have wv1 : v1.toInt = (x_15 96 po.toInt.toNat).toInt := by rw [ev1]
      have rv1 : (0 : Int) ≤ v1.toInt ∧ v1.toInt ≤ (65 : Int) := by rw [ev1]; exact hI_15 96 _
      refine w_icmp_ge (tgt := 79) S dX7_release_22 (by decide) (fun hb2 => ?_) (fun hb2 => ?_)
      · exact w_vret S hr0 hlk hP hS dX7_release_79 (⟨hI_15, hT_15, hE_15, by omega⟩)
      · refine lv_aload_n S.1 S.2.1 dX7_release_25 rfl (lv_at hl 0 rfl) ?_
        refine w_get (C := RX7) (T := TX7) (N := 34) S (fun _ h => List.mem_cons_of_mem _ (List.mem_append_right _ h)) hK hP 89 (by decide) (ceK89 _) rfl 5 (by decide) (hts _ (List.mem_of_getElem? (i := 3) rfl)) (v := .ref (g.1 94)) rfl dX7_release_26 ?_
        refine w_bipush S dX7_release_29 (by decide) (fun k3 hk3 => ?_)
        refine lv_iload_n S.1 S.2.1 dX7_release_31 rfl (lv_at hl 1 rfl) ?_
        refine w_imulk S dX7_release_32 65 hk3 (by omega) (by omega) (fun v4 hv4 => ?_)
        refine lv_iload_n S.1 S.2.1 dX7_release_33 rfl (lv_at hl 2 rfl) ?_
        refine w_iadd S dX7_release_34 (by omega) (by omega) (fun v5 hv5 => ?_)
        refine w_iald S hK hP 94 (by decide) ceK94 (by omega) (by omega) dX7_release_35 (fun v6 ev6 => ?_)
        have wv6 : v6.toInt = (x_15 94 v5.toInt.toNat).toInt := by rw [ev6]
        refine lv_istore_n (lv' := [(3, .int v6), (0, .ref (g.1 89)), (1, .int po), (2, .int y15_2)]) S.1 S.2.1 dX7_release_36 rfl hl (by decide) rfl (fun ls hl => ?_)
        refine lv_iload_n S.1 S.2.1 dX7_release_37 rfl (lv_at hl 0 rfl) ?_
        refine w_sipush S dX7_release_38 (by decide) (fun k7 hk7 => ?_)
        refine w_icmp_eq (tgt := 64) S dX7_release_41 (by decide) (fun hb8 => ?_) (fun hb8 => ?_)
        · refine lv_aload_n S.1 S.2.1 dX7_release_64 rfl (lv_at hl 1 rfl) ?_
          refine w_get (C := RX7) (T := TX7) (N := 34) S (fun _ h => List.mem_cons_of_mem _ (List.mem_append_right _ h)) hK hP 89 (by decide) (ceK89 _) rfl 8 (by decide) (hts _ (List.mem_of_getElem? (i := 1) rfl)) (v := .ref (g.1 97)) rfl dX7_release_65 ?_
          refine lv_iload_n S.1 S.2.1 dX7_release_68 rfl (lv_at hl 2 rfl) ?_
          refine lv_iload_n S.1 S.2.1 dX7_release_69 rfl (lv_at hl 3 rfl) ?_
          refine w_iconst S dX7_release_70 (by decide) (fun k9 hk9 => ?_)
          refine w_iadd S dX7_release_71 (by omega) (by omega) (fun v10 hv10 => ?_)
          refine w_iast S hK hg hP hS 97 (by decide) ceK97 (by omega) (by omega) dX7_release_72 (fun x11 H locs ex11 hP hS => ?_)
          have hI12 : Inv x11 := by rw [ex11]; exact hI_15.up (show (0 : Int) ≤ _ by omega) (show _ ≤ (65 : Int) by omega)
          have hT13 : Same (TM) x x11 := by rw [ex11]; exact hT_15.up (by unfold TM TrM; omega)
          have hE14 : Rel x11 := by rw [ex11]; exact Rel.rl hE_15 (by omega)
          have u15 : (x11 89 (33)).toInt = (x_15 89 (33)).toInt := by rw [ex11, up2_ne _ _ (by omega)]
          have u16 : (x11 96 (po.toInt.toNat)).toInt = (x_15 96 (po.toInt.toNat)).toInt := by rw [ex11, up2_ne _ _ (by omega)]
          refine w_iinc (lv' := [(3, .int v6), (0, .ref (g.1 89)), (1, .int po)]) S dX7_release_73 hl (k := 3) rfl (by decide) (by decide) (by omega) (by omega) (fun _ => rfl) (fun v17 ls hv17 hl => ?_)
          refine lv_goto (tgt := 15) S.1 S.2.1 dX7_release_76 (by decide) ?_
          exact ih15 _ _ _ _ v17 hI12 hT13 hE14 (by omega) (by omega) (by omega) (by omega) hP hS (lv_sub hl [2, 3, 0] rfl)
        · refine lv_iload_n S.1 S.2.1 dX7_release_44 rfl (lv_at hl 0 rfl) ?_
          refine w_bipush S dX7_release_45 (by decide) (fun k18 hk18 => ?_)
          refine w_icmp_ne (tgt := 73) S dX7_release_47 (by decide) (fun hb19 => ?_) (fun hb19 => ?_)
          · refine w_iinc (lv' := [(3, .int v6), (0, .ref (g.1 89)), (1, .int po)]) S dX7_release_73 hl (k := 3) rfl (by decide) (by decide) (by omega) (by omega) (fun _ => rfl) (fun v20 ls hv20 hl => ?_)
            refine lv_goto (tgt := 15) S.1 S.2.1 dX7_release_76 (by decide) ?_
            exact ih15 _ _ _ _ v20 hI_15 hT_15 hE_15 (by omega) (by omega) (by omega) (by omega) hP hS (lv_sub hl [2, 3, 0] rfl)
          · refine lv_aload_n S.1 S.2.1 dX7_release_50 rfl (lv_at hl 1 rfl) ?_
            refine w_get (C := RX7) (T := TX7) (N := 34) S (fun _ h => List.mem_cons_of_mem _ (List.mem_append_right _ h)) hK hP 89 (by decide) (ceK89 _) rfl 6 (by decide) (hts _ (List.mem_of_getElem? (i := 4) rfl)) (v := .ref (g.1 95)) rfl dX7_release_51 ?_
            refine w_bipush S dX7_release_54 (by decide) (fun k21 hk21 => ?_)
            refine lv_iload_n S.1 S.2.1 dX7_release_56 rfl (lv_at hl 2 rfl) ?_
            refine w_imulk S dX7_release_57 65 hk21 (by omega) (by omega) (fun v22 hv22 => ?_)
            refine lv_iload_n S.1 S.2.1 dX7_release_58 rfl (lv_at hl 3 rfl) ?_
            refine w_iadd S dX7_release_59 (by omega) (by omega) (fun v23 hv23 => ?_)
            refine w_zald S hK hP 95 (by decide) ceK95 (by omega) (by omega) dX7_release_60 (fun v24 ev24 => ?_)
            have wv24 : v24.toInt = (x_15 95 v23.toInt.toNat).toInt := by rw [ev24]
            have rv24 : (0 : Int) ≤ v24.toInt ∧ v24.toInt ≤ (1 : Int) := by rw [ev24]; exact hI_15 95 _
            refine w_if_ne (tgt := 73) S dX7_release_61 (by decide) (fun hb25 => ?_) (fun hb25 => ?_)
            · refine w_iinc (lv' := [(3, .int v6), (0, .ref (g.1 89)), (1, .int po)]) S dX7_release_73 hl (k := 3) rfl (by decide) (by decide) (by omega) (by omega) (fun _ => rfl) (fun v26 ls hv26 hl => ?_)
              refine lv_goto (tgt := 15) S.1 S.2.1 dX7_release_76 (by decide) ?_
              exact ih15 _ _ _ _ v26 hI_15 hT_15 hE_15 (by omega) (by omega) (by omega) (by omega) hP hS (lv_sub hl [2, 3, 0] rfl)
            · refine lv_aload_n S.1 S.2.1 dX7_release_64 rfl (lv_at hl 1 rfl) ?_
              refine w_get (C := RX7) (T := TX7) (N := 34) S (fun _ h => List.mem_cons_of_mem _ (List.mem_append_right _ h)) hK hP 89 (by decide) (ceK89 _) rfl 8 (by decide) (hts _ (List.mem_of_getElem? (i := 1) rfl)) (v := .ref (g.1 97)) rfl dX7_release_65 ?_
              refine lv_iload_n S.1 S.2.1 dX7_release_68 rfl (lv_at hl 2 rfl) ?_
              refine lv_iload_n S.1 S.2.1 dX7_release_69 rfl (lv_at hl 3 rfl) ?_
              refine w_iconst S dX7_release_70 (by decide) (fun k27 hk27 => ?_)
              refine w_iadd S dX7_release_71 (by omega) (by omega) (fun v28 hv28 => ?_)
              refine w_iast S hK hg hP hS 97 (by decide) ceK97 (by omega) (by omega) dX7_release_72 (fun x29 H locs ex29 hP hS => ?_)
              have hI30 : Inv x29 := by rw [ex29]; exact hI_15.up (show (0 : Int) ≤ _ by omega) (show _ ≤ (65 : Int) by omega)
              have hT31 : Same (TM) x x29 := by rw [ex29]; exact hT_15.up (by unfold TM TrM; omega)
              have hE32 : Rel x29 := by rw [ex29]; exact Rel.rl hE_15 (by omega)
              have u33 : (x29 89 (33)).toInt = (x_15 89 (33)).toInt := by rw [ex29, up2_ne _ _ (by omega)]
              have u34 : (x29 96 (po.toInt.toNat)).toInt = (x_15 96 (po.toInt.toNat)).toInt := by rw [ex29, up2_ne _ _ (by omega)]
              refine w_iinc (lv' := [(3, .int v6), (0, .ref (g.1 89)), (1, .int po)]) S dX7_release_73 hl (k := 3) rfl (by decide) (by decide) (by omega) (by omega) (fun _ => rfl) (fun v35 ls hv35 hl => ?_)
              refine lv_goto (tgt := 15) S.1 S.2.1 dX7_release_76 (by decide) ?_
              exact ih15 _ _ _ _ v35 hI30 hT31 hE32 (by omega) (by omega) (by omega) (by omega) hP hS (lv_sub hl [2, 3, 0] rfl)
  refine lv_aload_n S.1 S.2.1 dX7_release_0 rfl (lv_at hl 0 rfl) ?_
  refine lv_iload_n S.1 S.2.1 dX7_release_1 rfl (lv_at hl 1 rfl) ?_
  refine w_cVi (As := [.int po]) (rest := []) S hK hN hP hS hl 89 (by decide) (ceK89 _) rfl (c_X7_isCanon l D g hg x hI po (by omega)) (cwV 1 hts gX7_release_X7_isCanon rfl rfl rfl (by decide +kernel) ⟨Nat.le_of_ble_eq_true rfl, Nat.le_of_ble_eq_true rfl⟩) rfl rfl (Nat.le_of_ble_eq_true rfl) dX7_release_2 ⟨Nat.zero_le _, Nat.zero_le _⟩ (fun r37 x36 H locs hq38 hP hS => ?_)
  obtain ⟨ex39, hf40⟩ := hq38
  rw [ex39] at hP
  refine w_if_eq (tgt := 80) S dX7_release_5 (by decide) (fun hb41 => ?_) (fun hb41 => ?_)
  · refine lv_aload_n S.1 S.2.1 dX7_release_80 rfl (lv_at hl 0 rfl) ?_
    refine lv_iload_n S.1 S.2.1 dX7_release_81 rfl (lv_at hl 1 rfl) ?_
    refine w_bipush S dX7_release_82 (by decide) (fun k42 hk42 => ?_)
    refine w_cVi (As := [.int po, .int k42]) (rest := []) S hK hN hP hS hl 89 (by decide) (ceK89 _) rfl (c_X7_mode1 l D g hg x hI po k42 (by omega) (by omega)) (cwV 2 hts gX7_release_X7_mode1 rfl rfl rfl (by decide +kernel) ⟨Nat.le_of_ble_eq_true rfl, Nat.le_of_ble_eq_true rfl⟩) rfl rfl (Nat.le_of_ble_eq_true rfl) dX7_release_84 ⟨Nat.zero_le _, Nat.zero_le _⟩ (fun r44 x43 H locs hq45 hP hS => ?_)
    obtain ⟨ex46, hf47⟩ := hq45
    rw [ex46] at hP
    refine lv_istore_n (lv' := [(2, .int r44), (0, .ref (g.1 89)), (1, .int po)]) S.1 S.2.1 dX7_release_87 rfl hl (by decide) rfl (fun ls hl => ?_)
    refine lv_iload_n S.1 S.2.1 dX7_release_88 rfl (lv_at hl 0 rfl) ?_
    refine w_if_ne (tgt := 94) S dX7_release_89 (by decide) (fun hb48 => ?_) (fun hb48 => ?_)
    · refine lv_aload_n S.1 S.2.1 dX7_release_94 rfl (lv_at hl 1 rfl) ?_
      refine w_get (C := RX7) (T := TX7) (N := 34) S (fun _ h => List.mem_cons_of_mem _ (List.mem_append_right _ h)) hK hP 89 (by decide) (ceK89 _) rfl 7 (by decide) (hts _ (List.mem_of_getElem? (i := 2) rfl)) (v := .ref (g.1 96)) rfl dX7_release_95 ?_
      refine lv_iload_n S.1 S.2.1 dX7_release_98 rfl (lv_at hl 2 rfl) ?_
      refine w_iald S hK hP 96 (by decide) ceK96 (by omega) (by omega) dX7_release_99 (fun v49 ev49 => ?_)
      have wv49 : v49.toInt = (x 96 po.toInt.toNat).toInt := by rw [ev49]
      have rv49 : (0 : Int) ≤ v49.toInt ∧ v49.toInt ≤ (65 : Int) := by rw [ev49]; exact hI 96 _
      refine lv_iload_n S.1 S.2.1 dX7_release_100 rfl (lv_at hl 0 rfl) ?_
      refine w_icmp_lt (tgt := 116) S dX7_release_101 (by decide) (fun hb50 => ?_) (fun hb50 => ?_)
      · exact w_vret S hr0 hlk hP hS dX7_release_116 (⟨hI, hT, hE, by omega⟩)
      · refine lv_aload_n S.1 S.2.1 dX7_release_104 rfl (lv_at hl 1 rfl) ?_
        refine w_get (C := RX7) (T := TX7) (N := 34) S (fun _ h => List.mem_cons_of_mem _ (List.mem_append_right _ h)) hK hP 89 (by decide) (ceK89 _) rfl 8 (by decide) (hts _ (List.mem_of_getElem? (i := 1) rfl)) (v := .ref (g.1 97)) rfl dX7_release_105 ?_
        refine lv_iload_n S.1 S.2.1 dX7_release_108 rfl (lv_at hl 2 rfl) ?_
        refine lv_aload_n S.1 S.2.1 dX7_release_109 rfl (lv_at hl 1 rfl) ?_
        refine w_get (C := RX7) (T := TX7) (N := 34) S (fun _ h => List.mem_cons_of_mem _ (List.mem_append_right _ h)) hK hP 89 (by decide) (ceK89 _) rfl 7 (by decide) (hts _ (List.mem_of_getElem? (i := 2) rfl)) (v := .ref (g.1 96)) rfl dX7_release_110 ?_
        refine lv_iload_n S.1 S.2.1 dX7_release_113 rfl (lv_at hl 2 rfl) ?_
        refine w_iald S hK hP 96 (by decide) ceK96 (by omega) (by omega) dX7_release_114 (fun v51 ev51 => ?_)
        have wv51 : v51.toInt = (x 96 po.toInt.toNat).toInt := by rw [ev51]
        have rv51 : (0 : Int) ≤ v51.toInt ∧ v51.toInt ≤ (65 : Int) := by rw [ev51]; exact hI 96 _
        refine w_iast S hK hg hP hS 97 (by decide) ceK97 (by omega) (by omega) dX7_release_115 (fun x52 H locs ex52 hP hS => ?_)
        have hI53 : Inv x52 := by rw [ex52]; exact hI.up (show (0 : Int) ≤ _ by omega) (show _ ≤ (65 : Int) by omega)
        have hT54 : Same (TM) x x52 := by rw [ex52]; exact hT.up (by unfold TM TrM; omega)
        have hE55 : Rel x52 := by rw [ex52]; exact Rel.rl hE (by omega)
        have u56 : (x52 89 (33)).toInt = (x 89 (33)).toInt := by rw [ex52, up2_ne _ _ (by omega)]
        have u57 : (x52 96 (po.toInt.toNat)).toInt = (x 96 (po.toInt.toNat)).toInt := by rw [ex52, up2_ne _ _ (by omega)]
        exact w_vret S hr0 hlk hP hS dX7_release_116 (⟨hI53, hT54, hE55, by omega⟩)
    · refine w_iconst S dX7_release_92 (by decide) (fun k58 hk58 => ?_)
      refine lv_istore_n (lv' := [(2, .int k58), (0, .ref (g.1 89)), (1, .int po)]) S.1 S.2.1 dX7_release_93 rfl hl (by decide) rfl (fun ls hl => ?_)
      refine lv_aload_n S.1 S.2.1 dX7_release_94 rfl (lv_at hl 1 rfl) ?_
      refine w_get (C := RX7) (T := TX7) (N := 34) S (fun _ h => List.mem_cons_of_mem _ (List.mem_append_right _ h)) hK hP 89 (by decide) (ceK89 _) rfl 7 (by decide) (hts _ (List.mem_of_getElem? (i := 2) rfl)) (v := .ref (g.1 96)) rfl dX7_release_95 ?_
      refine lv_iload_n S.1 S.2.1 dX7_release_98 rfl (lv_at hl 2 rfl) ?_
      refine w_iald S hK hP 96 (by decide) ceK96 (by omega) (by omega) dX7_release_99 (fun v59 ev59 => ?_)
      have wv59 : v59.toInt = (x 96 po.toInt.toNat).toInt := by rw [ev59]
      have rv59 : (0 : Int) ≤ v59.toInt ∧ v59.toInt ≤ (65 : Int) := by rw [ev59]; exact hI 96 _
      refine lv_iload_n S.1 S.2.1 dX7_release_100 rfl (lv_at hl 0 rfl) ?_
      refine w_icmp_lt (tgt := 116) S dX7_release_101 (by decide) (fun hb60 => ?_) (fun hb60 => ?_)
      · exact w_vret S hr0 hlk hP hS dX7_release_116 (⟨hI, hT, hE, by omega⟩)
      · refine lv_aload_n S.1 S.2.1 dX7_release_104 rfl (lv_at hl 1 rfl) ?_
        refine w_get (C := RX7) (T := TX7) (N := 34) S (fun _ h => List.mem_cons_of_mem _ (List.mem_append_right _ h)) hK hP 89 (by decide) (ceK89 _) rfl 8 (by decide) (hts _ (List.mem_of_getElem? (i := 1) rfl)) (v := .ref (g.1 97)) rfl dX7_release_105 ?_
        refine lv_iload_n S.1 S.2.1 dX7_release_108 rfl (lv_at hl 2 rfl) ?_
        refine lv_aload_n S.1 S.2.1 dX7_release_109 rfl (lv_at hl 1 rfl) ?_
        refine w_get (C := RX7) (T := TX7) (N := 34) S (fun _ h => List.mem_cons_of_mem _ (List.mem_append_right _ h)) hK hP 89 (by decide) (ceK89 _) rfl 7 (by decide) (hts _ (List.mem_of_getElem? (i := 2) rfl)) (v := .ref (g.1 96)) rfl dX7_release_110 ?_
        refine lv_iload_n S.1 S.2.1 dX7_release_113 rfl (lv_at hl 2 rfl) ?_
        refine w_iald S hK hP 96 (by decide) ceK96 (by omega) (by omega) dX7_release_114 (fun v61 ev61 => ?_)
        have wv61 : v61.toInt = (x 96 po.toInt.toNat).toInt := by rw [ev61]
        have rv61 : (0 : Int) ≤ v61.toInt ∧ v61.toInt ≤ (65 : Int) := by rw [ev61]; exact hI 96 _
        refine w_iast S hK hg hP hS 97 (by decide) ceK97 (by omega) (by omega) dX7_release_115 (fun x62 H locs ex62 hP hS => ?_)
        have hI63 : Inv x62 := by rw [ex62]; exact hI.up (show (0 : Int) ≤ _ by omega) (show _ ≤ (65 : Int) by omega)
        have hT64 : Same (TM) x x62 := by rw [ex62]; exact hT.up (by unfold TM TrM; omega)
        have hE65 : Rel x62 := by rw [ex62]; exact Rel.rl hE (by omega)
        have u66 : (x62 89 (33)).toInt = (x 89 (33)).toInt := by rw [ex62, up2_ne _ _ (by omega)]
        have u67 : (x62 96 (po.toInt.toNat)).toInt = (x 96 (po.toInt.toNat)).toInt := by rw [ex62, up2_ne _ _ (by omega)]
        exact w_vret S hr0 hlk hP hS dX7_release_116 (⟨hI63, hT64, hE65, by omega⟩)
  · refine lv_aload_n S.1 S.2.1 dX7_release_8 rfl (lv_at hl 0 rfl) ?_
    refine w_get (C := RX7) (T := TX7) (N := 34) S (fun _ h => List.mem_cons_of_mem _ (List.mem_append_right _ h)) hK hP 89 (by decide) (ceK89 _) rfl 8 (by decide) (hts _ (List.mem_of_getElem? (i := 1) rfl)) (v := .ref (g.1 97)) rfl dX7_release_9 ?_
    refine lv_iload_n S.1 S.2.1 dX7_release_12 rfl (lv_at hl 1 rfl) ?_
    refine w_iald S hK hP 97 (by decide) ceK97 (by omega) (by omega) dX7_release_13 (fun v68 ev68 => ?_)
    have wv68 : v68.toInt = (x 97 po.toInt.toNat).toInt := by rw [ev68]
    have rv68 : (0 : Int) ≤ v68.toInt ∧ v68.toInt ≤ (65 : Int) := by rw [ev68]; exact hI 97 _
    refine lv_istore_n (lv' := [(2, .int v68), (0, .ref (g.1 89)), (1, .int po)]) S.1 S.2.1 dX7_release_14 rfl hl (by decide) rfl (fun ls hl => ?_)
    exact J15 _ _ _ _ _ v68 hI hT hE (by omega) (by omega) (by omega) (Nat.lt_succ_self _) hP hS (lv_sub hl [1, 2, 0] rfl)
set_option maxRecDepth 100000 in
set_option maxHeartbeats 4000000 in
theorem c_X7_comesIn (l : Launch) (D : va_G) (g : GA) (hg : Inj g) (x : St) (hI : Inv x) (hE : Rel x) (po : Int32) (b : Int32) (as : Int32) (hy0 : 0 ≤ po.toInt ∧ po.toInt < 4) (hy1 : 0 ≤ as.toInt ∧ as.toInt ≤ 1) : Met l yX7_comesIn wsX7_comesIn ({ frames := 3, cells := 0, slots := 0, locals := 66 } : Room) (va_Pc [.ref (g.1 89), .int po, .int b, .int as] (WI D g x)) (va_Qi (fun r x2 => Inv x2 ∧ Same TM x x2 ∧ Rel x2 ∧ (x2 89 33).toInt = (x 89 33).toInt ∧ 0 ≤ r.toInt ∧ r.toInt ≤ 1) (WO D g) (AQ g)) 0 0 (AQ g) := by
  refine w_met (cc := cX7_comesIn) (maxL := 5) (ret := (some .boolean)) (own := RX7) (by decide) rfl rfl (Nat.le_of_ble_eq_true rfl) (fun p e s m below meth co S hr0 hlk hK hN hP hS ls hl => ?_)
  have hts := S.2.2.2.2
  have hl : lv_has ls 5 [(0, .ref (g.1 89)), (1, .int po), (2, .int b), (3, .int as)] := hl
  have hT : Same (TM) x x := Same.rf
  have J159 : ∀ (x_159 : St) (H : Heap) (locs : List Loc) (ls : Array Slot), Inv x_159 → Same (TM) x x_159 → Rel x_159 → ((x_159 89 33).toInt = (x 89 33).toInt) → va_P D vwCl (WL g x_159) H → va_S (AQ g) s.heap H locs → lv_has ls 5 [(0, .ref (g.1 89)), (1, .int po)] → W p l e ({ frames := 3, cells := 0, slots := 0, locals := 66 } : Room) s m ([.ref (g.1 89), .int po, .int b, .int as] : List Value).toArray below meth co H locs 0 0 (MQ below (va_Qi (fun r x2 => Inv x2 ∧ Same TM x x2 ∧ Rel x2 ∧ (x2 89 33).toInt = (x 89 33).toInt ∧ 0 ≤ r.toInt ∧ r.toInt ≤ 1) (WO D g) (AQ g)) ([.ref (g.1 89), .int po, .int b, .int as] : List Value).toArray s 0 0 (AQ g)) (F0 m 159 ls []) := by
    intro x_159 H locs ls hI_159 hT_159 hE_159 hf159_0 hP hS hl
    refine lv_aload_n S.1 S.2.1 dX7_comesIn_159 rfl (lv_at hl 0 rfl) ?_
    refine lv_iload_n S.1 S.2.1 dX7_comesIn_160 rfl (lv_at hl 1 rfl) ?_
    refine w_cVv (As := [.int po]) (rest := []) S hK hN hP hS hl 89 (by decide) (ceK89 _) rfl (c_X7_flowUp l D g hg x_159 hI_159 hE_159 po (by omega)) (cwV 1 hts gX7_comesIn_X7_flowUp rfl rfl rfl (by decide +kernel) ⟨Nat.le_of_ble_eq_true rfl, Nat.le_of_ble_eq_true rfl⟩) rfl rfl (Nat.le_of_ble_eq_true rfl) dX7_comesIn_161 ⟨Nat.zero_le _, Nat.zero_le _⟩ (fun x1 H locs hq3 hP hS => ?_)
    obtain ⟨hI4, hT5, hE7, hf6⟩ := hq3
    have hT8 : Same (TM) x x1 := hT_159.tr hT5 (fun _ _ h => h)
    refine w_iconst S dX7_comesIn_164 (by decide) (fun k9 hk9 => ?_)
    exact w_zret S hr0 hlk hP hS dX7_comesIn_165 (z01 (by omega) (by omega)) (⟨hI4, hT8, hE7, by omega, by omega, by omega⟩)
  have J75 : ∀ (H : Heap) (locs : List Loc) (ls : Array Slot) (y75_4 : Int32), ((x 96 (po.toInt.toNat)).toInt ≤ 64) → va_P D vwCl (WL g x) H → va_S (AQ g) s.heap H locs → lv_has ls 5 [(0, .ref (g.1 89)), (1, .int po), (2, .int b), (3, .int as), (4, .int y75_4)] → W p l e ({ frames := 3, cells := 0, slots := 0, locals := 66 } : Room) s m ([.ref (g.1 89), .int po, .int b, .int as] : List Value).toArray below meth co H locs 0 0 (MQ below (va_Qi (fun r x2 => Inv x2 ∧ Same TM x x2 ∧ Rel x2 ∧ (x2 89 33).toInt = (x 89 33).toInt ∧ 0 ≤ r.toInt ∧ r.toInt ≤ 1) (WO D g) (AQ g)) ([.ref (g.1 89), .int po, .int b, .int as] : List Value).toArray s 0 0 (AQ g)) (F0 m 75 ls []) := by
    intro H locs ls y75_4 hf75_0 hP hS hl
    refine lv_aload_n S.1 S.2.1 dX7_comesIn_75 rfl (lv_at hl 0 rfl) ?_
    refine w_get (C := RX7) (T := TX7) (N := 34) S (fun _ h => List.mem_cons_of_mem _ (List.mem_append_right _ h)) hK hP 89 (by decide) (ceK89 _) rfl 5 (by decide) (hts _ (List.mem_of_getElem? (i := 3) rfl)) (v := .ref (g.1 94)) rfl dX7_comesIn_76 ?_
    refine w_bipush S dX7_comesIn_79 (by decide) (fun k10 hk10 => ?_)
    refine lv_iload_n S.1 S.2.1 dX7_comesIn_81 rfl (lv_at hl 1 rfl) ?_
    refine w_imulk S dX7_comesIn_82 65 hk10 (by omega) (by omega) (fun v11 hv11 => ?_)
    refine lv_aload_n S.1 S.2.1 dX7_comesIn_83 rfl (lv_at hl 0 rfl) ?_
    refine w_get (C := RX7) (T := TX7) (N := 34) S (fun _ h => List.mem_cons_of_mem _ (List.mem_append_right _ h)) hK hP 89 (by decide) (ceK89 _) rfl 7 (by decide) (hts _ (List.mem_of_getElem? (i := 1) rfl)) (v := .ref (g.1 96)) rfl dX7_comesIn_84 ?_
    refine lv_iload_n S.1 S.2.1 dX7_comesIn_87 rfl (lv_at hl 1 rfl) ?_
    refine w_iald S hK hP 96 (by decide) ceK96 (by omega) (by omega) dX7_comesIn_88 (fun v12 ev12 => ?_)
    have wv12 : v12.toInt = (x 96 po.toInt.toNat).toInt := by rw [ev12]
    have rv12 : (0 : Int) ≤ v12.toInt ∧ v12.toInt ≤ (65 : Int) := by rw [ev12]; exact hI 96 _
    refine w_iadd S dX7_comesIn_89 (by omega) (by omega) (fun v13 hv13 => ?_)
    refine lv_iload_n S.1 S.2.1 dX7_comesIn_90 rfl (lv_at hl 2 rfl) ?_
    refine w_iast S hK hg hP hS 94 (by decide) ceK94 (by omega) (by omega) dX7_comesIn_91 (fun x14 H locs ex14 hP hS => ?_)
    have hI15 : Inv x14 := by rw [ex14]; exact hI.up (i_ge _) (i_le _)
    have hT16 : Same (TM) x x14 := by rw [ex14]; exact hT.up (by unfold TM TrM; omega)
    have hE17 : Rel x14 := by rw [ex14]; exact Rel.oth hE (by decide) (by decide)
    have u18 : (x14 89 (33)).toInt = (x 89 (33)).toInt := by rw [ex14, up2_ne _ _ (by omega)]
    have u19 : (x14 96 (po.toInt.toNat)).toInt = (x 96 (po.toInt.toNat)).toInt := by rw [ex14, up2_ne _ _ (by omega)]
    refine lv_aload_n S.1 S.2.1 dX7_comesIn_92 rfl (lv_at hl 0 rfl) ?_
    refine w_get (C := RX7) (T := TX7) (N := 34) S (fun _ h => List.mem_cons_of_mem _ (List.mem_append_right _ h)) hK hP 89 (by decide) (ceK89 _) rfl 6 (by decide) (hts _ (List.mem_of_getElem? (i := 4) rfl)) (v := .ref (g.1 95)) rfl dX7_comesIn_93 ?_
    refine w_bipush S dX7_comesIn_96 (by decide) (fun k20 hk20 => ?_)
    refine lv_iload_n S.1 S.2.1 dX7_comesIn_98 rfl (lv_at hl 1 rfl) ?_
    refine w_imulk S dX7_comesIn_99 65 hk20 (by omega) (by omega) (fun v21 hv21 => ?_)
    refine lv_aload_n S.1 S.2.1 dX7_comesIn_100 rfl (lv_at hl 0 rfl) ?_
    refine w_get (C := RX7) (T := TX7) (N := 34) S (fun _ h => List.mem_cons_of_mem _ (List.mem_append_right _ h)) hK hP 89 (by decide) (ceK89 _) rfl 7 (by decide) (hts _ (List.mem_of_getElem? (i := 1) rfl)) (v := .ref (g.1 96)) rfl dX7_comesIn_101 ?_
    refine lv_iload_n S.1 S.2.1 dX7_comesIn_104 rfl (lv_at hl 1 rfl) ?_
    refine w_iald S hK hP 96 (by decide) ceK96 (by omega) (by omega) dX7_comesIn_105 (fun v22 ev22 => ?_)
    have wv22 : v22.toInt = (x14 96 po.toInt.toNat).toInt := by rw [ev22]
    have rv22 : (0 : Int) ≤ v22.toInt ∧ v22.toInt ≤ (65 : Int) := by rw [ev22]; exact hI15 96 _
    refine w_iadd S dX7_comesIn_106 (by omega) (by omega) (fun v23 hv23 => ?_)
    refine lv_iload_n S.1 S.2.1 dX7_comesIn_107 rfl (lv_at hl 3 rfl) ?_
    refine w_zast S hK hg hP hS 95 (by decide) ceK95 (z01 (by omega) (by omega)) (by omega) (by omega) dX7_comesIn_108 (fun x24 H locs ex24 hP hS => ?_)
    have hI25 : Inv x24 := by rw [ex24]; exact hI15.up (show (0 : Int) ≤ _ by omega) (show _ ≤ (1 : Int) by omega)
    have hT26 : Same (TM) x x24 := by rw [ex24]; exact hT16.up (by unfold TM TrM; omega)
    have hE27 : Rel x24 := by rw [ex24]; exact Rel.oth hE17 (by decide) (by decide)
    have u28 : (x24 89 (33)).toInt = (x14 89 (33)).toInt := by rw [ex24, up2_ne _ _ (by omega)]
    have u29 : (x24 96 (po.toInt.toNat)).toInt = (x14 96 (po.toInt.toNat)).toInt := by rw [ex24, up2_ne _ _ (by omega)]
    refine lv_aload_n S.1 S.2.1 dX7_comesIn_109 rfl (lv_at hl 0 rfl) ?_
    refine w_get (C := RX7) (T := TX7) (N := 34) S (fun _ h => List.mem_cons_of_mem _ (List.mem_append_right _ h)) hK hP 89 (by decide) (ceK89 _) rfl 7 (by decide) (hts _ (List.mem_of_getElem? (i := 1) rfl)) (v := .ref (g.1 96)) rfl dX7_comesIn_110 ?_
    refine lv_iload_n S.1 S.2.1 dX7_comesIn_113 rfl (lv_at hl 1 rfl) ?_
    refine lv_dup2_11 S.1 S.2.1 dX7_comesIn_114 rfl rfl ?_
    refine w_iald S hK hP 96 (by decide) ceK96 (by omega) (by omega) dX7_comesIn_115 (fun v30 ev30 => ?_)
    have wv30 : v30.toInt = (x24 96 po.toInt.toNat).toInt := by rw [ev30]
    have rv30 : (0 : Int) ≤ v30.toInt ∧ v30.toInt ≤ (65 : Int) := by rw [ev30]; exact hI25 96 _
    refine w_iconst S dX7_comesIn_116 (by decide) (fun k31 hk31 => ?_)
    refine w_iadd S dX7_comesIn_117 (by omega) (by omega) (fun v32 hv32 => ?_)
    refine w_iast S hK hg hP hS 96 (by decide) ceK96 (by omega) (by omega) dX7_comesIn_118 (fun x33 H locs ex33 hP hS => ?_)
    have hI34 : Inv x33 := by rw [ex33]; exact hI25.up (show (0 : Int) ≤ _ by omega) (show _ ≤ (65 : Int) by omega)
    have hT35 : Same (TM) x x33 := by rw [ex33]; exact hT26.up (by unfold TM TrM; omega)
    have ePhE36 := hE27 (po.toInt.toNat) (by omega)
    have hE36 : Rel x33 := by rw [ex33]; exact Rel.st hE27 (by omega)
    have u37 : (x33 89 (33)).toInt = (x24 89 (33)).toInt := by rw [ex33, up2_ne _ _ (by omega)]
    have u38 : (x33 96 (po.toInt.toNat)).toInt = v32.toInt := by rw [ex33, up2_at]
    refine lv_aload_n S.1 S.2.1 dX7_comesIn_119 rfl (lv_at hl 0 rfl) ?_
    refine w_get (C := RX7) (T := TX7) (N := 34) S (fun _ h => List.mem_cons_of_mem _ (List.mem_append_right _ h)) hK hP 89 (by decide) (ceK89 _) rfl 9 (by decide) (hts _ (List.mem_of_getElem? (i := 5) rfl)) (v := .ref (g.1 98)) rfl dX7_comesIn_120 ?_
    refine lv_iload_n S.1 S.2.1 dX7_comesIn_123 rfl (lv_at hl 1 rfl) ?_
    refine w_iconst S dX7_comesIn_124 (by decide) (fun k39 hk39 => ?_)
    refine w_iast S hK hg hP hS 98 (by decide) ceK98 (by omega) (by omega) dX7_comesIn_125 (fun x40 H locs ex40 hP hS => ?_)
    have hI41 : Inv x40 := by rw [ex40]; exact hI34.up (i_ge _) (i_le _)
    have hT42 : Same (TM) x x40 := by rw [ex40]; exact hT35.up (by unfold TM TrM; omega)
    have hE43 : Rel x40 := by rw [ex40]; exact Rel.oth hE36 (by decide) (by decide)
    have u44 : (x40 89 (33)).toInt = (x33 89 (33)).toInt := by rw [ex40, up2_ne _ _ (by omega)]
    have u45 : (x40 96 (po.toInt.toNat)).toInt = (x33 96 (po.toInt.toNat)).toInt := by rw [ex40, up2_ne _ _ (by omega)]
    refine lv_aload_n S.1 S.2.1 dX7_comesIn_126 rfl (lv_at hl 0 rfl) ?_
    refine lv_iload_n S.1 S.2.1 dX7_comesIn_127 rfl (lv_at hl 1 rfl) ?_
    refine w_cVi (As := [.int po]) (rest := []) S hK hN hP hS hl 89 (by decide) (ceK89 _) rfl (c_X7_isCanon l D g hg x40 hI41 po (by omega)) (cwV 1 hts gX7_comesIn_X7_isCanon rfl rfl rfl (by decide +kernel) ⟨Nat.le_of_ble_eq_true rfl, Nat.le_of_ble_eq_true rfl⟩) rfl rfl (Nat.le_of_ble_eq_true rfl) dX7_comesIn_128 ⟨Nat.zero_le _, Nat.zero_le _⟩ (fun r47 x46 H locs hq48 hP hS => ?_)
    obtain ⟨ex49, hf50⟩ := hq48
    rw [ex49] at hP
    refine w_if_ne (tgt := 142) S dX7_comesIn_131 (by decide) (fun hb51 => ?_) (fun hb51 => ?_)
    · refine lv_iload S.1 S.2.1 dX7_comesIn_142 (lv_at hl 4 rfl) ?_
      refine w_if_eq (tgt := 159) S dX7_comesIn_144 (by decide) (fun hb52 => ?_) (fun hb52 => ?_)
      · exact J159 _ _ _ _ hI41 hT42 hE43 (by omega) hP hS (lv_sub hl [0, 1] rfl)
      · refine lv_aload_n S.1 S.2.1 dX7_comesIn_147 rfl (lv_at hl 0 rfl) ?_
        refine w_get (C := RX7) (T := TX7) (N := 34) S (fun _ h => List.mem_cons_of_mem _ (List.mem_append_right _ h)) hK hP 89 (by decide) (ceK89 _) rfl 8 (by decide) (hts _ (List.mem_of_getElem? (i := 6) rfl)) (v := .ref (g.1 97)) rfl dX7_comesIn_148 ?_
        refine lv_iload_n S.1 S.2.1 dX7_comesIn_151 rfl (lv_at hl 1 rfl) ?_
        refine lv_aload_n S.1 S.2.1 dX7_comesIn_152 rfl (lv_at hl 0 rfl) ?_
        refine w_get (C := RX7) (T := TX7) (N := 34) S (fun _ h => List.mem_cons_of_mem _ (List.mem_append_right _ h)) hK hP 89 (by decide) (ceK89 _) rfl 7 (by decide) (hts _ (List.mem_of_getElem? (i := 1) rfl)) (v := .ref (g.1 96)) rfl dX7_comesIn_153 ?_
        refine lv_iload_n S.1 S.2.1 dX7_comesIn_156 rfl (lv_at hl 1 rfl) ?_
        refine w_iald S hK hP 96 (by decide) ceK96 (by omega) (by omega) dX7_comesIn_157 (fun v53 ev53 => ?_)
        have wv53 : v53.toInt = (x40 96 po.toInt.toNat).toInt := by rw [ev53]
        have rv53 : (0 : Int) ≤ v53.toInt ∧ v53.toInt ≤ (65 : Int) := by rw [ev53]; exact hI41 96 _
        refine w_iast S hK hg hP hS 97 (by decide) ceK97 (by omega) (by omega) dX7_comesIn_158 (fun x54 H locs ex54 hP hS => ?_)
        have hI55 : Inv x54 := by rw [ex54]; exact hI41.up (show (0 : Int) ≤ _ by omega) (show _ ≤ (65 : Int) by omega)
        have hT56 : Same (TM) x x54 := by rw [ex54]; exact hT42.up (by unfold TM TrM; omega)
        have hE57 : Rel x54 := by rw [ex54]; exact Rel.rl hE43 (by omega)
        have u58 : (x54 89 (33)).toInt = (x40 89 (33)).toInt := by rw [ex54, up2_ne _ _ (by omega)]
        have u59 : (x54 96 (po.toInt.toNat)).toInt = (x40 96 (po.toInt.toNat)).toInt := by rw [ex54, up2_ne _ _ (by omega)]
        exact J159 _ _ _ _ hI55 hT56 hE57 (by omega) hP hS (lv_sub hl [0, 1] rfl)
    · refine lv_aload_n S.1 S.2.1 dX7_comesIn_134 rfl (lv_at hl 0 rfl) ?_
      refine lv_iload_n S.1 S.2.1 dX7_comesIn_135 rfl (lv_at hl 1 rfl) ?_
      refine w_cVv (As := [.int po]) (rest := []) S hK hN hP hS hl 89 (by decide) (ceK89 _) rfl (c_X7_release l D g hg x40 hI41 hE43 po (by omega)) (cwV 1 hts gX7_comesIn_X7_release rfl rfl rfl (by decide +kernel) ⟨Nat.le_of_ble_eq_true rfl, Nat.le_of_ble_eq_true rfl⟩) rfl rfl (Nat.le_of_ble_eq_true rfl) dX7_comesIn_136 ⟨Nat.zero_le _, Nat.zero_le _⟩ (fun x60 H locs hq62 hP hS => ?_)
      obtain ⟨hI63, hT64, hE66, hf65⟩ := hq62
      have hT67 : Same (TM) x x60 := hT42.tr hT64 (fun _ _ h => h)
      refine lv_goto (tgt := 159) S.1 S.2.1 dX7_comesIn_139 (by decide) ?_
      exact J159 _ _ _ _ hI63 hT67 hE66 (by omega) hP hS (lv_sub hl [0, 1] rfl)
  have J30 : ∀ (H : Heap) (locs : List Loc) (ls : Array Slot) (z30_0 : Int32), va_P D vwCl (WL g x) H → va_S (AQ g) s.heap H locs → lv_has ls 5 [(0, .ref (g.1 89)), (1, .int po), (2, .int b), (3, .int as)] → W p l e ({ frames := 3, cells := 0, slots := 0, locals := 66 } : Room) s m ([.ref (g.1 89), .int po, .int b, .int as] : List Value).toArray below meth co H locs 0 0 (MQ below (va_Qi (fun r x2 => Inv x2 ∧ Same TM x x2 ∧ Rel x2 ∧ (x2 89 33).toInt = (x 89 33).toInt ∧ 0 ≤ r.toInt ∧ r.toInt ≤ 1) (WO D g) (AQ g)) ([.ref (g.1 89), .int po, .int b, .int as] : List Value).toArray s 0 0 (AQ g)) (F0 m 30 ls [.int z30_0]) := by
    intro H locs ls z30_0 hP hS hl
    refine lv_istore (lv' := [(4, .int z30_0), (0, .ref (g.1 89)), (1, .int po), (2, .int b), (3, .int as)]) S.1 S.2.1 dX7_comesIn_30 hl (by decide) rfl (fun ls hl => ?_)
    refine lv_aload_n S.1 S.2.1 dX7_comesIn_32 rfl (lv_at hl 1 rfl) ?_
    refine w_get (C := RX7) (T := TX7) (N := 34) S (fun _ h => List.mem_cons_of_mem _ (List.mem_append_right _ h)) hK hP 89 (by decide) (ceK89 _) rfl 7 (by decide) (hts _ (List.mem_of_getElem? (i := 1) rfl)) (v := .ref (g.1 96)) rfl dX7_comesIn_33 ?_
    refine lv_iload_n S.1 S.2.1 dX7_comesIn_36 rfl (lv_at hl 2 rfl) ?_
    refine w_iald S hK hP 96 (by decide) ceK96 (by omega) (by omega) dX7_comesIn_37 (fun v68 ev68 => ?_)
    have wv68 : v68.toInt = (x 96 po.toInt.toNat).toInt := by rw [ev68]
    have rv68 : (0 : Int) ≤ v68.toInt ∧ v68.toInt ≤ (65 : Int) := by rw [ev68]; exact hI 96 _
    refine w_bipush S dX7_comesIn_38 (by decide) (fun k69 hk69 => ?_)
    refine w_icmp_gt (tgt := 59) S dX7_comesIn_40 (by decide) (fun hb70 => ?_) (fun hb70 => ?_)
    · refine lv_aload_n S.1 S.2.1 dX7_comesIn_59 rfl (lv_at hl 1 rfl) ?_
      refine w_get (C := RX7) (T := TX7) (N := 34) S (fun _ h => List.mem_cons_of_mem _ (List.mem_append_right _ h)) hK hP 89 (by decide) (ceK89 _) rfl 31 (by decide) (hts _ (List.mem_of_getElem? (i := 2) rfl)) (v := .ref (g.1 120)) rfl dX7_comesIn_60 ?_
      refine w_iconst S dX7_comesIn_63 (by decide) (fun k71 hk71 => ?_)
      refine lv_iload_n S.1 S.2.1 dX7_comesIn_64 rfl (lv_at hl 2 rfl) ?_
      refine w_imulk S dX7_comesIn_65 5 hk71 (by omega) (by omega) (fun v72 hv72 => ?_)
      refine w_iconst S dX7_comesIn_66 (by decide) (fun k73 hk73 => ?_)
      refine w_iadd S dX7_comesIn_67 (by omega) (by omega) (fun v74 hv74 => ?_)
      refine lv_dup2_11 S.1 S.2.1 dX7_comesIn_68 rfl rfl ?_
      refine w_iald S hK hP 120 (by decide) ceK120 (by omega) (by omega) dX7_comesIn_69 (fun v75 ev75 => ?_)
      have wv75 : v75.toInt = (x 120 v74.toInt.toNat).toInt := by rw [ev75]
      refine w_iconst S dX7_comesIn_70 (by decide) (fun k76 hk76 => ?_)
      refine lv_iadd S.1 S.2.1 dX7_comesIn_71 ?_
      refine w_any1 (fun v77 => ?_)
      refine w_iast S hK hg hP hS 120 (by decide) ceK120 (by omega) (by omega) dX7_comesIn_72 (fun x78 H locs ex78 hP hS => ?_)
      have hI79 : Inv x78 := by rw [ex78]; exact hI.up (i_ge _) (i_le _)
      have hT80 : Same (TM) x x78 := by rw [ex78]; exact hT.up (by unfold TM TrM; omega)
      have hE81 : Rel x78 := by rw [ex78]; exact Rel.oth hE (by decide) (by decide)
      have u82 : (x78 89 (33)).toInt = (x 89 (33)).toInt := by rw [ex78, up2_ne _ _ (by omega)]
      have u83 : (x78 96 (po.toInt.toNat)).toInt = (x 96 (po.toInt.toNat)).toInt := by rw [ex78, up2_ne _ _ (by omega)]
      refine w_iconst S dX7_comesIn_73 (by decide) (fun k84 hk84 => ?_)
      exact w_zret S hr0 hlk hP hS dX7_comesIn_74 (z01 (by omega) (by omega)) (⟨hI79, hT80, hE81, by omega, by omega, by omega⟩)
    · refine lv_aload_n S.1 S.2.1 dX7_comesIn_43 rfl (lv_at hl 1 rfl) ?_
      refine w_get (C := RX7) (T := TX7) (N := 34) S (fun _ h => List.mem_cons_of_mem _ (List.mem_append_right _ h)) hK hP 89 (by decide) (ceK89 _) rfl 7 (by decide) (hts _ (List.mem_of_getElem? (i := 1) rfl)) (v := .ref (g.1 96)) rfl dX7_comesIn_44 ?_
      refine lv_iload_n S.1 S.2.1 dX7_comesIn_47 rfl (lv_at hl 2 rfl) ?_
      refine w_iald S hK hP 96 (by decide) ceK96 (by omega) (by omega) dX7_comesIn_48 (fun v85 ev85 => ?_)
      have wv85 : v85.toInt = (x 96 po.toInt.toNat).toInt := by rw [ev85]
      have rv85 : (0 : Int) ≤ v85.toInt ∧ v85.toInt ≤ (65 : Int) := by rw [ev85]; exact hI 96 _
      refine w_bipush S dX7_comesIn_49 (by decide) (fun k86 hk86 => ?_)
      refine w_icmp_ne (tgt := 75) S dX7_comesIn_51 (by decide) (fun hb87 => ?_) (fun hb87 => ?_)
      · exact J75 _ _ _ z30_0 (by omega) hP hS (lv_sub hl [1, 2, 3, 4, 0] rfl)
      · refine lv_iload S.1 S.2.1 dX7_comesIn_54 (lv_at hl 0 rfl) ?_
        refine w_if_ne (tgt := 75) S dX7_comesIn_56 (by decide) (fun hb88 => ?_) (fun hb88 => ?_)
        · exact J75 _ _ _ z30_0 (by omega) hP hS (lv_sub hl [1, 2, 3, 4, 0] rfl)
        · refine lv_aload_n S.1 S.2.1 dX7_comesIn_59 rfl (lv_at hl 1 rfl) ?_
          refine w_get (C := RX7) (T := TX7) (N := 34) S (fun _ h => List.mem_cons_of_mem _ (List.mem_append_right _ h)) hK hP 89 (by decide) (ceK89 _) rfl 31 (by decide) (hts _ (List.mem_of_getElem? (i := 2) rfl)) (v := .ref (g.1 120)) rfl dX7_comesIn_60 ?_
          refine w_iconst S dX7_comesIn_63 (by decide) (fun k89 hk89 => ?_)
          refine lv_iload_n S.1 S.2.1 dX7_comesIn_64 rfl (lv_at hl 2 rfl) ?_
          refine w_imulk S dX7_comesIn_65 5 hk89 (by omega) (by omega) (fun v90 hv90 => ?_)
          refine w_iconst S dX7_comesIn_66 (by decide) (fun k91 hk91 => ?_)
          refine w_iadd S dX7_comesIn_67 (by omega) (by omega) (fun v92 hv92 => ?_)
          refine lv_dup2_11 S.1 S.2.1 dX7_comesIn_68 rfl rfl ?_
          refine w_iald S hK hP 120 (by decide) ceK120 (by omega) (by omega) dX7_comesIn_69 (fun v93 ev93 => ?_)
          have wv93 : v93.toInt = (x 120 v92.toInt.toNat).toInt := by rw [ev93]
          refine w_iconst S dX7_comesIn_70 (by decide) (fun k94 hk94 => ?_)
          refine lv_iadd S.1 S.2.1 dX7_comesIn_71 ?_
          refine w_any1 (fun v95 => ?_)
          refine w_iast S hK hg hP hS 120 (by decide) ceK120 (by omega) (by omega) dX7_comesIn_72 (fun x96 H locs ex96 hP hS => ?_)
          have hI97 : Inv x96 := by rw [ex96]; exact hI.up (i_ge _) (i_le _)
          have hT98 : Same (TM) x x96 := by rw [ex96]; exact hT.up (by unfold TM TrM; omega)
          have hE99 : Rel x96 := by rw [ex96]; exact Rel.oth hE (by decide) (by decide)
          have u100 : (x96 89 (33)).toInt = (x 89 (33)).toInt := by rw [ex96, up2_ne _ _ (by omega)]
          have u101 : (x96 96 (po.toInt.toNat)).toInt = (x 96 (po.toInt.toNat)).toInt := by rw [ex96, up2_ne _ _ (by omega)]
          refine w_iconst S dX7_comesIn_73 (by decide) (fun k102 hk102 => ?_)
          exact w_zret S hr0 hlk hP hS dX7_comesIn_74 (z01 (by omega) (by omega)) (⟨hI97, hT98, hE99, by omega, by omega, by omega⟩)
  refine lv_aload_n S.1 S.2.1 dX7_comesIn_0 rfl (lv_at hl 0 rfl) ?_
  refine lv_iload_n S.1 S.2.1 dX7_comesIn_1 rfl (lv_at hl 1 rfl) ?_
  refine w_cVi (As := [.int po]) (rest := []) S hK hN hP hS hl 89 (by decide) (ceK89 _) rfl (c_X7_isCanon l D g hg x hI po (by omega)) (cwV 1 hts gX7_comesIn_X7_isCanon rfl rfl rfl (by decide +kernel) ⟨Nat.le_of_ble_eq_true rfl, Nat.le_of_ble_eq_true rfl⟩) rfl rfl (Nat.le_of_ble_eq_true rfl) dX7_comesIn_2 ⟨Nat.zero_le _, Nat.zero_le _⟩ (fun r104 x103 H locs hq105 hP hS => ?_)
  obtain ⟨ex106, hf107⟩ := hq105
  rw [ex106] at hP
  refine w_if_eq (tgt := 29) S dX7_comesIn_5 (by decide) (fun hb108 => ?_) (fun hb108 => ?_)
  · refine w_iconst S dX7_comesIn_29 (by decide) (fun k109 hk109 => ?_)
    exact J30 _ _ _ k109 hP hS (lv_sub hl [0, 1, 2, 3] rfl)
  · refine lv_iload_n S.1 S.2.1 dX7_comesIn_8 rfl (lv_at hl 3 rfl) ?_
    refine w_if_ne (tgt := 29) S dX7_comesIn_9 (by decide) (fun hb110 => ?_) (fun hb110 => ?_)
    · refine w_iconst S dX7_comesIn_29 (by decide) (fun k111 hk111 => ?_)
      exact J30 _ _ _ k111 hP hS (lv_sub hl [0, 1, 2, 3] rfl)
    · refine lv_iload_n S.1 S.2.1 dX7_comesIn_12 rfl (lv_at hl 2 rfl) ?_
      refine w_bipush S dX7_comesIn_13 (by decide) (fun k112 hk112 => ?_)
      refine w_icmp_eq (tgt := 25) S dX7_comesIn_15 (by decide) (fun hb113 => ?_) (fun hb113 => ?_)
      · refine w_iconst S dX7_comesIn_25 (by decide) (fun k114 hk114 => ?_)
        refine lv_goto (tgt := 30) S.1 S.2.1 dX7_comesIn_26 (by decide) ?_
        exact J30 _ _ _ k114 hP hS (lv_sub hl [0, 1, 2, 3] rfl)
      · refine lv_iload_n S.1 S.2.1 dX7_comesIn_18 rfl (lv_at hl 2 rfl) ?_
        refine w_sipush S dX7_comesIn_19 (by decide) (fun k115 hk115 => ?_)
        refine w_icmp_ne (tgt := 29) S dX7_comesIn_22 (by decide) (fun hb116 => ?_) (fun hb116 => ?_)
        · refine w_iconst S dX7_comesIn_29 (by decide) (fun k117 hk117 => ?_)
          exact J30 _ _ _ k117 hP hS (lv_sub hl [0, 1, 2, 3] rfl)
        · refine w_iconst S dX7_comesIn_25 (by decide) (fun k118 hk118 => ?_)
          refine lv_goto (tgt := 30) S.1 S.2.1 dX7_comesIn_26 (by decide) ?_
          exact J30 _ _ _ k118 hP hS (lv_sub hl [0, 1, 2, 3] rfl)
set_option maxRecDepth 100000 in
set_option maxHeartbeats 4000000 in
theorem c_X7_emptyStore (l : Launch) (D : va_G) (g : GA) (hg : Inj g) (x : St) (hI : Inv x) (hE : Rel x) (po : Int32) (hy0 : 0 ≤ po.toInt ∧ po.toInt < 4) : Met l yX7_emptyStore wsX7_emptyStore ({ frames := 1, cells := 0, slots := 0, locals := 21 } : Room) (va_Pc [.ref (g.1 89), .int po] (WI D g x)) (va_Qv (fun x2 => Inv x2 ∧ Same (TS) x x2 ∧ Rel x2 ∧ (x2 89 33).toInt = (x 89 33).toInt) (WO D g) (AQ g)) 0 0 (AQ g) := by
  refine w_met (cc := cX7_emptyStore) (maxL := 2) (ret := none) (own := RX7) (by decide) rfl rfl (Nat.le_of_ble_eq_true rfl) (fun p e s m below meth co S hr0 hlk hK hN hP hS ls hl => ?_)
  have hts := S.2.2.2.2
  have hl : lv_has ls 2 [(0, .ref (g.1 89)), (1, .int po)] := hl
  have hT : Same (TS) x x := Same.rf
  refine lv_aload_n S.1 S.2.1 dX7_emptyStore_0 rfl (lv_at hl 0 rfl) ?_
  refine w_get (C := RX7) (T := TX7) (N := 34) S (fun _ h => List.mem_cons_of_mem _ (List.mem_append_right _ h)) hK hP 89 (by decide) (ceK89 _) rfl 7 (by decide) (hts _ (List.mem_of_getElem? (i := 1) rfl)) (v := .ref (g.1 96)) rfl dX7_emptyStore_1 ?_
  refine lv_iload_n S.1 S.2.1 dX7_emptyStore_4 rfl (lv_at hl 1 rfl) ?_
  refine w_iconst S dX7_emptyStore_5 (by decide) (fun k1 hk1 => ?_)
  refine w_iast S hK hg hP hS 96 (by decide) ceK96 (by omega) (by omega) dX7_emptyStore_6 (fun x2 H locs ex2 hP hS => ?_)
  have hI3 : Inv x2 := by rw [ex2]; exact hI.up (show (0 : Int) ≤ _ by omega) (show _ ≤ (65 : Int) by omega)
  have hT4 : Same (TS) x x2 := by rw [ex2]; exact hT.up (by unfold TS; omega)
  have u6 : (x2 89 (33)).toInt = (x 89 (33)).toInt := by rw [ex2, up2_ne _ _ (by omega)]
  refine lv_aload_n S.1 S.2.1 dX7_emptyStore_7 rfl (lv_at hl 0 rfl) ?_
  refine w_get (C := RX7) (T := TX7) (N := 34) S (fun _ h => List.mem_cons_of_mem _ (List.mem_append_right _ h)) hK hP 89 (by decide) (ceK89 _) rfl 8 (by decide) (hts _ (List.mem_of_getElem? (i := 2) rfl)) (v := .ref (g.1 97)) rfl dX7_emptyStore_8 ?_
  refine lv_iload_n S.1 S.2.1 dX7_emptyStore_11 rfl (lv_at hl 1 rfl) ?_
  refine w_iconst S dX7_emptyStore_12 (by decide) (fun k7 hk7 => ?_)
  refine w_iast S hK hg hP hS 97 (by decide) ceK97 (by omega) (by omega) dX7_emptyStore_13 (fun x8 H locs ex8 hP hS => ?_)
  have hI9 : Inv x8 := by rw [ex8]; exact hI3.up (show (0 : Int) ≤ _ by omega) (show _ ≤ (65 : Int) by omega)
  have hT10 : Same (TS) x x8 := by rw [ex8]; exact hT4.up (by unfold TS; omega)
  have hE11 : Rel x8 := by rw [ex8, ex2]; exact Rel.both hE (by omega)
  have u12 : (x8 89 (33)).toInt = (x2 89 (33)).toInt := by rw [ex8, up2_ne _ _ (by omega)]
  refine lv_aload_n S.1 S.2.1 dX7_emptyStore_14 rfl (lv_at hl 0 rfl) ?_
  refine lv_iload_n S.1 S.2.1 dX7_emptyStore_15 rfl (lv_at hl 1 rfl) ?_
  refine w_cVv (As := [.int po]) (rest := []) S hK hN hP hS hl 89 (by decide) (ceK89 _) rfl (c_X7_flowDown l D g hg x8 hI9 hE11 po (by omega)) (cwV 1 hts gX7_emptyStore_X7_flowDown rfl rfl rfl (by decide +kernel) ⟨Nat.le_of_ble_eq_true rfl, Nat.le_of_ble_eq_true rfl⟩) rfl rfl (Nat.le_of_ble_eq_true rfl) dX7_emptyStore_16 ⟨Nat.zero_le _, Nat.zero_le _⟩ (fun x13 H locs hq15 hP hS => ?_)
  obtain ⟨hI16, hT17, hE19, hf18⟩ := hq15
  have hT20 : Same (TS) x x13 := hT10.tr hT17 (fun c0 k0 h => by unfold TS at h; unfold TS; omega)
  have u21 : (x13 89 (33)).toInt = (x8 89 (33)).toInt := by rw [hT17 89 (33) (by unfold TS; omega)]
  exact w_vret S hr0 hlk hP hS dX7_emptyStore_19 (⟨hI16, hT20, hE19, by omega⟩)
set_option maxRecDepth 100000 in
set_option maxHeartbeats 4000000 in
theorem c_X7_emptyOut (l : Launch) (D : va_G) (g : GA) (hg : Inj g) (x : St) (hI : Inv x) (hE : Rel x) (po : Int32) (hy0 : 0 ≤ po.toInt ∧ po.toInt < 4) : Met l yX7_emptyOut wsX7_emptyOut ({ frames := 0, cells := 0, slots := 0, locals := 0 } : Room) (va_Pc [.ref (g.1 89), .int po] (WI D g x)) (va_Qv (fun x2 => Inv x2 ∧ Same (TM) x x2 ∧ Rel x2 ∧ (x2 89 33).toInt = (x 89 33).toInt) (WO D g) (AQ g)) 0 0 (AQ g) := by
  refine w_met (cc := cX7_emptyOut) (maxL := 3) (ret := none) (own := RX7) (by decide) rfl rfl (Nat.le_of_ble_eq_true rfl) (fun p e s m below meth co S hr0 hlk hK hN hP hS ls hl => ?_)
  have hts := S.2.2.2.2
  have hl : lv_has ls 3 [(0, .ref (g.1 89)), (1, .int po)] := hl
  have hT : Same (TM) x x := Same.rf
  have J9 : ∀ (n0 : Nat) (x_9 : St) (H : Heap) (locs : List Loc) (ls : Array Slot) (y9_2 : Int32), Inv x_9 → Same (TM) x x_9 → Rel x_9 → (0 ≤ y9_2.toInt) → (y9_2.toInt ≤ 3) → ((x_9 89 33).toInt = (x 89 33).toInt) → (3 - y9_2.toInt).toNat < n0 → va_P D vwCl (WL g x_9) H → va_S (AQ g) s.heap H locs → lv_has ls 3 [(0, .ref (g.1 89)), (1, .int po), (2, .int y9_2)] → W p l e ({ frames := 0, cells := 0, slots := 0, locals := 0 } : Room) s m ([.ref (g.1 89), .int po] : List Value).toArray below meth co H locs 0 0 (MQ below (va_Qv (fun x2 => Inv x2 ∧ Same (TM) x x2 ∧ Rel x2 ∧ (x2 89 33).toInt = (x 89 33).toInt) (WO D g) (AQ g)) ([.ref (g.1 89), .int po] : List Value).toArray s 0 0 (AQ g)) (F0 m 9 ls []) := by
    intro n0
    induction n0 with
    | zero => intro x_9 H locs ls y9_2 hI_9 hT_9 hE_9 hf9_0 hf9_1 hf9_2 hm_9 hP hS hl; exact absurd hm_9 (Nat.not_lt_zero _)
    | succ n0 ih9 =>
      intro x_9 H locs ls y9_2 hI_9 hT_9 hE_9 hf9_0 hf9_1 hf9_2 hm_9 hP hS hl
      refine lv_iload_n S.1 S.2.1 dX7_emptyOut_9 rfl (lv_at hl 2 rfl) ?_
      refine lv_aload_n S.1 S.2.1 dX7_emptyOut_10 rfl (lv_at hl 0 rfl) ?_
      refine w_get (C := RX7) (T := TX7) (N := 34) S (fun _ h => List.mem_cons_of_mem _ (List.mem_append_right _ h)) hK hP 89 (by decide) (ceK89 _) rfl 23 (by decide) (hts _ (List.mem_of_getElem? (i := 2) rfl)) (v := .ref (g.1 112)) rfl dX7_emptyOut_11 ?_
      refine lv_iload_n S.1 S.2.1 dX7_emptyOut_14 rfl (lv_at hl 1 rfl) ?_
      refine w_iald S hK hP 112 (by decide) ceK112 (by omega) (by omega) dX7_emptyOut_15 (fun v1 ev1 => ?_)
      have wv1 : v1.toInt = (x_9 112 po.toInt.toNat).toInt := by rw [ev1]
      have rv1 : (0 : Int) ≤ v1.toInt ∧ v1.toInt ≤ (3 : Int) := by rw [ev1]; exact hI_9 112 _
      refine w_icmp_ge (tgt := 60) S dX7_emptyOut_16 (by decide) (fun hb2 => ?_) (fun hb2 => ?_)
      · exact w_vret S hr0 hlk hP hS dX7_emptyOut_60 (⟨hI_9, hT_9, hE_9, by omega⟩)
      · refine lv_aload_n S.1 S.2.1 dX7_emptyOut_19 rfl (lv_at hl 0 rfl) ?_
        refine w_get (C := RX7) (T := TX7) (N := 34) S (fun _ h => List.mem_cons_of_mem _ (List.mem_append_right _ h)) hK hP 89 (by decide) (ceK89 _) rfl 27 (by decide) (hts _ (List.mem_of_getElem? (i := 3) rfl)) (v := .ref (g.1 116)) rfl dX7_emptyOut_20 ?_
        refine w_iconst S dX7_emptyOut_23 (by decide) (fun k3 hk3 => ?_)
        refine lv_iload_n S.1 S.2.1 dX7_emptyOut_24 rfl (lv_at hl 1 rfl) ?_
        refine w_imulk S dX7_emptyOut_25 3 hk3 (by omega) (by omega) (fun v4 hv4 => ?_)
        refine lv_iload_n S.1 S.2.1 dX7_emptyOut_26 rfl (lv_at hl 2 rfl) ?_
        refine w_iadd S dX7_emptyOut_27 (by omega) (by omega) (fun v5 hv5 => ?_)
        refine w_iald S hK hP 116 (by decide) ceK116 (by omega) (by omega) dX7_emptyOut_28 (fun v6 ev6 => ?_)
        have wv6 : v6.toInt = (x_9 116 v5.toInt.toNat).toInt := by rw [ev6]
        refine lv_aload_n S.1 S.2.1 dX7_emptyOut_29 rfl (lv_at hl 0 rfl) ?_
        refine w_get (C := RX7) (T := TX7) (N := 34) S (fun _ h => List.mem_cons_of_mem _ (List.mem_append_right _ h)) hK hP 89 (by decide) (ceK89 _) rfl 13 (by decide) (hts _ (List.mem_of_getElem? (i := 4) rfl)) (v := .ref (g.1 102)) rfl dX7_emptyOut_30 ?_
        refine lv_iload_n S.1 S.2.1 dX7_emptyOut_33 rfl (lv_at hl 1 rfl) ?_
        refine w_iald S hK hP 102 (by decide) ceK102 (by omega) (by omega) dX7_emptyOut_34 (fun v7 ev7 => ?_)
        have wv7 : v7.toInt = (x_9 102 po.toInt.toNat).toInt := by rw [ev7]
        have rv7 : (0 : Int) ≤ v7.toInt ∧ v7.toInt ≤ (8 : Int) := by rw [ev7]; exact hI_9 102 _
        refine w_icmp_le (tgt := 54) S dX7_emptyOut_35 (by decide) (fun hb8 => ?_) (fun hb8 => ?_)
        · refine w_iinc (lv' := [(0, .ref (g.1 89)), (1, .int po)]) S dX7_emptyOut_54 hl (k := 2) rfl (by decide) (by decide) (by omega) (by omega) (fun _ => rfl) (fun v9 ls hv9 hl => ?_)
          refine lv_goto (tgt := 9) S.1 S.2.1 dX7_emptyOut_57 (by decide) ?_
          exact ih9 _ _ _ _ v9 hI_9 hT_9 hE_9 (by omega) (by omega) (by omega) (by omega) hP hS (lv_sub hl [1, 2, 0] rfl)
        · refine lv_aload_n S.1 S.2.1 dX7_emptyOut_38 rfl (lv_at hl 0 rfl) ?_
          refine w_get (C := RX7) (T := TX7) (N := 34) S (fun _ h => List.mem_cons_of_mem _ (List.mem_append_right _ h)) hK hP 89 (by decide) (ceK89 _) rfl 27 (by decide) (hts _ (List.mem_of_getElem? (i := 3) rfl)) (v := .ref (g.1 116)) rfl dX7_emptyOut_39 ?_
          refine w_iconst S dX7_emptyOut_42 (by decide) (fun k10 hk10 => ?_)
          refine lv_iload_n S.1 S.2.1 dX7_emptyOut_43 rfl (lv_at hl 1 rfl) ?_
          refine w_imulk S dX7_emptyOut_44 3 hk10 (by omega) (by omega) (fun v11 hv11 => ?_)
          refine lv_iload_n S.1 S.2.1 dX7_emptyOut_45 rfl (lv_at hl 2 rfl) ?_
          refine w_iadd S dX7_emptyOut_46 (by omega) (by omega) (fun v12 hv12 => ?_)
          refine lv_aload_n S.1 S.2.1 dX7_emptyOut_47 rfl (lv_at hl 0 rfl) ?_
          refine w_get (C := RX7) (T := TX7) (N := 34) S (fun _ h => List.mem_cons_of_mem _ (List.mem_append_right _ h)) hK hP 89 (by decide) (ceK89 _) rfl 13 (by decide) (hts _ (List.mem_of_getElem? (i := 4) rfl)) (v := .ref (g.1 102)) rfl dX7_emptyOut_48 ?_
          refine lv_iload_n S.1 S.2.1 dX7_emptyOut_51 rfl (lv_at hl 1 rfl) ?_
          refine w_iald S hK hP 102 (by decide) ceK102 (by omega) (by omega) dX7_emptyOut_52 (fun v13 ev13 => ?_)
          have wv13 : v13.toInt = (x_9 102 po.toInt.toNat).toInt := by rw [ev13]
          have rv13 : (0 : Int) ≤ v13.toInt ∧ v13.toInt ≤ (8 : Int) := by rw [ev13]; exact hI_9 102 _
          refine w_iast S hK hg hP hS 116 (by decide) ceK116 (by omega) (by omega) dX7_emptyOut_53 (fun x14 H locs ex14 hP hS => ?_)
          have hI15 : Inv x14 := by rw [ex14]; exact hI_9.up (i_ge _) (i_le _)
          have hT16 : Same (TM) x x14 := by rw [ex14]; exact hT_9.up (by unfold TM TrM; omega)
          have hE17 : Rel x14 := by rw [ex14]; exact Rel.oth hE_9 (by decide) (by decide)
          have u18 : (x14 89 (33)).toInt = (x_9 89 (33)).toInt := by rw [ex14, up2_ne _ _ (by omega)]
          refine w_iinc (lv' := [(0, .ref (g.1 89)), (1, .int po)]) S dX7_emptyOut_54 hl (k := 2) rfl (by decide) (by decide) (by omega) (by omega) (fun _ => rfl) (fun v19 ls hv19 hl => ?_)
          refine lv_goto (tgt := 9) S.1 S.2.1 dX7_emptyOut_57 (by decide) ?_
          exact ih9 _ _ _ _ v19 hI15 hT16 hE17 (by omega) (by omega) (by omega) (by omega) hP hS (lv_sub hl [1, 2, 0] rfl)
  refine lv_aload_n S.1 S.2.1 dX7_emptyOut_0 rfl (lv_at hl 0 rfl) ?_
  refine w_get (C := RX7) (T := TX7) (N := 34) S (fun _ h => List.mem_cons_of_mem _ (List.mem_append_right _ h)) hK hP 89 (by decide) (ceK89 _) rfl 11 (by decide) (hts _ (List.mem_of_getElem? (i := 1) rfl)) (v := .ref (g.1 100)) rfl dX7_emptyOut_1 ?_
  refine lv_iload_n S.1 S.2.1 dX7_emptyOut_4 rfl (lv_at hl 1 rfl) ?_
  refine w_iconst S dX7_emptyOut_5 (by decide) (fun k20 hk20 => ?_)
  refine w_iast S hK hg hP hS 100 (by decide) ceK100 (by omega) (by omega) dX7_emptyOut_6 (fun x21 H locs ex21 hP hS => ?_)
  have hI22 : Inv x21 := by rw [ex21]; exact hI.up (show (0 : Int) ≤ _ by omega) (show _ ≤ (64 : Int) by omega)
  have hT23 : Same (TM) x x21 := by rw [ex21]; exact hT.up (by unfold TM TrM; omega)
  have hE24 : Rel x21 := by rw [ex21]; exact Rel.oth hE (by decide) (by decide)
  have u25 : (x21 89 (33)).toInt = (x 89 (33)).toInt := by rw [ex21, up2_ne _ _ (by omega)]
  refine w_iconst S dX7_emptyOut_7 (by decide) (fun k26 hk26 => ?_)
  refine lv_istore_n (lv' := [(2, .int k26), (0, .ref (g.1 89)), (1, .int po)]) S.1 S.2.1 dX7_emptyOut_8 rfl hl (by decide) rfl (fun ls hl => ?_)
  exact J9 _ _ _ _ _ k26 hI22 hT23 hE24 (by omega) (by omega) (by omega) (Nat.lt_succ_self _) hP hS (lv_sub hl [1, 2, 0] rfl)
set_option maxRecDepth 100000 in
set_option maxHeartbeats 4000000 in
theorem c_X7_erase (l : Launch) (D : va_G) (g : GA) (hg : Inj g) (x : St) (hI : Inv x) (hE : Rel x) (po : Int32) (hy0 : 0 ≤ po.toInt ∧ po.toInt < 4) (hy1 : (x 89 33).toInt = 0) (hy2 : (x 97 (po.toInt.toNat)).toInt < (x 96 (po.toInt.toNat)).toInt) : Met l yX7_erase wsX7_erase ({ frames := 3, cells := 0, slots := 0, locals := 66 } : Room) (va_Pc [.ref (g.1 89), .int po] (WI D g x)) (va_Qv (fun x2 => Inv x2 ∧ Same (TM) x x2 ∧ Rel x2 ∧ ((x2 89 33).toInt = 0 ∧ (x2 96 (po.toInt.toNat)).toInt = (x 96 (po.toInt.toNat)).toInt - 1 ∧ (x2 97 (po.toInt.toNat)).toInt = (x 97 (po.toInt.toNat)).toInt)) (WO D g) (AQ g)) 0 0 (AQ g) := by
  refine w_met (cc := cX7_erase) (maxL := 5) (ret := none) (own := RX7) (by decide) rfl rfl (Nat.le_of_ble_eq_true rfl) (fun p e s m below meth co S hr0 hlk hK hN hP hS ls hl => ?_)
  have hts := S.2.2.2.2
  have hl : lv_has ls 5 [(0, .ref (g.1 89)), (1, .int po)] := hl
  have hT : Same (TM) x x := Same.rf
  have g97_ : (0 : Int) ≤ (x 97 (po.toInt.toNat)).toInt := (hI 97 _).1
  have J41 : ∀ (n0 : Nat) (x_41 : St) (H : Heap) (locs : List Loc) (ls : Array Slot) (y41_3 : Int32) (y41_4 : Int32), Inv x_41 → Same (TM) x x_41 → Rel x_41 → (1 ≤ y41_3.toInt ∧ y41_3.toInt ≤ 2) → (0 ≤ y41_4.toInt) → (y41_4.toInt ≤ y41_3.toInt) → ((x_41 89 33).toInt = 3 * y41_4.toInt) → ((x_41 96 (po.toInt.toNat)).toInt = (x 96 (po.toInt.toNat)).toInt - 1) → ((x_41 97 (po.toInt.toNat)).toInt = (x 97 (po.toInt.toNat)).toInt) → (y41_3.toInt - y41_4.toInt).toNat < n0 → va_P D vwCl (WL g x_41) H → va_S (AQ g) s.heap H locs → lv_has ls 5 [(0, .ref (g.1 89)), (1, .int po), (3, .int y41_3), (4, .int y41_4)] → W p l e ({ frames := 3, cells := 0, slots := 0, locals := 66 } : Room) s m ([.ref (g.1 89), .int po] : List Value).toArray below meth co H locs 0 0 (MQ below (va_Qv (fun x2 => Inv x2 ∧ Same (TM) x x2 ∧ Rel x2 ∧ ((x2 89 33).toInt = 0 ∧ (x2 96 (po.toInt.toNat)).toInt = (x 96 (po.toInt.toNat)).toInt - 1 ∧ (x2 97 (po.toInt.toNat)).toInt = (x 97 (po.toInt.toNat)).toInt)) (WO D g) (AQ g)) ([.ref (g.1 89), .int po] : List Value).toArray s 0 0 (AQ g)) (F0 m 41 ls []) := by
    intro n0
    induction n0 with
    | zero => intro x_41 H locs ls y41_3 y41_4 hI_41 hT_41 hE_41 hf41_0 hf41_1 hf41_2 hf41_3 hf41_4 hf41_5 hm_41 hP hS hl; exact absurd hm_41 (Nat.not_lt_zero _)
    | succ n0 ih41 =>
      intro x_41 H locs ls y41_3 y41_4 hI_41 hT_41 hE_41 hf41_0 hf41_1 hf41_2 hf41_3 hf41_4 hf41_5 hm_41 hP hS hl
      refine lv_iload S.1 S.2.1 dX7_erase_41 (lv_at hl 3 rfl) ?_
      refine lv_iload_n S.1 S.2.1 dX7_erase_43 rfl (lv_at hl 2 rfl) ?_
      refine w_icmp_ge (tgt := 71) S dX7_erase_44 (by decide) (fun hb1 => ?_) (fun hb1 => ?_)
      · refine lv_aload_n S.1 S.2.1 dX7_erase_71 rfl (lv_at hl 0 rfl) ?_
        refine lv_iload_n S.1 S.2.1 dX7_erase_72 rfl (lv_at hl 1 rfl) ?_
        refine w_cVv (As := [.int po]) (rest := []) S hK hN hP hS hl 89 (by decide) (ceK89 _) rfl (c_X7_echo l D g hg x_41 hI_41 hE_41 po (by omega)) (cwV 1 hts gX7_erase_X7_echo rfl rfl rfl (by decide +kernel) ⟨Nat.le_of_ble_eq_true rfl, Nat.le_of_ble_eq_true rfl⟩) rfl rfl (Nat.le_of_ble_eq_true rfl) dX7_erase_73 ⟨Nat.zero_le _, Nat.zero_le _⟩ (fun x2 H locs hq4 hP hS => ?_)
        obtain ⟨hI5, hT6, hE8, hf7⟩ := hq4
        have hT9 : Same (TM) x x2 := hT_41.tr hT6 (fun c0 k0 h => by unfold TM TrM at h; unfold TE; omega)
        have u10 : (x2 96 (po.toInt.toNat)).toInt = (x_41 96 (po.toInt.toNat)).toInt := by rw [hT6 96 (po.toInt.toNat) (by unfold TE; omega)]
        have u11 : (x2 97 (po.toInt.toNat)).toInt = (x_41 97 (po.toInt.toNat)).toInt := by rw [hT6 97 (po.toInt.toNat) (by unfold TE; omega)]
        exact w_vret S hr0 hlk hP hS dX7_erase_76 (⟨hI5, hT9, hE8, by omega⟩)
      · refine lv_aload_n S.1 S.2.1 dX7_erase_47 rfl (lv_at hl 0 rfl) ?_
        refine w_bipush S dX7_erase_48 (by decide) (fun k12 hk12 => ?_)
        refine w_cVv (As := [.int k12]) (rest := []) S hK hN hP hS hl 89 (by decide) (ceK89 _) rfl (c_X7_add l D g hg x_41 hI_41 hE_41 k12 (by omega)) (cwV 1 hts gX7_erase_X7_add rfl rfl rfl (by decide +kernel) ⟨Nat.le_of_ble_eq_true rfl, Nat.le_of_ble_eq_true rfl⟩) rfl rfl (Nat.le_of_ble_eq_true rfl) dX7_erase_50 ⟨Nat.zero_le _, Nat.zero_le _⟩ (fun x13 H locs hq15 hP hS => ?_)
        obtain ⟨hI16, hT17, hE19, hf18⟩ := hq15
        have hT20 : Same (TM) x x13 := hT_41.tr hT17 (fun c0 k0 h => by unfold TM TrM at h; unfold TW; omega)
        have u21 : (x13 96 (po.toInt.toNat)).toInt = (x_41 96 (po.toInt.toNat)).toInt := by rw [hT17 96 (po.toInt.toNat) (by unfold TW; omega)]
        have u22 : (x13 97 (po.toInt.toNat)).toInt = (x_41 97 (po.toInt.toNat)).toInt := by rw [hT17 97 (po.toInt.toNat) (by unfold TW; omega)]
        refine lv_aload_n S.1 S.2.1 dX7_erase_53 rfl (lv_at hl 0 rfl) ?_
        refine w_bipush S dX7_erase_54 (by decide) (fun k23 hk23 => ?_)
        refine w_cVv (As := [.int k23]) (rest := []) S hK hN hP hS hl 89 (by decide) (ceK89 _) rfl (c_X7_add l D g hg x13 hI16 hE19 k23 (by omega)) (cwV 1 hts gX7_erase_X7_add rfl rfl rfl (by decide +kernel) ⟨Nat.le_of_ble_eq_true rfl, Nat.le_of_ble_eq_true rfl⟩) rfl rfl (Nat.le_of_ble_eq_true rfl) dX7_erase_56 ⟨Nat.zero_le _, Nat.zero_le _⟩ (fun x24 H locs hq26 hP hS => ?_)
        obtain ⟨hI27, hT28, hE30, hf29⟩ := hq26
        have hT31 : Same (TM) x x24 := hT20.tr hT28 (fun c0 k0 h => by unfold TM TrM at h; unfold TW; omega)
        have u32 : (x24 96 (po.toInt.toNat)).toInt = (x13 96 (po.toInt.toNat)).toInt := by rw [hT28 96 (po.toInt.toNat) (by unfold TW; omega)]
        have u33 : (x24 97 (po.toInt.toNat)).toInt = (x13 97 (po.toInt.toNat)).toInt := by rw [hT28 97 (po.toInt.toNat) (by unfold TW; omega)]
        refine lv_aload_n S.1 S.2.1 dX7_erase_59 rfl (lv_at hl 0 rfl) ?_
        refine w_bipush S dX7_erase_60 (by decide) (fun k34 hk34 => ?_)
        refine w_cVv (As := [.int k34]) (rest := []) S hK hN hP hS hl 89 (by decide) (ceK89 _) rfl (c_X7_add l D g hg x24 hI27 hE30 k34 (by omega)) (cwV 1 hts gX7_erase_X7_add rfl rfl rfl (by decide +kernel) ⟨Nat.le_of_ble_eq_true rfl, Nat.le_of_ble_eq_true rfl⟩) rfl rfl (Nat.le_of_ble_eq_true rfl) dX7_erase_62 ⟨Nat.zero_le _, Nat.zero_le _⟩ (fun x35 H locs hq37 hP hS => ?_)
        obtain ⟨hI38, hT39, hE41, hf40⟩ := hq37
        have hT42 : Same (TM) x x35 := hT31.tr hT39 (fun c0 k0 h => by unfold TM TrM at h; unfold TW; omega)
        have u43 : (x35 96 (po.toInt.toNat)).toInt = (x24 96 (po.toInt.toNat)).toInt := by rw [hT39 96 (po.toInt.toNat) (by unfold TW; omega)]
        have u44 : (x35 97 (po.toInt.toNat)).toInt = (x24 97 (po.toInt.toNat)).toInt := by rw [hT39 97 (po.toInt.toNat) (by unfold TW; omega)]
        refine w_iinc (lv' := [(0, .ref (g.1 89)), (1, .int po), (3, .int y41_3)]) S dX7_erase_65 hl (k := 3) rfl (by decide) (by decide) (by omega) (by omega) (fun _ => rfl) (fun v45 ls hv45 hl => ?_)
        refine lv_goto (tgt := 41) S.1 S.2.1 dX7_erase_68 (by decide) ?_
        exact ih41 _ _ _ _ y41_3 v45 hI38 hT42 hE41 (by omega) (by omega) (by omega) (by omega) (by omega) (by omega) (by omega) hP hS (lv_sub hl [1, 2, 3, 0] rfl)
  have J38 : ∀ (x_38 : St) (H : Heap) (locs : List Loc) (ls : Array Slot) (y38_3 : Int32), Inv x_38 → Same (TM) x x_38 → Rel x_38 → (1 ≤ y38_3.toInt ∧ y38_3.toInt ≤ 2) → ((x_38 89 33).toInt = 0) → ((x_38 96 (po.toInt.toNat)).toInt = (x 96 (po.toInt.toNat)).toInt - 1) → ((x_38 97 (po.toInt.toNat)).toInt = (x 97 (po.toInt.toNat)).toInt) → va_P D vwCl (WL g x_38) H → va_S (AQ g) s.heap H locs → lv_has ls 5 [(0, .ref (g.1 89)), (1, .int po), (3, .int y38_3)] → W p l e ({ frames := 3, cells := 0, slots := 0, locals := 66 } : Room) s m ([.ref (g.1 89), .int po] : List Value).toArray below meth co H locs 0 0 (MQ below (va_Qv (fun x2 => Inv x2 ∧ Same (TM) x x2 ∧ Rel x2 ∧ ((x2 89 33).toInt = 0 ∧ (x2 96 (po.toInt.toNat)).toInt = (x 96 (po.toInt.toNat)).toInt - 1 ∧ (x2 97 (po.toInt.toNat)).toInt = (x 97 (po.toInt.toNat)).toInt)) (WO D g) (AQ g)) ([.ref (g.1 89), .int po] : List Value).toArray s 0 0 (AQ g)) (F0 m 38 ls []) := by
    intro x_38 H locs ls y38_3 hI_38 hT_38 hE_38 hf38_0 hf38_1 hf38_2 hf38_3 hP hS hl
    refine w_iconst S dX7_erase_38 (by decide) (fun k46 hk46 => ?_)
    refine lv_istore (lv' := [(4, .int k46), (0, .ref (g.1 89)), (1, .int po), (3, .int y38_3)]) S.1 S.2.1 dX7_erase_39 hl (by decide) rfl (fun ls hl => ?_)
    exact J41 _ _ _ _ _ y38_3 k46 hI_38 hT_38 hE_38 (by omega) (by omega) (by omega) (by omega) (by omega) (by omega) (Nat.lt_succ_self _) hP hS (lv_sub hl [1, 2, 3, 0] rfl)
  refine lv_aload_n S.1 S.2.1 dX7_erase_0 rfl (lv_at hl 0 rfl) ?_
  refine w_get (C := RX7) (T := TX7) (N := 34) S (fun _ h => List.mem_cons_of_mem _ (List.mem_append_right _ h)) hK hP 89 (by decide) (ceK89 _) rfl 7 (by decide) (hts _ (List.mem_of_getElem? (i := 1) rfl)) (v := .ref (g.1 96)) rfl dX7_erase_1 ?_
  refine lv_iload_n S.1 S.2.1 dX7_erase_4 rfl (lv_at hl 1 rfl) ?_
  refine lv_dup2_11 S.1 S.2.1 dX7_erase_5 rfl rfl ?_
  refine w_iald S hK hP 96 (by decide) ceK96 (by omega) (by omega) dX7_erase_6 (fun v47 ev47 => ?_)
  have wv47 : v47.toInt = (x 96 po.toInt.toNat).toInt := by rw [ev47]
  have rv47 : (0 : Int) ≤ v47.toInt ∧ v47.toInt ≤ (65 : Int) := by rw [ev47]; exact hI 96 _
  refine w_iconst S dX7_erase_7 (by decide) (fun k48 hk48 => ?_)
  refine w_isub S dX7_erase_8 (by omega) (by omega) (fun v49 hv49 => ?_)
  refine w_iast S hK hg hP hS 96 (by decide) ceK96 (by omega) (by omega) dX7_erase_9 (fun x50 H locs ex50 hP hS => ?_)
  have hI51 : Inv x50 := by rw [ex50]; exact hI.up (show (0 : Int) ≤ _ by omega) (show _ ≤ (65 : Int) by omega)
  have hT52 : Same (TM) x x50 := by rw [ex50]; exact hT.up (by unfold TM TrM; omega)
  have ePhE53 := hE (po.toInt.toNat) (by omega)
  have hE53 : Rel x50 := by rw [ex50]; exact Rel.st hE (by omega)
  have u54 : (x50 89 (33)).toInt = (x 89 (33)).toInt := by rw [ex50, up2_ne _ _ (by omega)]
  have u55 : (x50 96 (po.toInt.toNat)).toInt = v49.toInt := by rw [ex50, up2_at]
  have u56 : (x50 97 (po.toInt.toNat)).toInt = (x 97 (po.toInt.toNat)).toInt := by rw [ex50, up2_ne _ _ (by omega)]
  refine lv_aload_n S.1 S.2.1 dX7_erase_10 rfl (lv_at hl 0 rfl) ?_
  refine w_get (C := RX7) (T := TX7) (N := 34) S (fun _ h => List.mem_cons_of_mem _ (List.mem_append_right _ h)) hK hP 89 (by decide) (ceK89 _) rfl 5 (by decide) (hts _ (List.mem_of_getElem? (i := 2) rfl)) (v := .ref (g.1 94)) rfl dX7_erase_11 ?_
  refine w_bipush S dX7_erase_14 (by decide) (fun k57 hk57 => ?_)
  refine lv_iload_n S.1 S.2.1 dX7_erase_16 rfl (lv_at hl 1 rfl) ?_
  refine w_imulk S dX7_erase_17 65 hk57 (by omega) (by omega) (fun v58 hv58 => ?_)
  refine lv_aload_n S.1 S.2.1 dX7_erase_18 rfl (lv_at hl 0 rfl) ?_
  refine w_get (C := RX7) (T := TX7) (N := 34) S (fun _ h => List.mem_cons_of_mem _ (List.mem_append_right _ h)) hK hP 89 (by decide) (ceK89 _) rfl 7 (by decide) (hts _ (List.mem_of_getElem? (i := 1) rfl)) (v := .ref (g.1 96)) rfl dX7_erase_19 ?_
  refine lv_iload_n S.1 S.2.1 dX7_erase_22 rfl (lv_at hl 1 rfl) ?_
  refine w_iald S hK hP 96 (by decide) ceK96 (by omega) (by omega) dX7_erase_23 (fun v59 ev59 => ?_)
  have wv59 : v59.toInt = (x50 96 po.toInt.toNat).toInt := by rw [ev59]
  have rv59 : (0 : Int) ≤ v59.toInt ∧ v59.toInt ≤ (65 : Int) := by rw [ev59]; exact hI51 96 _
  refine w_iadd S dX7_erase_24 (by omega) (by omega) (fun v60 hv60 => ?_)
  refine w_iald S hK hP 94 (by decide) ceK94 (by omega) (by omega) dX7_erase_25 (fun v61 ev61 => ?_)
  have wv61 : v61.toInt = (x50 94 v60.toInt.toNat).toInt := by rw [ev61]
  refine lv_istore_n (lv' := [(2, .int v61), (0, .ref (g.1 89)), (1, .int po)]) S.1 S.2.1 dX7_erase_26 rfl hl (by decide) rfl (fun ls hl => ?_)
  refine w_iconst S dX7_erase_27 (by decide) (fun k62 hk62 => ?_)
  refine lv_istore_n (lv' := [(3, .int k62), (2, .int v61), (0, .ref (g.1 89)), (1, .int po)]) S.1 S.2.1 dX7_erase_28 rfl hl (by decide) rfl (fun ls hl => ?_)
  refine lv_iload_n S.1 S.2.1 dX7_erase_29 rfl (lv_at hl 1 rfl) ?_
  refine w_cSi (As := [.int v61]) (rest := []) S hK hN hP hS hl (c_X7_isPlain l D g hg x50 hI51 v61) (va_cwS 1 hts gX7_erase_X7_isPlain rfl rfl rfl (by decide +kernel) ⟨Nat.le_of_ble_eq_true rfl, Nat.le_of_ble_eq_true rfl⟩) rfl rfl (Nat.le_of_ble_eq_true rfl) dX7_erase_30 ⟨Nat.zero_le _, Nat.zero_le _⟩ (fun r64 x63 H locs hq65 hP hS => ?_)
  obtain ⟨ex66, hf67⟩ := hq65
  rw [ex66] at hP
  refine w_if_eq (tgt := 38) S dX7_erase_33 (by decide) (fun hb68 => ?_) (fun hb68 => ?_)
  · exact J38 _ _ _ _ k62 hI51 hT52 hE53 (by omega) (by omega) (by omega) (by omega) hP hS (lv_sub hl [2, 3, 0] rfl)
  · refine w_iconst S dX7_erase_36 (by decide) (fun k69 hk69 => ?_)
    refine lv_istore_n (lv' := [(3, .int k69), (2, .int v61), (0, .ref (g.1 89)), (1, .int po)]) S.1 S.2.1 dX7_erase_37 rfl hl (by decide) rfl (fun ls hl => ?_)
    exact J38 _ _ _ _ k69 hI51 hT52 hE53 (by omega) (by omega) (by omega) (by omega) hP hS (lv_sub hl [2, 3, 0] rfl)
set_option maxRecDepth 100000 in
set_option maxHeartbeats 4000000 in
theorem c_X7_openLine (l : Launch) (D : va_G) (g : GA) (hg : Inj g) (x : St) (hI : Inv x) (po : Int32) (hy0 : 0 ≤ po.toInt ∧ po.toInt < 4) : Met l yX7_openLine wsX7_openLine ({ frames := 0, cells := 0, slots := 0, locals := 0 } : Room) (va_Pc [.ref (g.1 89), .int po] (WI D g x)) (va_Qi (fun r x2 => x2 = x ∧ ((r.toInt = 1 ∧ (x 97 (po.toInt.toNat)).toInt < (x 96 (po.toInt.toNat)).toInt) ∨ (r.toInt = 0 ∧ (x 96 (po.toInt.toNat)).toInt ≤ (x 97 (po.toInt.toNat)).toInt))) (WO D g) (AQ g)) 0 0 (AQ g) := by
  refine w_met (cc := cX7_openLine) (maxL := 2) (ret := (some .boolean)) (own := RX7) (by decide) rfl rfl (Nat.le_of_ble_eq_true rfl) (fun p e s m below meth co S hr0 hlk hK hN hP hS ls hl => ?_)
  have hts := S.2.2.2.2
  have hl : lv_has ls 2 [(0, .ref (g.1 89)), (1, .int po)] := hl
  refine lv_aload_n S.1 S.2.1 dX7_openLine_0 rfl (lv_at hl 0 rfl) ?_
  refine w_get (C := RX7) (T := TX7) (N := 34) S (fun _ h => List.mem_cons_of_mem _ (List.mem_append_right _ h)) hK hP 89 (by decide) (ceK89 _) rfl 7 (by decide) (hts _ (List.mem_of_getElem? (i := 1) rfl)) (v := .ref (g.1 96)) rfl dX7_openLine_1 ?_
  refine lv_iload_n S.1 S.2.1 dX7_openLine_4 rfl (lv_at hl 1 rfl) ?_
  refine w_iald S hK hP 96 (by decide) ceK96 (by omega) (by omega) dX7_openLine_5 (fun v1 ev1 => ?_)
  have wv1 : v1.toInt = (x 96 po.toInt.toNat).toInt := by rw [ev1]
  have rv1 : (0 : Int) ≤ v1.toInt ∧ v1.toInt ≤ (65 : Int) := by rw [ev1]; exact hI 96 _
  refine lv_aload_n S.1 S.2.1 dX7_openLine_6 rfl (lv_at hl 0 rfl) ?_
  refine w_get (C := RX7) (T := TX7) (N := 34) S (fun _ h => List.mem_cons_of_mem _ (List.mem_append_right _ h)) hK hP 89 (by decide) (ceK89 _) rfl 8 (by decide) (hts _ (List.mem_of_getElem? (i := 2) rfl)) (v := .ref (g.1 97)) rfl dX7_openLine_7 ?_
  refine lv_iload_n S.1 S.2.1 dX7_openLine_10 rfl (lv_at hl 1 rfl) ?_
  refine w_iald S hK hP 97 (by decide) ceK97 (by omega) (by omega) dX7_openLine_11 (fun v2 ev2 => ?_)
  have wv2 : v2.toInt = (x 97 po.toInt.toNat).toInt := by rw [ev2]
  have rv2 : (0 : Int) ≤ v2.toInt ∧ v2.toInt ≤ (65 : Int) := by rw [ev2]; exact hI 97 _
  refine w_icmp_le (tgt := 19) S dX7_openLine_12 (by decide) (fun hb3 => ?_) (fun hb3 => ?_)
  · refine w_iconst S dX7_openLine_19 (by decide) (fun k4 hk4 => ?_)
    exact w_zret S hr0 hlk hP hS dX7_openLine_20 (z01 (by omega) (by omega)) (⟨rfl, by omega⟩)
  · refine w_iconst S dX7_openLine_15 (by decide) (fun k5 hk5 => ?_)
    refine lv_goto (tgt := 20) S.1 S.2.1 dX7_openLine_16 (by decide) ?_
    exact w_zret S hr0 hlk hP hS dX7_openLine_20 (z01 (by omega) (by omega)) (⟨rfl, by omega⟩)
set_option maxRecDepth 100000 in
set_option maxHeartbeats 4000000 in
theorem c_X7_lastEntry (l : Launch) (D : va_G) (g : GA) (hg : Inj g) (x : St) (hI : Inv x) (po : Int32) (hy0 : 0 ≤ po.toInt ∧ po.toInt < 4) (hy1 : 1 ≤ (x 96 (po.toInt.toNat)).toInt) : Met l yX7_lastEntry wsX7_lastEntry ({ frames := 0, cells := 0, slots := 0, locals := 0 } : Room) (va_Pc [.ref (g.1 89), .int po] (WI D g x)) (va_Qi (fun r x2 => x2 = x ∧ True) (WO D g) (AQ g)) 0 0 (AQ g) := by
  refine w_met (cc := cX7_lastEntry) (maxL := 2) (ret := (some .int)) (own := RX7) (by decide) rfl rfl (Nat.le_of_ble_eq_true rfl) (fun p e s m below meth co S hr0 hlk hK hN hP hS ls hl => ?_)
  have hts := S.2.2.2.2
  have hl : lv_has ls 2 [(0, .ref (g.1 89)), (1, .int po)] := hl
  refine lv_aload_n S.1 S.2.1 dX7_lastEntry_0 rfl (lv_at hl 0 rfl) ?_
  refine w_get (C := RX7) (T := TX7) (N := 34) S (fun _ h => List.mem_cons_of_mem _ (List.mem_append_right _ h)) hK hP 89 (by decide) (ceK89 _) rfl 5 (by decide) (hts _ (List.mem_of_getElem? (i := 1) rfl)) (v := .ref (g.1 94)) rfl dX7_lastEntry_1 ?_
  refine w_bipush S dX7_lastEntry_4 (by decide) (fun k1 hk1 => ?_)
  refine lv_iload_n S.1 S.2.1 dX7_lastEntry_6 rfl (lv_at hl 1 rfl) ?_
  refine w_imulk S dX7_lastEntry_7 65 hk1 (by omega) (by omega) (fun v2 hv2 => ?_)
  refine lv_aload_n S.1 S.2.1 dX7_lastEntry_8 rfl (lv_at hl 0 rfl) ?_
  refine w_get (C := RX7) (T := TX7) (N := 34) S (fun _ h => List.mem_cons_of_mem _ (List.mem_append_right _ h)) hK hP 89 (by decide) (ceK89 _) rfl 7 (by decide) (hts _ (List.mem_of_getElem? (i := 2) rfl)) (v := .ref (g.1 96)) rfl dX7_lastEntry_9 ?_
  refine lv_iload_n S.1 S.2.1 dX7_lastEntry_12 rfl (lv_at hl 1 rfl) ?_
  refine w_iald S hK hP 96 (by decide) ceK96 (by omega) (by omega) dX7_lastEntry_13 (fun v3 ev3 => ?_)
  have wv3 : v3.toInt = (x 96 po.toInt.toNat).toInt := by rw [ev3]
  have rv3 : (0 : Int) ≤ v3.toInt ∧ v3.toInt ≤ (65 : Int) := by rw [ev3]; exact hI 96 _
  refine w_iadd S dX7_lastEntry_14 (by omega) (by omega) (fun v4 hv4 => ?_)
  refine w_iconst S dX7_lastEntry_15 (by decide) (fun k5 hk5 => ?_)
  refine w_isub S dX7_lastEntry_16 (by omega) (by omega) (fun v6 hv6 => ?_)
  refine w_iald S hK hP 94 (by decide) ceK94 (by omega) (by omega) dX7_lastEntry_17 (fun v7 ev7 => ?_)
  have wv7 : v7.toInt = (x 94 v6.toInt.toNat).toInt := by rw [ev7]
  exact w_iret S hr0 hlk hP hS dX7_lastEntry_18 (⟨rfl, trivial⟩)
set_option maxRecDepth 100000 in
set_option maxHeartbeats 4000000 in
theorem c_X7_lastBlank (l : Launch) (D : va_G) (g : GA) (hg : Inj g) (x : St) (hI : Inv x) (po : Int32) (hy0 : 0 ≤ po.toInt ∧ po.toInt < 4) : Met l yX7_lastBlank wsX7_lastBlank ({ frames := 1, cells := 0, slots := 0, locals := 21 } : Room) (va_Pc [.ref (g.1 89), .int po] (WI D g x)) (va_Qi (fun r x2 => x2 = x ∧ ((r.toInt = 1 → (x 97 (po.toInt.toNat)).toInt < (x 96 (po.toInt.toNat)).toInt) ∧ 0 ≤ r.toInt ∧ r.toInt ≤ 1)) (WO D g) (AQ g)) 0 0 (AQ g) := by
  refine w_met (cc := cX7_lastBlank) (maxL := 2) (ret := (some .boolean)) (own := RX7) (by decide) rfl rfl (Nat.le_of_ble_eq_true rfl) (fun p e s m below meth co S hr0 hlk hK hN hP hS ls hl => ?_)
  have hts := S.2.2.2.2
  have hl : lv_has ls 2 [(0, .ref (g.1 89)), (1, .int po)] := hl
  have g97_ : (0 : Int) ≤ (x 97 (po.toInt.toNat)).toInt := (hI 97 _).1
  refine lv_aload_n S.1 S.2.1 dX7_lastBlank_0 rfl (lv_at hl 0 rfl) ?_
  refine lv_iload_n S.1 S.2.1 dX7_lastBlank_1 rfl (lv_at hl 1 rfl) ?_
  refine w_cVi (As := [.int po]) (rest := []) S hK hN hP hS hl 89 (by decide) (ceK89 _) rfl (c_X7_openLine l D g hg x hI po (by omega)) (cwV 1 hts gX7_lastBlank_X7_openLine rfl rfl rfl (by decide +kernel) ⟨Nat.le_of_ble_eq_true rfl, Nat.le_of_ble_eq_true rfl⟩) rfl rfl (Nat.le_of_ble_eq_true rfl) dX7_lastBlank_2 ⟨Nat.zero_le _, Nat.zero_le _⟩ (fun r2 x1 H locs hq3 hP hS => ?_)
  obtain ⟨ex4, hf5⟩ := hq3
  rw [ex4] at hP
  refine w_if_eq (tgt := 32) S dX7_lastBlank_5 (by decide) (fun hb6 => ?_) (fun hb6 => ?_)
  · refine w_iconst S dX7_lastBlank_32 (by decide) (fun k7 hk7 => ?_)
    exact w_zret S hr0 hlk hP hS dX7_lastBlank_33 (z01 (by omega) (by omega)) (⟨rfl, by omega⟩)
  · refine lv_aload_n S.1 S.2.1 dX7_lastBlank_8 rfl (lv_at hl 0 rfl) ?_
    refine lv_iload_n S.1 S.2.1 dX7_lastBlank_9 rfl (lv_at hl 1 rfl) ?_
    refine w_cVi (As := [.int po]) (rest := []) S hK hN hP hS hl 89 (by decide) (ceK89 _) rfl (c_X7_lastEntry l D g hg x hI po (by omega) (by omega)) (cwV 1 hts gX7_lastBlank_X7_lastEntry rfl rfl rfl (by decide +kernel) ⟨Nat.le_of_ble_eq_true rfl, Nat.le_of_ble_eq_true rfl⟩) rfl rfl (Nat.le_of_ble_eq_true rfl) dX7_lastBlank_10 ⟨Nat.zero_le _, Nat.zero_le _⟩ (fun r9 x8 H locs hq10 hP hS => ?_)
    obtain ⟨ex11, hf12⟩ := hq10
    rw [ex11] at hP
    refine w_bipush S dX7_lastBlank_13 (by decide) (fun k13 hk13 => ?_)
    refine w_icmp_eq (tgt := 28) S dX7_lastBlank_15 (by decide) (fun hb14 => ?_) (fun hb14 => ?_)
    · refine w_iconst S dX7_lastBlank_28 (by decide) (fun k15 hk15 => ?_)
      refine lv_goto (tgt := 33) S.1 S.2.1 dX7_lastBlank_29 (by decide) ?_
      exact w_zret S hr0 hlk hP hS dX7_lastBlank_33 (z01 (by omega) (by omega)) (⟨rfl, by omega⟩)
    · refine lv_aload_n S.1 S.2.1 dX7_lastBlank_18 rfl (lv_at hl 0 rfl) ?_
      refine lv_iload_n S.1 S.2.1 dX7_lastBlank_19 rfl (lv_at hl 1 rfl) ?_
      refine w_cVi (As := [.int po]) (rest := []) S hK hN hP hS hl 89 (by decide) (ceK89 _) rfl (c_X7_lastEntry l D g hg x hI po (by omega) (by omega)) (cwV 1 hts gX7_lastBlank_X7_lastEntry rfl rfl rfl (by decide +kernel) ⟨Nat.le_of_ble_eq_true rfl, Nat.le_of_ble_eq_true rfl⟩) rfl rfl (Nat.le_of_ble_eq_true rfl) dX7_lastBlank_20 ⟨Nat.zero_le _, Nat.zero_le _⟩ (fun r17 x16 H locs hq18 hP hS => ?_)
      obtain ⟨ex19, hf20⟩ := hq18
      rw [ex19] at hP
      refine w_bipush S dX7_lastBlank_23 (by decide) (fun k21 hk21 => ?_)
      refine w_icmp_ne (tgt := 32) S dX7_lastBlank_25 (by decide) (fun hb22 => ?_) (fun hb22 => ?_)
      · refine w_iconst S dX7_lastBlank_32 (by decide) (fun k23 hk23 => ?_)
        exact w_zret S hr0 hlk hP hS dX7_lastBlank_33 (z01 (by omega) (by omega)) (⟨rfl, by omega⟩)
      · refine w_iconst S dX7_lastBlank_28 (by decide) (fun k24 hk24 => ?_)
        refine lv_goto (tgt := 33) S.1 S.2.1 dX7_lastBlank_29 (by decide) ?_
        exact w_zret S hr0 hlk hP hS dX7_lastBlank_33 (z01 (by omega) (by omega)) (⟨rfl, by omega⟩)
set_option maxRecDepth 100000 in
set_option maxHeartbeats 4000000 in
theorem c_X7_editing (l : Launch) (D : va_G) (g : GA) (hg : Inj g) (x : St) (hI : Inv x) (hE : Rel x) (po : Int32) (b : Int32) (hy0 : 0 ≤ po.toInt ∧ po.toInt < 4) (hy1 : (x 89 33).toInt = 0) : Met l yX7_editing wsX7_editing ({ frames := 4, cells := 0, slots := 0, locals := 90 } : Room) (va_Pc [.ref (g.1 89), .int po, .int b] (WI D g x)) (va_Qv (fun x2 => Inv x2 ∧ Same (TM) x x2 ∧ Rel x2 ∧ (x2 89 33).toInt = 0) (WO D g) (AQ g)) 0 0 (AQ g) := by
  refine w_met (cc := cX7_editing) (maxL := 3) (ret := none) (own := RX7) (by decide) rfl rfl (Nat.le_of_ble_eq_true rfl) (fun p e s m below meth co S hr0 hlk hK hN hP hS ls hl => ?_)
  have hts := S.2.2.2.2
  have hl : lv_has ls 3 [(0, .ref (g.1 89)), (1, .int po), (2, .int b)] := hl
  have hT : Same (TM) x x := Same.rf
  have J94 : ∀ (x_94 : St) (H : Heap) (locs : List Loc) (ls : Array Slot), Inv x_94 → Same (TM) x x_94 → Rel x_94 → ((x_94 89 33).toInt = 0) → va_P D vwCl (WL g x_94) H → va_S (AQ g) s.heap H locs → lv_has ls 3 [(0, .ref (g.1 89)), (1, .int po)] → W p l e ({ frames := 4, cells := 0, slots := 0, locals := 90 } : Room) s m ([.ref (g.1 89), .int po, .int b] : List Value).toArray below meth co H locs 0 0 (MQ below (va_Qv (fun x2 => Inv x2 ∧ Same (TM) x x2 ∧ Rel x2 ∧ (x2 89 33).toInt = 0) (WO D g) (AQ g)) ([.ref (g.1 89), .int po, .int b] : List Value).toArray s 0 0 (AQ g)) (F0 m 94 ls []) := by
    intro x_94 H locs ls hI_94 hT_94 hE_94 hf94_0 hP hS hl
    refine lv_aload_n S.1 S.2.1 dX7_editing_94 rfl (lv_at hl 0 rfl) ?_
    refine lv_iload_n S.1 S.2.1 dX7_editing_95 rfl (lv_at hl 1 rfl) ?_
    refine w_cVv (As := [.int po]) (rest := []) S hK hN hP hS hl 89 (by decide) (ceK89 _) rfl (c_X7_flowDown l D g hg x_94 hI_94 hE_94 po (by omega)) (cwV 1 hts gX7_editing_X7_flowDown rfl rfl rfl (by decide +kernel) ⟨Nat.le_of_ble_eq_true rfl, Nat.le_of_ble_eq_true rfl⟩) rfl rfl (Nat.le_of_ble_eq_true rfl) dX7_editing_96 ⟨Nat.zero_le _, Nat.zero_le _⟩ (fun x1 H locs hq3 hP hS => ?_)
    obtain ⟨hI4, hT5, hE7, hf6⟩ := hq3
    have hT8 : Same (TM) x x1 := hT_94.tr hT5 (fun c0 k0 h => by unfold TM TrM at h; unfold TS; omega)
    have u9 : (x1 89 (33)).toInt = (x_94 89 (33)).toInt := by rw [hT5 89 (33) (by unfold TS; omega)]
    exact w_vret S hr0 hlk hP hS dX7_editing_99 (⟨hI4, hT8, hE7, by omega⟩)
  have J78 : ∀ (n0 : Nat) (x_78 : St) (H : Heap) (locs : List Loc) (ls : Array Slot), Inv x_78 → Same (TM) x x_78 → Rel x_78 → ((x_78 89 33).toInt = 0) → (x_78 96 (po.toInt.toNat)).toInt.toNat < n0 → va_P D vwCl (WL g x_78) H → va_S (AQ g) s.heap H locs → lv_has ls 3 [(0, .ref (g.1 89)), (1, .int po), (2, .int b)] → W p l e ({ frames := 4, cells := 0, slots := 0, locals := 90 } : Room) s m ([.ref (g.1 89), .int po, .int b] : List Value).toArray below meth co H locs 0 0 (MQ below (va_Qv (fun x2 => Inv x2 ∧ Same (TM) x x2 ∧ Rel x2 ∧ (x2 89 33).toInt = 0) (WO D g) (AQ g)) ([.ref (g.1 89), .int po, .int b] : List Value).toArray s 0 0 (AQ g)) (F0 m 78 ls []) := by
    intro n0
    induction n0 with
    | zero => intro x_78 H locs ls hI_78 hT_78 hE_78 hf78_0 hm_78 hP hS hl; exact absurd hm_78 (Nat.not_lt_zero _)
    | succ n0 ih78 =>
      intro x_78 H locs ls hI_78 hT_78 hE_78 hf78_0 hm_78 hP hS hl
      have g97_ : (0 : Int) ≤ (x_78 97 (po.toInt.toNat)).toInt := (hI_78 97 _).1
      refine lv_aload_n S.1 S.2.1 dX7_editing_78 rfl (lv_at hl 0 rfl) ?_
      refine lv_iload_n S.1 S.2.1 dX7_editing_79 rfl (lv_at hl 1 rfl) ?_
      refine w_cVi (As := [.int po]) (rest := []) S hK hN hP hS hl 89 (by decide) (ceK89 _) rfl (c_X7_openLine l D g hg x_78 hI_78 po (by omega)) (cwV 1 hts gX7_editing_X7_openLine rfl rfl rfl (by decide +kernel) ⟨Nat.le_of_ble_eq_true rfl, Nat.le_of_ble_eq_true rfl⟩) rfl rfl (Nat.le_of_ble_eq_true rfl) dX7_editing_80 ⟨Nat.zero_le _, Nat.zero_le _⟩ (fun r11 x10 H locs hq12 hP hS => ?_)
      obtain ⟨ex13, hf14⟩ := hq12
      rw [ex13] at hP
      refine w_if_eq (tgt := 94) S dX7_editing_83 (by decide) (fun hb15 => ?_) (fun hb15 => ?_)
      · exact J94 _ _ _ _ hI_78 hT_78 hE_78 (by omega) hP hS (lv_sub hl [0, 1] rfl)
      · refine lv_aload_n S.1 S.2.1 dX7_editing_86 rfl (lv_at hl 0 rfl) ?_
        refine lv_iload_n S.1 S.2.1 dX7_editing_87 rfl (lv_at hl 1 rfl) ?_
        refine w_cVv (As := [.int po]) (rest := []) S hK hN hP hS hl 89 (by decide) (ceK89 _) rfl (c_X7_erase l D g hg x_78 hI_78 hE_78 po (by omega) (by omega) (by omega)) (cwV 1 hts gX7_editing_X7_erase rfl rfl rfl (by decide +kernel) ⟨Nat.le_of_ble_eq_true rfl, Nat.le_of_ble_eq_true rfl⟩) rfl rfl (Nat.le_of_ble_eq_true rfl) dX7_editing_88 ⟨Nat.zero_le _, Nat.zero_le _⟩ (fun x16 H locs hq18 hP hS => ?_)
        obtain ⟨hI19, hT20, hE22, hf21⟩ := hq18
        have hT23 : Same (TM) x x16 := hT_78.tr hT20 (fun _ _ h => h)
        refine lv_goto (tgt := 78) S.1 S.2.1 dX7_editing_91 (by decide) ?_
        exact ih78 _ _ _ _ hI19 hT23 hE22 (by omega) (by omega) hP hS (lv_sub hl [0, 1, 2] rfl)
  have J54 : ∀ (n0 : Nat) (x_54 : St) (H : Heap) (locs : List Loc) (ls : Array Slot), Inv x_54 → Same (TM) x x_54 → Rel x_54 → ((x_54 89 33).toInt = 0) → (x_54 96 (po.toInt.toNat)).toInt.toNat < n0 → va_P D vwCl (WL g x_54) H → va_S (AQ g) s.heap H locs → lv_has ls 3 [(0, .ref (g.1 89)), (1, .int po), (2, .int b)] → W p l e ({ frames := 4, cells := 0, slots := 0, locals := 90 } : Room) s m ([.ref (g.1 89), .int po, .int b] : List Value).toArray below meth co H locs 0 0 (MQ below (va_Qv (fun x2 => Inv x2 ∧ Same (TM) x x2 ∧ Rel x2 ∧ (x2 89 33).toInt = 0) (WO D g) (AQ g)) ([.ref (g.1 89), .int po, .int b] : List Value).toArray s 0 0 (AQ g)) (F0 m 54 ls []) := by
    intro n0
    induction n0 with
    | zero => intro x_54 H locs ls hI_54 hT_54 hE_54 hf54_0 hm_54 hP hS hl; exact absurd hm_54 (Nat.not_lt_zero _)
    | succ n0 ih54 =>
      intro x_54 H locs ls hI_54 hT_54 hE_54 hf54_0 hm_54 hP hS hl
      have g97_ : (0 : Int) ≤ (x_54 97 (po.toInt.toNat)).toInt := (hI_54 97 _).1
      refine lv_aload_n S.1 S.2.1 dX7_editing_54 rfl (lv_at hl 0 rfl) ?_
      refine lv_iload_n S.1 S.2.1 dX7_editing_55 rfl (lv_at hl 1 rfl) ?_
      refine w_cVi (As := [.int po]) (rest := []) S hK hN hP hS hl 89 (by decide) (ceK89 _) rfl (c_X7_openLine l D g hg x_54 hI_54 po (by omega)) (cwV 1 hts gX7_editing_X7_openLine rfl rfl rfl (by decide +kernel) ⟨Nat.le_of_ble_eq_true rfl, Nat.le_of_ble_eq_true rfl⟩) rfl rfl (Nat.le_of_ble_eq_true rfl) dX7_editing_56 ⟨Nat.zero_le _, Nat.zero_le _⟩ (fun r25 x24 H locs hq26 hP hS => ?_)
      obtain ⟨ex27, hf28⟩ := hq26
      rw [ex27] at hP
      refine w_if_eq (tgt := 94) S dX7_editing_59 (by decide) (fun hb29 => ?_) (fun hb29 => ?_)
      · exact J94 _ _ _ _ hI_54 hT_54 hE_54 (by omega) hP hS (lv_sub hl [0, 1] rfl)
      · refine lv_aload_n S.1 S.2.1 dX7_editing_62 rfl (lv_at hl 0 rfl) ?_
        refine lv_iload_n S.1 S.2.1 dX7_editing_63 rfl (lv_at hl 1 rfl) ?_
        refine w_cVi (As := [.int po]) (rest := []) S hK hN hP hS hl 89 (by decide) (ceK89 _) rfl (c_X7_lastBlank l D g hg x_54 hI_54 po (by omega)) (cwV 1 hts gX7_editing_X7_lastBlank rfl rfl rfl (by decide +kernel) ⟨Nat.le_of_ble_eq_true rfl, Nat.le_of_ble_eq_true rfl⟩) rfl rfl (Nat.le_of_ble_eq_true rfl) dX7_editing_64 ⟨Nat.zero_le _, Nat.zero_le _⟩ (fun r31 x30 H locs hq32 hP hS => ?_)
        obtain ⟨ex33, hf34⟩ := hq32
        rw [ex33] at hP
        refine w_if_ne (tgt := 94) S dX7_editing_67 (by decide) (fun hb35 => ?_) (fun hb35 => ?_)
        · exact J94 _ _ _ _ hI_54 hT_54 hE_54 (by omega) hP hS (lv_sub hl [0, 1] rfl)
        · refine lv_aload_n S.1 S.2.1 dX7_editing_70 rfl (lv_at hl 0 rfl) ?_
          refine lv_iload_n S.1 S.2.1 dX7_editing_71 rfl (lv_at hl 1 rfl) ?_
          refine w_cVv (As := [.int po]) (rest := []) S hK hN hP hS hl 89 (by decide) (ceK89 _) rfl (c_X7_erase l D g hg x_54 hI_54 hE_54 po (by omega) (by omega) (by omega)) (cwV 1 hts gX7_editing_X7_erase rfl rfl rfl (by decide +kernel) ⟨Nat.le_of_ble_eq_true rfl, Nat.le_of_ble_eq_true rfl⟩) rfl rfl (Nat.le_of_ble_eq_true rfl) dX7_editing_72 ⟨Nat.zero_le _, Nat.zero_le _⟩ (fun x36 H locs hq38 hP hS => ?_)
          obtain ⟨hI39, hT40, hE42, hf41⟩ := hq38
          have hT43 : Same (TM) x x36 := hT_54.tr hT40 (fun _ _ h => h)
          refine lv_goto (tgt := 54) S.1 S.2.1 dX7_editing_75 (by decide) ?_
          exact ih54 _ _ _ _ hI39 hT43 hE42 (by omega) (by omega) hP hS (lv_sub hl [0, 1, 2] rfl)
  have J38 : ∀ (n0 : Nat) (x_38 : St) (H : Heap) (locs : List Loc) (ls : Array Slot), Inv x_38 → Same (TM) x x_38 → Rel x_38 → ((x_38 89 33).toInt = 0) → (x_38 96 (po.toInt.toNat)).toInt.toNat < n0 → va_P D vwCl (WL g x_38) H → va_S (AQ g) s.heap H locs → lv_has ls 3 [(0, .ref (g.1 89)), (1, .int po), (2, .int b)] → W p l e ({ frames := 4, cells := 0, slots := 0, locals := 90 } : Room) s m ([.ref (g.1 89), .int po, .int b] : List Value).toArray below meth co H locs 0 0 (MQ below (va_Qv (fun x2 => Inv x2 ∧ Same (TM) x x2 ∧ Rel x2 ∧ (x2 89 33).toInt = 0) (WO D g) (AQ g)) ([.ref (g.1 89), .int po, .int b] : List Value).toArray s 0 0 (AQ g)) (F0 m 38 ls []) := by
    intro n0
    induction n0 with
    | zero => intro x_38 H locs ls hI_38 hT_38 hE_38 hf38_0 hm_38 hP hS hl; exact absurd hm_38 (Nat.not_lt_zero _)
    | succ n0 ih38 =>
      intro x_38 H locs ls hI_38 hT_38 hE_38 hf38_0 hm_38 hP hS hl
      have g97_ : (0 : Int) ≤ (x_38 97 (po.toInt.toNat)).toInt := (hI_38 97 _).1
      refine lv_aload_n S.1 S.2.1 dX7_editing_38 rfl (lv_at hl 0 rfl) ?_
      refine lv_iload_n S.1 S.2.1 dX7_editing_39 rfl (lv_at hl 1 rfl) ?_
      refine w_cVi (As := [.int po]) (rest := []) S hK hN hP hS hl 89 (by decide) (ceK89 _) rfl (c_X7_lastBlank l D g hg x_38 hI_38 po (by omega)) (cwV 1 hts gX7_editing_X7_lastBlank rfl rfl rfl (by decide +kernel) ⟨Nat.le_of_ble_eq_true rfl, Nat.le_of_ble_eq_true rfl⟩) rfl rfl (Nat.le_of_ble_eq_true rfl) dX7_editing_40 ⟨Nat.zero_le _, Nat.zero_le _⟩ (fun r45 x44 H locs hq46 hP hS => ?_)
      obtain ⟨ex47, hf48⟩ := hq46
      rw [ex47] at hP
      refine w_if_eq (tgt := 54) S dX7_editing_43 (by decide) (fun hb49 => ?_) (fun hb49 => ?_)
      · exact J54 _ _ _ _ _ hI_38 hT_38 hE_38 (by omega) (Nat.lt_succ_self _) hP hS (lv_sub hl [0, 1, 2] rfl)
      · refine lv_aload_n S.1 S.2.1 dX7_editing_46 rfl (lv_at hl 0 rfl) ?_
        refine lv_iload_n S.1 S.2.1 dX7_editing_47 rfl (lv_at hl 1 rfl) ?_
        refine w_cVv (As := [.int po]) (rest := []) S hK hN hP hS hl 89 (by decide) (ceK89 _) rfl (c_X7_erase l D g hg x_38 hI_38 hE_38 po (by omega) (by omega) (by omega)) (cwV 1 hts gX7_editing_X7_erase rfl rfl rfl (by decide +kernel) ⟨Nat.le_of_ble_eq_true rfl, Nat.le_of_ble_eq_true rfl⟩) rfl rfl (Nat.le_of_ble_eq_true rfl) dX7_editing_48 ⟨Nat.zero_le _, Nat.zero_le _⟩ (fun x50 H locs hq52 hP hS => ?_)
        obtain ⟨hI53, hT54, hE56, hf55⟩ := hq52
        have hT57 : Same (TM) x x50 := hT_38.tr hT54 (fun _ _ h => h)
        refine lv_goto (tgt := 38) S.1 S.2.1 dX7_editing_51 (by decide) ?_
        exact ih38 _ _ _ _ hI53 hT57 hE56 (by omega) (by omega) hP hS (lv_sub hl [0, 1, 2] rfl)
  refine lv_iload_n S.1 S.2.1 dX7_editing_0 rfl (lv_at hl 2 rfl) ?_
  refine lv_aload_n S.1 S.2.1 dX7_editing_1 rfl (lv_at hl 0 rfl) ?_
  refine lv_iload_n S.1 S.2.1 dX7_editing_2 rfl (lv_at hl 1 rfl) ?_
  refine w_bipush S dX7_editing_3 (by decide) (fun k58 hk58 => ?_)
  refine w_cVi (As := [.int po, .int k58]) (rest := [.int b]) S hK hN hP hS hl 89 (by decide) (ceK89 _) rfl (c_X7_mode1 l D g hg x hI po k58 (by omega) (by omega)) (cwV 2 hts gX7_editing_X7_mode1 rfl rfl rfl (by decide +kernel) ⟨Nat.le_of_ble_eq_true rfl, Nat.le_of_ble_eq_true rfl⟩) rfl rfl (Nat.le_of_ble_eq_true rfl) dX7_editing_5 ⟨Nat.zero_le _, Nat.zero_le _⟩ (fun r60 x59 H locs hq61 hP hS => ?_)
  obtain ⟨ex62, hf63⟩ := hq61
  rw [ex62] at hP
  refine w_icmp_ne (tgt := 27) S dX7_editing_8 (by decide) (fun hb64 => ?_) (fun hb64 => ?_)
  · refine lv_iload_n S.1 S.2.1 dX7_editing_27 rfl (lv_at hl 2 rfl) ?_
    refine lv_aload_n S.1 S.2.1 dX7_editing_28 rfl (lv_at hl 0 rfl) ?_
    refine lv_iload_n S.1 S.2.1 dX7_editing_29 rfl (lv_at hl 1 rfl) ?_
    refine w_bipush S dX7_editing_30 (by decide) (fun k65 hk65 => ?_)
    refine w_cVi (As := [.int po, .int k65]) (rest := [.int b]) S hK hN hP hS hl 89 (by decide) (ceK89 _) rfl (c_X7_mode1 l D g hg x hI po k65 (by omega) (by omega)) (cwV 2 hts gX7_editing_X7_mode1 rfl rfl rfl (by decide +kernel) ⟨Nat.le_of_ble_eq_true rfl, Nat.le_of_ble_eq_true rfl⟩) rfl rfl (Nat.le_of_ble_eq_true rfl) dX7_editing_32 ⟨Nat.zero_le _, Nat.zero_le _⟩ (fun r67 x66 H locs hq68 hP hS => ?_)
    obtain ⟨ex69, hf70⟩ := hq68
    rw [ex69] at hP
    refine w_icmp_ne (tgt := 78) S dX7_editing_35 (by decide) (fun hb71 => ?_) (fun hb71 => ?_)
    · exact J78 _ _ _ _ _ hI hT hE (by omega) (Nat.lt_succ_self _) hP hS (lv_sub hl [0, 1, 2] rfl)
    · exact J38 _ _ _ _ _ hI hT hE (by omega) (Nat.lt_succ_self _) hP hS (lv_sub hl [0, 1, 2] rfl)
  · refine lv_aload_n S.1 S.2.1 dX7_editing_11 rfl (lv_at hl 0 rfl) ?_
    refine lv_iload_n S.1 S.2.1 dX7_editing_12 rfl (lv_at hl 1 rfl) ?_
    refine w_cVi (As := [.int po]) (rest := []) S hK hN hP hS hl 89 (by decide) (ceK89 _) rfl (c_X7_openLine l D g hg x hI po (by omega)) (cwV 1 hts gX7_editing_X7_openLine rfl rfl rfl (by decide +kernel) ⟨Nat.le_of_ble_eq_true rfl, Nat.le_of_ble_eq_true rfl⟩) rfl rfl (Nat.le_of_ble_eq_true rfl) dX7_editing_13 ⟨Nat.zero_le _, Nat.zero_le _⟩ (fun r73 x72 H locs hq74 hP hS => ?_)
    obtain ⟨ex75, hf76⟩ := hq74
    rw [ex75] at hP
    refine w_if_eq (tgt := 94) S dX7_editing_16 (by decide) (fun hb77 => ?_) (fun hb77 => ?_)
    · exact J94 _ _ _ _ hI hT hE (by omega) hP hS (lv_sub hl [0, 1] rfl)
    · refine lv_aload_n S.1 S.2.1 dX7_editing_19 rfl (lv_at hl 0 rfl) ?_
      refine lv_iload_n S.1 S.2.1 dX7_editing_20 rfl (lv_at hl 1 rfl) ?_
      refine w_cVv (As := [.int po]) (rest := []) S hK hN hP hS hl 89 (by decide) (ceK89 _) rfl (c_X7_erase l D g hg x hI hE po (by omega) (by omega) (by omega)) (cwV 1 hts gX7_editing_X7_erase rfl rfl rfl (by decide +kernel) ⟨Nat.le_of_ble_eq_true rfl, Nat.le_of_ble_eq_true rfl⟩) rfl rfl (Nat.le_of_ble_eq_true rfl) dX7_editing_21 ⟨Nat.zero_le _, Nat.zero_le _⟩ (fun x78 H locs hq80 hP hS => ?_)
      obtain ⟨hI81, hT82, hE84, hf83⟩ := hq80
      have hT85 : Same (TM) x x78 := hT.tr hT82 (fun _ _ h => h)
      refine lv_goto (tgt := 94) S.1 S.2.1 dX7_editing_24 (by decide) ?_
      exact J94 _ _ _ _ hI81 hT85 hE84 (by omega) hP hS (lv_sub hl [0, 1] rfl)
set_option maxRecDepth 100000 in
set_option maxHeartbeats 4000000 in
theorem c_X7_reprint (l : Launch) (D : va_G) (g : GA) (hg : Inj g) (x : St) (hI : Inv x) (hE : Rel x) (po : Int32) (b : Int32) (hy0 : 0 ≤ po.toInt ∧ po.toInt < 4) (hy1 : (x 89 33).toInt = 0) : Met l yX7_reprint wsX7_reprint ({ frames := 3, cells := 0, slots := 0, locals := 66 } : Room) (va_Pc [.ref (g.1 89), .int po, .int b] (WI D g x)) (va_Qv (fun x2 => Inv x2 ∧ Same (TM) x x2 ∧ Rel x2 ∧ (x2 89 33).toInt = 0) (WO D g) (AQ g)) 0 0 (AQ g) := by
  refine w_met (cc := cX7_reprint) (maxL := 4) (ret := none) (own := RX7) (by decide) rfl rfl (Nat.le_of_ble_eq_true rfl) (fun p e s m below meth co S hr0 hlk hK hN hP hS ls hl => ?_)
  have hts := S.2.2.2.2
  have hl : lv_has ls 4 [(0, .ref (g.1 89)), (1, .int po), (2, .int b)] := hl
  have hT : Same (TM) x x := Same.rf
  have J24 : ∀ (n0 : Nat) (x_24 : St) (H : Heap) (locs : List Loc) (ls : Array Slot) (y24_3 : Int32), Inv x_24 → Same (TM) x x_24 → Rel x_24 → (0 ≤ y24_3.toInt) → (y24_3.toInt ≤ 65) → ((x_24 89 33).toInt ≤ 4 + 2 * y24_3.toInt) → (65 - y24_3.toInt).toNat < n0 → va_P D vwCl (WL g x_24) H → va_S (AQ g) s.heap H locs → lv_has ls 4 [(0, .ref (g.1 89)), (1, .int po), (2, .int b), (3, .int y24_3)] → W p l e ({ frames := 3, cells := 0, slots := 0, locals := 66 } : Room) s m ([.ref (g.1 89), .int po, .int b] : List Value).toArray below meth co H locs 0 0 (MQ below (va_Qv (fun x2 => Inv x2 ∧ Same (TM) x x2 ∧ Rel x2 ∧ (x2 89 33).toInt = 0) (WO D g) (AQ g)) ([.ref (g.1 89), .int po, .int b] : List Value).toArray s 0 0 (AQ g)) (F0 m 24 ls []) := by
    intro n0
    induction n0 with
    | zero => intro x_24 H locs ls y24_3 hI_24 hT_24 hE_24 hf24_0 hf24_1 hf24_2 hm_24 hP hS hl; exact absurd hm_24 (Nat.not_lt_zero _)
    | succ n0 ih24 =>
      intro x_24 H locs ls y24_3 hI_24 hT_24 hE_24 hf24_0 hf24_1 hf24_2 hm_24 hP hS hl
      refine lv_iload_n S.1 S.2.1 dX7_reprint_24 rfl (lv_at hl 3 rfl) ?_
      refine lv_aload_n S.1 S.2.1 dX7_reprint_25 rfl (lv_at hl 0 rfl) ?_
      refine w_get (C := RX7) (T := TX7) (N := 34) S (fun _ h => List.mem_cons_of_mem _ (List.mem_append_right _ h)) hK hP 89 (by decide) (ceK89 _) rfl 7 (by decide) (hts _ (List.mem_of_getElem? (i := 2) rfl)) (v := .ref (g.1 96)) rfl dX7_reprint_26 ?_
      refine lv_iload_n S.1 S.2.1 dX7_reprint_29 rfl (lv_at hl 1 rfl) ?_
      refine w_iald S hK hP 96 (by decide) ceK96 (by omega) (by omega) dX7_reprint_30 (fun v1 ev1 => ?_)
      have wv1 : v1.toInt = (x_24 96 po.toInt.toNat).toInt := by rw [ev1]
      have rv1 : (0 : Int) ≤ v1.toInt ∧ v1.toInt ≤ (65 : Int) := by rw [ev1]; exact hI_24 96 _
      refine w_icmp_ge (tgt := 55) S dX7_reprint_31 (by decide) (fun hb2 => ?_) (fun hb2 => ?_)
      · refine lv_aload_n S.1 S.2.1 dX7_reprint_55 rfl (lv_at hl 0 rfl) ?_
        refine lv_iload_n S.1 S.2.1 dX7_reprint_56 rfl (lv_at hl 1 rfl) ?_
        refine w_cVv (As := [.int po]) (rest := []) S hK hN hP hS hl 89 (by decide) (ceK89 _) rfl (c_X7_echo l D g hg x_24 hI_24 hE_24 po (by omega)) (cwV 1 hts gX7_reprint_X7_echo rfl rfl rfl (by decide +kernel) ⟨Nat.le_of_ble_eq_true rfl, Nat.le_of_ble_eq_true rfl⟩) rfl rfl (Nat.le_of_ble_eq_true rfl) dX7_reprint_57 ⟨Nat.zero_le _, Nat.zero_le _⟩ (fun x3 H locs hq5 hP hS => ?_)
        obtain ⟨hI6, hT7, hE9, hf8⟩ := hq5
        have hT10 : Same (TM) x x3 := hT_24.tr hT7 (fun c0 k0 h => by unfold TM TrM at h; unfold TE; omega)
        exact w_vret S hr0 hlk hP hS dX7_reprint_60 (⟨hI6, hT10, hE9, by omega⟩)
      · refine lv_aload_n S.1 S.2.1 dX7_reprint_34 rfl (lv_at hl 0 rfl) ?_
        refine lv_aload_n S.1 S.2.1 dX7_reprint_35 rfl (lv_at hl 0 rfl) ?_
        refine w_get (C := RX7) (T := TX7) (N := 34) S (fun _ h => List.mem_cons_of_mem _ (List.mem_append_right _ h)) hK hP 89 (by decide) (ceK89 _) rfl 5 (by decide) (hts _ (List.mem_of_getElem? (i := 3) rfl)) (v := .ref (g.1 94)) rfl dX7_reprint_36 ?_
        refine w_bipush S dX7_reprint_39 (by decide) (fun k11 hk11 => ?_)
        refine lv_iload_n S.1 S.2.1 dX7_reprint_41 rfl (lv_at hl 1 rfl) ?_
        refine w_imulk S dX7_reprint_42 65 hk11 (by omega) (by omega) (fun v12 hv12 => ?_)
        refine lv_iload_n S.1 S.2.1 dX7_reprint_43 rfl (lv_at hl 3 rfl) ?_
        refine w_iadd S dX7_reprint_44 (by omega) (by omega) (fun v13 hv13 => ?_)
        refine w_iald S hK hP 94 (by decide) ceK94 (by omega) (by omega) dX7_reprint_45 (fun v14 ev14 => ?_)
        have wv14 : v14.toInt = (x_24 94 v13.toInt.toNat).toInt := by rw [ev14]
        refine w_cVv (As := [.int v14]) (rest := []) S hK hN hP hS hl 89 (by decide) (ceK89 _) rfl (c_X7_addForm l D g hg x_24 hI_24 hE_24 v14 (by omega)) (cwV 1 hts gX7_reprint_X7_addForm rfl rfl rfl (by decide +kernel) ⟨Nat.le_of_ble_eq_true rfl, Nat.le_of_ble_eq_true rfl⟩) rfl rfl (Nat.le_of_ble_eq_true rfl) dX7_reprint_46 ⟨Nat.zero_le _, Nat.zero_le _⟩ (fun x15 H locs hq17 hP hS => ?_)
        obtain ⟨hI18, hT19, hE21, hf20⟩ := hq17
        have hT22 : Same (TM) x x15 := hT_24.tr hT19 (fun c0 k0 h => by unfold TM TrM at h; unfold TW; omega)
        refine w_iinc (lv' := [(0, .ref (g.1 89)), (1, .int po), (2, .int b)]) S dX7_reprint_49 hl (k := 3) rfl (by decide) (by decide) (by omega) (by omega) (fun _ => rfl) (fun v23 ls hv23 hl => ?_)
        refine lv_goto (tgt := 24) S.1 S.2.1 dX7_reprint_52 (by decide) ?_
        exact ih24 _ _ _ _ v23 hI18 hT22 hE21 (by omega) (by omega) (by omega) (by omega) hP hS (lv_sub hl [1, 2, 3, 0] rfl)
  refine lv_aload_n S.1 S.2.1 dX7_reprint_0 rfl (lv_at hl 0 rfl) ?_
  refine lv_iload_n S.1 S.2.1 dX7_reprint_1 rfl (lv_at hl 2 rfl) ?_
  refine w_cVv (As := [.int b]) (rest := []) S hK hN hP hS hl 89 (by decide) (ceK89 _) rfl (c_X7_addForm l D g hg x hI hE b (by omega)) (cwV 1 hts gX7_reprint_X7_addForm rfl rfl rfl (by decide +kernel) ⟨Nat.le_of_ble_eq_true rfl, Nat.le_of_ble_eq_true rfl⟩) rfl rfl (Nat.le_of_ble_eq_true rfl) dX7_reprint_2 ⟨Nat.zero_le _, Nat.zero_le _⟩ (fun x24 H locs hq26 hP hS => ?_)
  obtain ⟨hI27, hT28, hE30, hf29⟩ := hq26
  have hT31 : Same (TM) x x24 := hT.tr hT28 (fun c0 k0 h => by unfold TM TrM at h; unfold TW; omega)
  refine lv_aload_n S.1 S.2.1 dX7_reprint_5 rfl (lv_at hl 0 rfl) ?_
  refine w_bipush S dX7_reprint_6 (by decide) (fun k32 hk32 => ?_)
  refine w_cVv (As := [.int k32]) (rest := []) S hK hN hP hS hl 89 (by decide) (ceK89 _) rfl (c_X7_add l D g hg x24 hI27 hE30 k32 (by omega)) (cwV 1 hts gX7_reprint_X7_add rfl rfl rfl (by decide +kernel) ⟨Nat.le_of_ble_eq_true rfl, Nat.le_of_ble_eq_true rfl⟩) rfl rfl (Nat.le_of_ble_eq_true rfl) dX7_reprint_8 ⟨Nat.zero_le _, Nat.zero_le _⟩ (fun x33 H locs hq35 hP hS => ?_)
  obtain ⟨hI36, hT37, hE39, hf38⟩ := hq35
  have hT40 : Same (TM) x x33 := hT31.tr hT37 (fun c0 k0 h => by unfold TM TrM at h; unfold TW; omega)
  refine lv_aload_n S.1 S.2.1 dX7_reprint_11 rfl (lv_at hl 0 rfl) ?_
  refine w_bipush S dX7_reprint_12 (by decide) (fun k41 hk41 => ?_)
  refine w_cVv (As := [.int k41]) (rest := []) S hK hN hP hS hl 89 (by decide) (ceK89 _) rfl (c_X7_add l D g hg x33 hI36 hE39 k41 (by omega)) (cwV 1 hts gX7_reprint_X7_add rfl rfl rfl (by decide +kernel) ⟨Nat.le_of_ble_eq_true rfl, Nat.le_of_ble_eq_true rfl⟩) rfl rfl (Nat.le_of_ble_eq_true rfl) dX7_reprint_14 ⟨Nat.zero_le _, Nat.zero_le _⟩ (fun x42 H locs hq44 hP hS => ?_)
  obtain ⟨hI45, hT46, hE48, hf47⟩ := hq44
  have hT49 : Same (TM) x x42 := hT40.tr hT46 (fun c0 k0 h => by unfold TM TrM at h; unfold TW; omega)
  refine lv_aload_n S.1 S.2.1 dX7_reprint_17 rfl (lv_at hl 0 rfl) ?_
  refine w_get (C := RX7) (T := TX7) (N := 34) S (fun _ h => List.mem_cons_of_mem _ (List.mem_append_right _ h)) hK hP 89 (by decide) (ceK89 _) rfl 8 (by decide) (hts _ (List.mem_of_getElem? (i := 1) rfl)) (v := .ref (g.1 97)) rfl dX7_reprint_18 ?_
  refine lv_iload_n S.1 S.2.1 dX7_reprint_21 rfl (lv_at hl 1 rfl) ?_
  refine w_iald S hK hP 97 (by decide) ceK97 (by omega) (by omega) dX7_reprint_22 (fun v50 ev50 => ?_)
  have wv50 : v50.toInt = (x42 97 po.toInt.toNat).toInt := by rw [ev50]
  have rv50 : (0 : Int) ≤ v50.toInt ∧ v50.toInt ≤ (65 : Int) := by rw [ev50]; exact hI45 97 _
  refine lv_istore_n (lv' := [(3, .int v50), (0, .ref (g.1 89)), (1, .int po), (2, .int b)]) S.1 S.2.1 dX7_reprint_23 rfl hl (by decide) rfl (fun ls hl => ?_)
  exact J24 _ _ _ _ _ v50 hI45 hT49 hE48 (by omega) (by omega) (by omega) (Nat.lt_succ_self _) hP hS (lv_sub hl [1, 2, 3, 0] rfl)
set_option maxRecDepth 100000 in
set_option maxHeartbeats 4000000 in
theorem c_X7_signal (l : Launch) (D : va_G) (g : GA) (hg : Inj g) (x : St) (hI : Inv x) (hE : Rel x) (po : Int32) (b : Int32) (sg : Int32) (hy0 : 0 ≤ po.toInt ∧ po.toInt < 4) (hy1 : (x 89 33).toInt = 0) : Met l yX7_signal wsX7_signal ({ frames := 4, cells := 0, slots := 0, locals := 88 } : Room) (va_Pc [.ref (g.1 89), .int po, .int b, .int sg] (WI D g x)) (va_Qv (fun x2 => Inv x2 ∧ Same (TM) x x2 ∧ Rel x2 ∧ (x2 89 33).toInt = 0) (WO D g) (AQ g)) 0 0 (AQ g) := by
  refine w_met (cc := cX7_signal) (maxL := 4) (ret := none) (own := RX7) (by decide) rfl rfl (Nat.le_of_ble_eq_true rfl) (fun p e s m below meth co S hr0 hlk hK hN hP hS ls hl => ?_)
  have hts := S.2.2.2.2
  have hl : lv_has ls 4 [(0, .ref (g.1 89)), (1, .int po), (2, .int b), (3, .int sg)] := hl
  have hT : Same (TM) x x := Same.rf
  have J36 : ∀ (x_36 : St) (H : Heap) (locs : List Loc) (ls : Array Slot), Inv x_36 → Same (TM) x x_36 → Rel x_36 → ((x_36 89 33).toInt = 0) → va_P D vwCl (WL g x_36) H → va_S (AQ g) s.heap H locs → lv_has ls 4 [(0, .ref (g.1 89)), (1, .int po), (2, .int b), (3, .int sg)] → W p l e ({ frames := 4, cells := 0, slots := 0, locals := 88 } : Room) s m ([.ref (g.1 89), .int po, .int b, .int sg] : List Value).toArray below meth co H locs 0 0 (MQ below (va_Qv (fun x2 => Inv x2 ∧ Same (TM) x x2 ∧ Rel x2 ∧ (x2 89 33).toInt = 0) (WO D g) (AQ g)) ([.ref (g.1 89), .int po, .int b, .int sg] : List Value).toArray s 0 0 (AQ g)) (F0 m 36 ls []) := by
    intro x_36 H locs ls hI_36 hT_36 hE_36 hf36_0 hP hS hl
    refine lv_iload_n S.1 S.2.1 dX7_signal_36 rfl (lv_at hl 2 rfl) ?_
    refine w_sipush S dX7_signal_37 (by decide) (fun k1 hk1 => ?_)
    refine w_icmp_ge (tgt := 49) S dX7_signal_40 (by decide) (fun hb2 => ?_) (fun hb2 => ?_)
    · exact w_vret S hr0 hlk hP hS dX7_signal_49 (⟨hI_36, hT_36, hE_36, by omega⟩)
    · refine lv_aload_n S.1 S.2.1 dX7_signal_43 rfl (lv_at hl 0 rfl) ?_
      refine lv_iload_n S.1 S.2.1 dX7_signal_44 rfl (lv_at hl 1 rfl) ?_
      refine lv_iload_n S.1 S.2.1 dX7_signal_45 rfl (lv_at hl 2 rfl) ?_
      refine w_cVv (As := [.int po, .int b]) (rest := []) S hK hN hP hS hl 89 (by decide) (ceK89 _) rfl (c_X7_echoForm l D g hg x_36 hI_36 hE_36 po b (by omega) (by omega)) (cwV 2 hts gX7_signal_X7_echoForm rfl rfl rfl (by decide +kernel) ⟨Nat.le_of_ble_eq_true rfl, Nat.le_of_ble_eq_true rfl⟩) rfl rfl (Nat.le_of_ble_eq_true rfl) dX7_signal_46 ⟨Nat.zero_le _, Nat.zero_le _⟩ (fun x3 H locs hq5 hP hS => ?_)
      obtain ⟨hI6, hT7, hE9, hf8⟩ := hq5
      have hT10 : Same (TM) x x3 := hT_36.tr hT7 (fun c0 k0 h => by unfold TM TrM at h; unfold TE; omega)
      exact w_vret S hr0 hlk hP hS dX7_signal_49 (⟨hI6, hT10, hE9, by omega⟩)
  refine lv_aload_n S.1 S.2.1 dX7_signal_0 rfl (lv_at hl 0 rfl) ?_
  refine lv_aload_n S.1 S.2.1 dX7_signal_1 rfl (lv_at hl 0 rfl) ?_
  refine w_get (C := RX7) (T := TX7) (N := 34) S (fun _ h => List.mem_cons_of_mem _ (List.mem_append_right _ h)) hK hP 89 (by decide) (ceK89 _) rfl 22 (by decide) (hts _ (List.mem_of_getElem? (i := 1) rfl)) (v := .ref (g.1 111)) rfl dX7_signal_2 ?_
  refine lv_iload_n S.1 S.2.1 dX7_signal_5 rfl (lv_at hl 1 rfl) ?_
  refine w_iald S hK hP 111 (by decide) ceK111 (by omega) (by omega) dX7_signal_6 (fun v11 ev11 => ?_)
  have wv11 : v11.toInt = (x 111 po.toInt.toNat).toInt := by rw [ev11]
  refine lv_iload_n S.1 S.2.1 dX7_signal_7 rfl (lv_at hl 3 rfl) ?_
  refine w_cVv (As := [.int v11, .int sg]) (rest := []) S hK hN hP hS hl 89 (by decide) (ceK89 _) rfl (c_X7_raise l D g hg x hI hE v11 sg) (cwV 2 hts gX7_signal_X7_raise rfl rfl rfl (by decide +kernel) ⟨Nat.le_of_ble_eq_true rfl, Nat.le_of_ble_eq_true rfl⟩) rfl rfl (Nat.le_of_ble_eq_true rfl) dX7_signal_8 ⟨Nat.zero_le _, Nat.zero_le _⟩ (fun x12 H locs hq14 hP hS => ?_)
  obtain ⟨hI15, hT16, hE18, hf17⟩ := hq14
  have hT19 : Same (TM) x x12 := hT.tr hT16 (fun _ _ h => h)
  refine lv_aload_n S.1 S.2.1 dX7_signal_11 rfl (lv_at hl 0 rfl) ?_
  refine lv_iload_n S.1 S.2.1 dX7_signal_12 rfl (lv_at hl 1 rfl) ?_
  refine w_bipush S dX7_signal_13 (by decide) (fun k20 hk20 => ?_)
  refine w_cVi (As := [.int po, .int k20]) (rest := []) S hK hN hP hS hl 89 (by decide) (ceK89 _) rfl (c_X7_on l D g hg x12 hI15 po k20 (by omega) (by omega)) (cwV 2 hts gX7_signal_X7_on rfl rfl rfl (by decide +kernel) ⟨Nat.le_of_ble_eq_true rfl, Nat.le_of_ble_eq_true rfl⟩) rfl rfl (Nat.le_of_ble_eq_true rfl) dX7_signal_15 ⟨Nat.zero_le _, Nat.zero_le _⟩ (fun r22 x21 H locs hq23 hP hS => ?_)
  obtain ⟨ex24, hf25⟩ := hq23
  rw [ex24] at hP
  refine w_if_ne (tgt := 36) S dX7_signal_18 (by decide) (fun hb26 => ?_) (fun hb26 => ?_)
  · exact J36 _ _ _ _ hI15 hT19 hE18 (by omega) hP hS (lv_sub hl [0, 1, 2, 3] rfl)
  · refine lv_aload_n S.1 S.2.1 dX7_signal_21 rfl (lv_at hl 0 rfl) ?_
    refine lv_iload_n S.1 S.2.1 dX7_signal_22 rfl (lv_at hl 1 rfl) ?_
    refine w_cVv (As := [.int po]) (rest := []) S hK hN hP hS hl 89 (by decide) (ceK89 _) rfl (c_X7_emptyStore l D g hg x12 hI15 hE18 po (by omega)) (cwV 1 hts gX7_signal_X7_emptyStore rfl rfl rfl (by decide +kernel) ⟨Nat.le_of_ble_eq_true rfl, Nat.le_of_ble_eq_true rfl⟩) rfl rfl (Nat.le_of_ble_eq_true rfl) dX7_signal_23 ⟨Nat.zero_le _, Nat.zero_le _⟩ (fun x27 H locs hq29 hP hS => ?_)
    obtain ⟨hI30, hT31, hE33, hf32⟩ := hq29
    have hT34 : Same (TM) x x27 := hT19.tr hT31 (fun c0 k0 h => by unfold TM TrM at h; unfold TS; omega)
    have u35 : (x27 89 (33)).toInt = (x12 89 (33)).toInt := by rw [hT31 89 (33) (by unfold TS; omega)]
    refine lv_iload_n S.1 S.2.1 dX7_signal_26 rfl (lv_at hl 3 rfl) ?_
    refine w_iconst S dX7_signal_27 (by decide) (fun k36 hk36 => ?_)
    refine w_icmp_eq (tgt := 36) S dX7_signal_28 (by decide) (fun hb37 => ?_) (fun hb37 => ?_)
    · exact J36 _ _ _ _ hI30 hT34 hE33 (by omega) hP hS (lv_sub hl [0, 1, 2, 3] rfl)
    · refine lv_aload_n S.1 S.2.1 dX7_signal_31 rfl (lv_at hl 0 rfl) ?_
      refine lv_iload_n S.1 S.2.1 dX7_signal_32 rfl (lv_at hl 1 rfl) ?_
      refine w_cVv (As := [.int po]) (rest := []) S hK hN hP hS hl 89 (by decide) (ceK89 _) rfl (c_X7_emptyOut l D g hg x27 hI30 hE33 po (by omega)) (cwV 1 hts gX7_signal_X7_emptyOut rfl rfl rfl (by decide +kernel) ⟨Nat.le_of_ble_eq_true rfl, Nat.le_of_ble_eq_true rfl⟩) rfl rfl (Nat.le_of_ble_eq_true rfl) dX7_signal_33 ⟨Nat.zero_le _, Nat.zero_le _⟩ (fun x38 H locs hq40 hP hS => ?_)
      obtain ⟨hI41, hT42, hE44, hf43⟩ := hq40
      have hT45 : Same (TM) x x38 := hT34.tr hT42 (fun _ _ h => h)
      exact J36 _ _ _ _ hI41 hT45 hE44 (by omega) hP hS (lv_sub hl [0, 1, 2, 3] rfl)
set_option maxRecDepth 100000 in
set_option maxHeartbeats 4000000 in
theorem c_X7_asItIs (l : Launch) (D : va_G) (g : GA) (hg : Inj g) (x : St) (hI : Inv x) (hE : Rel x) (po : Int32) (b : Int32) (hy0 : 0 ≤ po.toInt ∧ po.toInt < 4) (hy1 : (x 89 33).toInt = 0) : Met l yX7_asItIs wsX7_asItIs ({ frames := 4, cells := 0, slots := 0, locals := 90 } : Room) (va_Pc [.ref (g.1 89), .int po, .int b] (WI D g x)) (va_Qv (fun x2 => Inv x2 ∧ Same (TM) x x2 ∧ Rel x2 ∧ (x2 89 33).toInt = 0) (WO D g) (AQ g)) 0 0 (AQ g) := by
  refine w_met (cc := cX7_asItIs) (maxL := 3) (ret := none) (own := RX7) (by decide) rfl rfl (Nat.le_of_ble_eq_true rfl) (fun p e s m below meth co S hr0 hlk hK hN hP hS ls hl => ?_)
  have hts := S.2.2.2.2
  have hl : lv_has ls 3 [(0, .ref (g.1 89)), (1, .int po), (2, .int b)] := hl
  have hT : Same (TM) x x := Same.rf
  refine lv_aload_n S.1 S.2.1 dX7_asItIs_0 rfl (lv_at hl 0 rfl) ?_
  refine w_get (C := RX7) (T := TX7) (N := 34) S (fun _ h => List.mem_cons_of_mem _ (List.mem_append_right _ h)) hK hP 89 (by decide) (ceK89 _) rfl 15 (by decide) (hts _ (List.mem_of_getElem? (i := 1) rfl)) (v := .ref (g.1 104)) rfl dX7_asItIs_1 ?_
  refine lv_iload_n S.1 S.2.1 dX7_asItIs_4 rfl (lv_at hl 1 rfl) ?_
  refine w_iconst S dX7_asItIs_5 (by decide) (fun k1 hk1 => ?_)
  refine w_zast S hK hg hP hS 104 (by decide) ceK104 (z01 (by omega) (by omega)) (by omega) (by omega) dX7_asItIs_6 (fun x2 H locs ex2 hP hS => ?_)
  have hI3 : Inv x2 := by rw [ex2]; exact hI.up (show (0 : Int) ≤ _ by omega) (show _ ≤ (1 : Int) by omega)
  have hT4 : Same (TM) x x2 := by rw [ex2]; exact hT.up (by unfold TM TrM; omega)
  have hE5 : Rel x2 := by rw [ex2]; exact Rel.oth hE (by decide) (by decide)
  have u6 : (x2 89 (33)).toInt = (x 89 (33)).toInt := by rw [ex2, up2_ne _ _ (by omega)]
  refine lv_aload_n S.1 S.2.1 dX7_asItIs_7 rfl (lv_at hl 0 rfl) ?_
  refine lv_iload_n S.1 S.2.1 dX7_asItIs_8 rfl (lv_at hl 1 rfl) ?_
  refine lv_iload_n S.1 S.2.1 dX7_asItIs_9 rfl (lv_at hl 2 rfl) ?_
  refine w_iconst S dX7_asItIs_10 (by decide) (fun k7 hk7 => ?_)
  refine w_cVi (As := [.int po, .int b, .int k7]) (rest := []) S hK hN hP hS hl 89 (by decide) (ceK89 _) rfl (c_X7_comesIn l D g hg x2 hI3 hE5 po b k7 (by omega) (by omega)) (cwV 3 hts gX7_asItIs_X7_comesIn rfl rfl rfl (by decide +kernel) ⟨Nat.le_of_ble_eq_true rfl, Nat.le_of_ble_eq_true rfl⟩) rfl rfl (Nat.le_of_ble_eq_true rfl) dX7_asItIs_11 ⟨Nat.zero_le _, Nat.zero_le _⟩ (fun r9 x8 H locs hq10 hP hS => ?_)
  obtain ⟨hI11, hT12, hE14, hf13⟩ := hq10
  have hT15 : Same (TM) x x8 := hT4.tr hT12 (fun _ _ h => h)
  refine w_if_eq (tgt := 23) S dX7_asItIs_14 (by decide) (fun hb16 => ?_) (fun hb16 => ?_)
  · exact w_vret S hr0 hlk hP hS dX7_asItIs_23 (⟨hI11, hT15, hE14, by omega⟩)
  · refine lv_aload_n S.1 S.2.1 dX7_asItIs_17 rfl (lv_at hl 0 rfl) ?_
    refine lv_iload_n S.1 S.2.1 dX7_asItIs_18 rfl (lv_at hl 1 rfl) ?_
    refine lv_iload_n S.1 S.2.1 dX7_asItIs_19 rfl (lv_at hl 2 rfl) ?_
    refine w_cVv (As := [.int po, .int b]) (rest := []) S hK hN hP hS hl 89 (by decide) (ceK89 _) rfl (c_X7_echoForm l D g hg x8 hI11 hE14 po b (by omega) (by omega)) (cwV 2 hts gX7_asItIs_X7_echoForm rfl rfl rfl (by decide +kernel) ⟨Nat.le_of_ble_eq_true rfl, Nat.le_of_ble_eq_true rfl⟩) rfl rfl (Nat.le_of_ble_eq_true rfl) dX7_asItIs_20 ⟨Nat.zero_le _, Nat.zero_le _⟩ (fun x17 H locs hq19 hP hS => ?_)
    obtain ⟨hI20, hT21, hE23, hf22⟩ := hq19
    have hT24 : Same (TM) x x17 := hT15.tr hT21 (fun c0 k0 h => by unfold TM TrM at h; unfold TE; omega)
    exact w_vret S hr0 hlk hP hS dX7_asItIs_23 (⟨hI20, hT24, hE23, by omega⟩)
set_option maxRecDepth 100000 in
set_option maxHeartbeats 4000000 in
theorem c_X7_takes (l : Launch) (D : va_G) (g : GA) (hg : Inj g) (x : St) (hI : Inv x) (hE : Rel x) (po : Int32) (b0 : Int32) (fl : Int32) (hy0 : 0 ≤ po.toInt ∧ po.toInt < 4) (hy1 : (x 89 33).toInt = 0) : Met l yX7_takes wsX7_takes ({ frames := 5, cells := 0, slots := 0, locals := 112 } : Room) (va_Pc [.ref (g.1 89), .int po, .int b0, .int fl] (WI D g x)) (va_Qv (fun x2 => Inv x2 ∧ Same (TM) x x2 ∧ Rel x2 ∧ (x2 89 33).toInt = 0) (WO D g) (AQ g)) 0 0 (AQ g) := by
  refine w_met (cc := cX7_takes) (maxL := 6) (ret := none) (own := RX7) (by decide) rfl rfl (Nat.le_of_ble_eq_true rfl) (fun p e s m below meth co S hr0 hlk hK hN hP hS ls hl => ?_)
  have hts := S.2.2.2.2
  have hl : lv_has ls 6 [(0, .ref (g.1 89)), (1, .int po), (2, .int b0), (3, .int fl)] := hl
  have hT : Same (TM) x x := Same.rf
  have J404 : ∀ (x_404 : St) (H : Heap) (locs : List Loc) (ls : Array Slot) (y404_4 : Int32), Inv x_404 → Same (TM) x x_404 → Rel x_404 → ((x_404 89 33).toInt = 0) → va_P D vwCl (WL g x_404) H → va_S (AQ g) s.heap H locs → lv_has ls 6 [(0, .ref (g.1 89)), (1, .int po), (4, .int y404_4)] → W p l e ({ frames := 5, cells := 0, slots := 0, locals := 112 } : Room) s m ([.ref (g.1 89), .int po, .int b0, .int fl] : List Value).toArray below meth co H locs 0 0 (MQ below (va_Qv (fun x2 => Inv x2 ∧ Same (TM) x x2 ∧ Rel x2 ∧ (x2 89 33).toInt = 0) (WO D g) (AQ g)) ([.ref (g.1 89), .int po, .int b0, .int fl] : List Value).toArray s 0 0 (AQ g)) (F0 m 404 ls []) := by
    intro x_404 H locs ls y404_4 hI_404 hT_404 hE_404 hf404_0 hP hS hl
    refine lv_aload_n S.1 S.2.1 dX7_takes_404 rfl (lv_at hl 0 rfl) ?_
    refine lv_iload_n S.1 S.2.1 dX7_takes_405 rfl (lv_at hl 1 rfl) ?_
    refine lv_iload S.1 S.2.1 dX7_takes_406 (lv_at hl 2 rfl) ?_
    refine w_iconst S dX7_takes_408 (by decide) (fun k1 hk1 => ?_)
    refine w_cVi (As := [.int po, .int y404_4, .int k1]) (rest := []) S hK hN hP hS hl 89 (by decide) (ceK89 _) rfl (c_X7_comesIn l D g hg x_404 hI_404 hE_404 po y404_4 k1 (by omega) (by omega)) (cwV 3 hts gX7_takes_X7_comesIn rfl rfl rfl (by decide +kernel) ⟨Nat.le_of_ble_eq_true rfl, Nat.le_of_ble_eq_true rfl⟩) rfl rfl (Nat.le_of_ble_eq_true rfl) dX7_takes_409 ⟨Nat.zero_le _, Nat.zero_le _⟩ (fun r3 x2 H locs hq4 hP hS => ?_)
    obtain ⟨hI5, hT6, hE8, hf7⟩ := hq4
    have hT9 : Same (TM) x x2 := hT_404.tr hT6 (fun _ _ h => h)
    refine w_if_eq (tgt := 422) S dX7_takes_412 (by decide) (fun hb10 => ?_) (fun hb10 => ?_)
    · exact w_vret S hr0 hlk hP hS dX7_takes_422 (⟨hI5, hT9, hE8, by omega⟩)
    · refine lv_aload_n S.1 S.2.1 dX7_takes_415 rfl (lv_at hl 0 rfl) ?_
      refine lv_iload_n S.1 S.2.1 dX7_takes_416 rfl (lv_at hl 1 rfl) ?_
      refine lv_iload S.1 S.2.1 dX7_takes_417 (lv_at hl 2 rfl) ?_
      refine w_cVv (As := [.int po, .int y404_4]) (rest := []) S hK hN hP hS hl 89 (by decide) (ceK89 _) rfl (c_X7_echoForm l D g hg x2 hI5 hE8 po y404_4 (by omega) (by omega)) (cwV 2 hts gX7_takes_X7_echoForm rfl rfl rfl (by decide +kernel) ⟨Nat.le_of_ble_eq_true rfl, Nat.le_of_ble_eq_true rfl⟩) rfl rfl (Nat.le_of_ble_eq_true rfl) dX7_takes_419 ⟨Nat.zero_le _, Nat.zero_le _⟩ (fun x11 H locs hq13 hP hS => ?_)
      obtain ⟨hI14, hT15, hE17, hf16⟩ := hq13
      have hT18 : Same (TM) x x11 := hT9.tr hT15 (fun c0 k0 h => by unfold TM TrM at h; unfold TE; omega)
      exact w_vret S hr0 hlk hP hS dX7_takes_422 (⟨hI14, hT18, hE17, by omega⟩)
  have J297 : ∀ (x_297 : St) (H : Heap) (locs : List Loc) (ls : Array Slot) (y297_4 : Int32), Inv x_297 → Same (TM) x x_297 → Rel x_297 → ((x_297 89 33).toInt = 0) → va_P D vwCl (WL g x_297) H → va_S (AQ g) s.heap H locs → lv_has ls 6 [(0, .ref (g.1 89)), (1, .int po), (4, .int y297_4)] → W p l e ({ frames := 5, cells := 0, slots := 0, locals := 112 } : Room) s m ([.ref (g.1 89), .int po, .int b0, .int fl] : List Value).toArray below meth co H locs 0 0 (MQ below (va_Qv (fun x2 => Inv x2 ∧ Same (TM) x x2 ∧ Rel x2 ∧ (x2 89 33).toInt = 0) (WO D g) (AQ g)) ([.ref (g.1 89), .int po, .int b0, .int fl] : List Value).toArray s 0 0 (AQ g)) (F0 m 297 ls []) := by
    intro x_297 H locs ls y297_4 hI_297 hT_297 hE_297 hf297_0 hP hS hl
    refine lv_aload_n S.1 S.2.1 dX7_takes_297 rfl (lv_at hl 0 rfl) ?_
    refine lv_iload_n S.1 S.2.1 dX7_takes_298 rfl (lv_at hl 1 rfl) ?_
    refine lv_iload S.1 S.2.1 dX7_takes_299 (lv_at hl 2 rfl) ?_
    refine w_cVv (As := [.int po, .int y297_4]) (rest := []) S hK hN hP hS hl 89 (by decide) (ceK89 _) rfl (c_X7_editing l D g hg x_297 hI_297 hE_297 po y297_4 (by omega) (by omega)) (cwV 2 hts gX7_takes_X7_editing rfl rfl rfl (by decide +kernel) ⟨Nat.le_of_ble_eq_true rfl, Nat.le_of_ble_eq_true rfl⟩) rfl rfl (Nat.le_of_ble_eq_true rfl) dX7_takes_301 ⟨Nat.zero_le _, Nat.zero_le _⟩ (fun x19 H locs hq21 hP hS => ?_)
    obtain ⟨hI22, hT23, hE25, hf24⟩ := hq21
    have hT26 : Same (TM) x x19 := hT_297.tr hT23 (fun _ _ h => h)
    exact w_vret S hr0 hlk hP hS dX7_takes_304 (⟨hI22, hT26, hE25, by omega⟩)
  have J253 : ∀ (x_253 : St) (H : Heap) (locs : List Loc) (ls : Array Slot) (y253_4 : Int32), Inv x_253 → Same (TM) x x_253 → Rel x_253 → ((x_253 89 33).toInt = 0) → va_P D vwCl (WL g x_253) H → va_S (AQ g) s.heap H locs → lv_has ls 6 [(0, .ref (g.1 89)), (1, .int po), (4, .int y253_4)] → W p l e ({ frames := 5, cells := 0, slots := 0, locals := 112 } : Room) s m ([.ref (g.1 89), .int po, .int b0, .int fl] : List Value).toArray below meth co H locs 0 0 (MQ below (va_Qv (fun x2 => Inv x2 ∧ Same (TM) x x2 ∧ Rel x2 ∧ (x2 89 33).toInt = 0) (WO D g) (AQ g)) ([.ref (g.1 89), .int po, .int b0, .int fl] : List Value).toArray s 0 0 (AQ g)) (F0 m 253 ls []) := by
    intro x_253 H locs ls y253_4 hI_253 hT_253 hE_253 hf253_0 hP hS hl
    refine lv_aload_n S.1 S.2.1 dX7_takes_253 rfl (lv_at hl 0 rfl) ?_
    refine lv_iload_n S.1 S.2.1 dX7_takes_254 rfl (lv_at hl 1 rfl) ?_
    refine w_cVi (As := [.int po]) (rest := []) S hK hN hP hS hl 89 (by decide) (ceK89 _) rfl (c_X7_isCanon l D g hg x_253 hI_253 po (by omega)) (cwV 1 hts gX7_takes_X7_isCanon rfl rfl rfl (by decide +kernel) ⟨Nat.le_of_ble_eq_true rfl, Nat.le_of_ble_eq_true rfl⟩) rfl rfl (Nat.le_of_ble_eq_true rfl) dX7_takes_255 ⟨Nat.zero_le _, Nat.zero_le _⟩ (fun r28 x27 H locs hq29 hP hS => ?_)
    obtain ⟨ex30, hf31⟩ := hq29
    rw [ex30] at hP
    refine w_if_eq (tgt := 404) S dX7_takes_258 (by decide) (fun hb32 => ?_) (fun hb32 => ?_)
    · exact J404 _ _ _ _ y253_4 hI_253 hT_253 hE_253 (by omega) hP hS (lv_sub hl [0, 1, 2] rfl)
    · refine lv_iload S.1 S.2.1 dX7_takes_261 (lv_at hl 2 rfl) ?_
      refine lv_aload_n S.1 S.2.1 dX7_takes_263 rfl (lv_at hl 0 rfl) ?_
      refine lv_iload_n S.1 S.2.1 dX7_takes_264 rfl (lv_at hl 1 rfl) ?_
      refine w_bipush S dX7_takes_265 (by decide) (fun k33 hk33 => ?_)
      refine w_cVi (As := [.int po, .int k33]) (rest := [.int y253_4]) S hK hN hP hS hl 89 (by decide) (ceK89 _) rfl (c_X7_mode1 l D g hg x_253 hI_253 po k33 (by omega) (by omega)) (cwV 2 hts gX7_takes_X7_mode1 rfl rfl rfl (by decide +kernel) ⟨Nat.le_of_ble_eq_true rfl, Nat.le_of_ble_eq_true rfl⟩) rfl rfl (Nat.le_of_ble_eq_true rfl) dX7_takes_267 ⟨Nat.zero_le _, Nat.zero_le _⟩ (fun r35 x34 H locs hq36 hP hS => ?_)
      obtain ⟨ex37, hf38⟩ := hq36
      rw [ex37] at hP
      refine w_icmp_eq (tgt := 297) S dX7_takes_270 (by decide) (fun hb39 => ?_) (fun hb39 => ?_)
      · exact J297 _ _ _ _ y253_4 hI_253 hT_253 hE_253 (by omega) hP hS (lv_sub hl [0, 1, 2] rfl)
      · refine lv_iload S.1 S.2.1 dX7_takes_273 (lv_at hl 2 rfl) ?_
        refine lv_aload_n S.1 S.2.1 dX7_takes_275 rfl (lv_at hl 0 rfl) ?_
        refine lv_iload_n S.1 S.2.1 dX7_takes_276 rfl (lv_at hl 1 rfl) ?_
        refine w_bipush S dX7_takes_277 (by decide) (fun k40 hk40 => ?_)
        refine w_cVi (As := [.int po, .int k40]) (rest := [.int y253_4]) S hK hN hP hS hl 89 (by decide) (ceK89 _) rfl (c_X7_mode1 l D g hg x_253 hI_253 po k40 (by omega) (by omega)) (cwV 2 hts gX7_takes_X7_mode1 rfl rfl rfl (by decide +kernel) ⟨Nat.le_of_ble_eq_true rfl, Nat.le_of_ble_eq_true rfl⟩) rfl rfl (Nat.le_of_ble_eq_true rfl) dX7_takes_279 ⟨Nat.zero_le _, Nat.zero_le _⟩ (fun r42 x41 H locs hq43 hP hS => ?_)
        obtain ⟨ex44, hf45⟩ := hq43
        rw [ex44] at hP
        refine w_icmp_eq (tgt := 297) S dX7_takes_282 (by decide) (fun hb46 => ?_) (fun hb46 => ?_)
        · exact J297 _ _ _ _ y253_4 hI_253 hT_253 hE_253 (by omega) hP hS (lv_sub hl [0, 1, 2] rfl)
        · refine lv_iload S.1 S.2.1 dX7_takes_285 (lv_at hl 2 rfl) ?_
          refine lv_aload_n S.1 S.2.1 dX7_takes_287 rfl (lv_at hl 0 rfl) ?_
          refine lv_iload_n S.1 S.2.1 dX7_takes_288 rfl (lv_at hl 1 rfl) ?_
          refine w_bipush S dX7_takes_289 (by decide) (fun k47 hk47 => ?_)
          refine w_cVi (As := [.int po, .int k47]) (rest := [.int y253_4]) S hK hN hP hS hl 89 (by decide) (ceK89 _) rfl (c_X7_mode1 l D g hg x_253 hI_253 po k47 (by omega) (by omega)) (cwV 2 hts gX7_takes_X7_mode1 rfl rfl rfl (by decide +kernel) ⟨Nat.le_of_ble_eq_true rfl, Nat.le_of_ble_eq_true rfl⟩) rfl rfl (Nat.le_of_ble_eq_true rfl) dX7_takes_291 ⟨Nat.zero_le _, Nat.zero_le _⟩ (fun r49 x48 H locs hq50 hP hS => ?_)
          obtain ⟨ex51, hf52⟩ := hq50
          rw [ex51] at hP
          refine w_icmp_ne (tgt := 305) S dX7_takes_294 (by decide) (fun hb53 => ?_) (fun hb53 => ?_)
          · refine lv_iload S.1 S.2.1 dX7_takes_305 (lv_at hl 2 rfl) ?_
            refine lv_aload_n S.1 S.2.1 dX7_takes_307 rfl (lv_at hl 0 rfl) ?_
            refine lv_iload_n S.1 S.2.1 dX7_takes_308 rfl (lv_at hl 1 rfl) ?_
            refine w_bipush S dX7_takes_309 (by decide) (fun k54 hk54 => ?_)
            refine w_cVi (As := [.int po, .int k54]) (rest := [.int y253_4]) S hK hN hP hS hl 89 (by decide) (ceK89 _) rfl (c_X7_mode1 l D g hg x_253 hI_253 po k54 (by omega) (by omega)) (cwV 2 hts gX7_takes_X7_mode1 rfl rfl rfl (by decide +kernel) ⟨Nat.le_of_ble_eq_true rfl, Nat.le_of_ble_eq_true rfl⟩) rfl rfl (Nat.le_of_ble_eq_true rfl) dX7_takes_311 ⟨Nat.zero_le _, Nat.zero_le _⟩ (fun r56 x55 H locs hq57 hP hS => ?_)
            obtain ⟨ex58, hf59⟩ := hq57
            rw [ex58] at hP
            refine w_icmp_ne (tgt := 325) S dX7_takes_314 (by decide) (fun hb60 => ?_) (fun hb60 => ?_)
            · refine lv_iload S.1 S.2.1 dX7_takes_325 (lv_at hl 2 rfl) ?_
              refine lv_aload_n S.1 S.2.1 dX7_takes_327 rfl (lv_at hl 0 rfl) ?_
              refine lv_iload_n S.1 S.2.1 dX7_takes_328 rfl (lv_at hl 1 rfl) ?_
              refine w_bipush S dX7_takes_329 (by decide) (fun k61 hk61 => ?_)
              refine w_cVi (As := [.int po, .int k61]) (rest := [.int y253_4]) S hK hN hP hS hl 89 (by decide) (ceK89 _) rfl (c_X7_mode1 l D g hg x_253 hI_253 po k61 (by omega) (by omega)) (cwV 2 hts gX7_takes_X7_mode1 rfl rfl rfl (by decide +kernel) ⟨Nat.le_of_ble_eq_true rfl, Nat.le_of_ble_eq_true rfl⟩) rfl rfl (Nat.le_of_ble_eq_true rfl) dX7_takes_331 ⟨Nat.zero_le _, Nat.zero_le _⟩ (fun r63 x62 H locs hq64 hP hS => ?_)
              obtain ⟨ex65, hf66⟩ := hq64
              rw [ex65] at hP
              refine w_icmp_ne (tgt := 345) S dX7_takes_334 (by decide) (fun hb67 => ?_) (fun hb67 => ?_)
              · refine lv_iload S.1 S.2.1 dX7_takes_345 (lv_at hl 2 rfl) ?_
                refine lv_aload_n S.1 S.2.1 dX7_takes_347 rfl (lv_at hl 0 rfl) ?_
                refine lv_iload_n S.1 S.2.1 dX7_takes_348 rfl (lv_at hl 1 rfl) ?_
                refine w_bipush S dX7_takes_349 (by decide) (fun k68 hk68 => ?_)
                refine w_cVi (As := [.int po, .int k68]) (rest := [.int y253_4]) S hK hN hP hS hl 89 (by decide) (ceK89 _) rfl (c_X7_mode1 l D g hg x_253 hI_253 po k68 (by omega) (by omega)) (cwV 2 hts gX7_takes_X7_mode1 rfl rfl rfl (by decide +kernel) ⟨Nat.le_of_ble_eq_true rfl, Nat.le_of_ble_eq_true rfl⟩) rfl rfl (Nat.le_of_ble_eq_true rfl) dX7_takes_351 ⟨Nat.zero_le _, Nat.zero_le _⟩ (fun r70 x69 H locs hq71 hP hS => ?_)
                obtain ⟨ex72, hf73⟩ := hq71
                rw [ex72] at hP
                refine w_icmp_ne (tgt := 368) S dX7_takes_354 (by decide) (fun hb74 => ?_) (fun hb74 => ?_)
                · refine lv_iload S.1 S.2.1 dX7_takes_368 (lv_at hl 2 rfl) ?_
                  refine w_bipush S dX7_takes_370 (by decide) (fun k75 hk75 => ?_)
                  refine w_icmp_ne (tgt := 404) S dX7_takes_372 (by decide) (fun hb76 => ?_) (fun hb76 => ?_)
                  · exact J404 _ _ _ _ y253_4 hI_253 hT_253 hE_253 (by omega) hP hS (lv_sub hl [0, 1, 2] rfl)
                  · refine lv_aload_n S.1 S.2.1 dX7_takes_375 rfl (lv_at hl 0 rfl) ?_
                    refine lv_iload_n S.1 S.2.1 dX7_takes_376 rfl (lv_at hl 1 rfl) ?_
                    refine w_bipush S dX7_takes_377 (by decide) (fun k77 hk77 => ?_)
                    refine w_iconst S dX7_takes_379 (by decide) (fun k78 hk78 => ?_)
                    refine w_cVi (As := [.int po, .int k77, .int k78]) (rest := []) S hK hN hP hS hl 89 (by decide) (ceK89 _) rfl (c_X7_comesIn l D g hg x_253 hI_253 hE_253 po k77 k78 (by omega) (by omega)) (cwV 3 hts gX7_takes_X7_comesIn rfl rfl rfl (by decide +kernel) ⟨Nat.le_of_ble_eq_true rfl, Nat.le_of_ble_eq_true rfl⟩) rfl rfl (Nat.le_of_ble_eq_true rfl) dX7_takes_380 ⟨Nat.zero_le _, Nat.zero_le _⟩ (fun r80 x79 H locs hq81 hP hS => ?_)
                    obtain ⟨hI82, hT83, hE85, hf84⟩ := hq81
                    have hT86 : Same (TM) x x79 := hT_253.tr hT83 (fun _ _ h => h)
                    refine w_if_eq (tgt := 403) S dX7_takes_383 (by decide) (fun hb87 => ?_) (fun hb87 => ?_)
                    · exact w_vret S hr0 hlk hP hS dX7_takes_403 (⟨hI82, hT86, hE85, by omega⟩)
                    · refine lv_aload_n S.1 S.2.1 dX7_takes_386 rfl (lv_at hl 0 rfl) ?_
                      refine w_bipush S dX7_takes_387 (by decide) (fun k88 hk88 => ?_)
                      refine w_cVv (As := [.int k88]) (rest := []) S hK hN hP hS hl 89 (by decide) (ceK89 _) rfl (c_X7_add l D g hg x79 hI82 hE85 k88 (by omega)) (cwV 1 hts gX7_takes_X7_add rfl rfl rfl (by decide +kernel) ⟨Nat.le_of_ble_eq_true rfl, Nat.le_of_ble_eq_true rfl⟩) rfl rfl (Nat.le_of_ble_eq_true rfl) dX7_takes_389 ⟨Nat.zero_le _, Nat.zero_le _⟩ (fun x89 H locs hq91 hP hS => ?_)
                      obtain ⟨hI92, hT93, hE95, hf94⟩ := hq91
                      have hT96 : Same (TM) x x89 := hT86.tr hT93 (fun c0 k0 h => by unfold TM TrM at h; unfold TW; omega)
                      refine lv_aload_n S.1 S.2.1 dX7_takes_392 rfl (lv_at hl 0 rfl) ?_
                      refine w_bipush S dX7_takes_393 (by decide) (fun k97 hk97 => ?_)
                      refine w_cVv (As := [.int k97]) (rest := []) S hK hN hP hS hl 89 (by decide) (ceK89 _) rfl (c_X7_add l D g hg x89 hI92 hE95 k97 (by omega)) (cwV 1 hts gX7_takes_X7_add rfl rfl rfl (by decide +kernel) ⟨Nat.le_of_ble_eq_true rfl, Nat.le_of_ble_eq_true rfl⟩) rfl rfl (Nat.le_of_ble_eq_true rfl) dX7_takes_395 ⟨Nat.zero_le _, Nat.zero_le _⟩ (fun x98 H locs hq100 hP hS => ?_)
                      obtain ⟨hI101, hT102, hE104, hf103⟩ := hq100
                      have hT105 : Same (TM) x x98 := hT96.tr hT102 (fun c0 k0 h => by unfold TM TrM at h; unfold TW; omega)
                      refine lv_aload_n S.1 S.2.1 dX7_takes_398 rfl (lv_at hl 0 rfl) ?_
                      refine lv_iload_n S.1 S.2.1 dX7_takes_399 rfl (lv_at hl 1 rfl) ?_
                      refine w_cVv (As := [.int po]) (rest := []) S hK hN hP hS hl 89 (by decide) (ceK89 _) rfl (c_X7_echo l D g hg x98 hI101 hE104 po (by omega)) (cwV 1 hts gX7_takes_X7_echo rfl rfl rfl (by decide +kernel) ⟨Nat.le_of_ble_eq_true rfl, Nat.le_of_ble_eq_true rfl⟩) rfl rfl (Nat.le_of_ble_eq_true rfl) dX7_takes_400 ⟨Nat.zero_le _, Nat.zero_le _⟩ (fun x106 H locs hq108 hP hS => ?_)
                      obtain ⟨hI109, hT110, hE112, hf111⟩ := hq108
                      have hT113 : Same (TM) x x106 := hT105.tr hT110 (fun c0 k0 h => by unfold TM TrM at h; unfold TE; omega)
                      exact w_vret S hr0 hlk hP hS dX7_takes_403 (⟨hI109, hT113, hE112, by omega⟩)
                · refine lv_aload_n S.1 S.2.1 dX7_takes_357 rfl (lv_at hl 0 rfl) ?_
                  refine lv_iload_n S.1 S.2.1 dX7_takes_358 rfl (lv_at hl 1 rfl) ?_
                  refine w_sipush S dX7_takes_359 (by decide) (fun k114 hk114 => ?_)
                  refine w_iconst S dX7_takes_362 (by decide) (fun k115 hk115 => ?_)
                  refine w_cVi (As := [.int po, .int k114, .int k115]) (rest := []) S hK hN hP hS hl 89 (by decide) (ceK89 _) rfl (c_X7_comesIn l D g hg x_253 hI_253 hE_253 po k114 k115 (by omega) (by omega)) (cwV 3 hts gX7_takes_X7_comesIn rfl rfl rfl (by decide +kernel) ⟨Nat.le_of_ble_eq_true rfl, Nat.le_of_ble_eq_true rfl⟩) rfl rfl (Nat.le_of_ble_eq_true rfl) dX7_takes_363 ⟨Nat.zero_le _, Nat.zero_le _⟩ (fun r117 x116 H locs hq118 hP hS => ?_)
                  obtain ⟨hI119, hT120, hE122, hf121⟩ := hq118
                  have hT123 : Same (TM) x x116 := hT_253.tr hT120 (fun _ _ h => h)
                  refine lv_pop S.1 S.2.1 dX7_takes_366 rfl ?_
                  exact w_vret S hr0 hlk hP hS dX7_takes_367 (⟨hI119, hT123, hE122, by omega⟩)
              · refine lv_aload_n S.1 S.2.1 dX7_takes_337 rfl (lv_at hl 0 rfl) ?_
                refine lv_iload_n S.1 S.2.1 dX7_takes_338 rfl (lv_at hl 1 rfl) ?_
                refine lv_iload S.1 S.2.1 dX7_takes_339 (lv_at hl 2 rfl) ?_
                refine w_cVv (As := [.int po, .int y253_4]) (rest := []) S hK hN hP hS hl 89 (by decide) (ceK89 _) rfl (c_X7_reprint l D g hg x_253 hI_253 hE_253 po y253_4 (by omega) (by omega)) (cwV 2 hts gX7_takes_X7_reprint rfl rfl rfl (by decide +kernel) ⟨Nat.le_of_ble_eq_true rfl, Nat.le_of_ble_eq_true rfl⟩) rfl rfl (Nat.le_of_ble_eq_true rfl) dX7_takes_341 ⟨Nat.zero_le _, Nat.zero_le _⟩ (fun x124 H locs hq126 hP hS => ?_)
                obtain ⟨hI127, hT128, hE130, hf129⟩ := hq126
                have hT131 : Same (TM) x x124 := hT_253.tr hT128 (fun _ _ h => h)
                exact w_vret S hr0 hlk hP hS dX7_takes_344 (⟨hI127, hT131, hE130, by omega⟩)
            · refine lv_aload_n S.1 S.2.1 dX7_takes_317 rfl (lv_at hl 0 rfl) ?_
              refine w_get (C := RX7) (T := TX7) (N := 34) S (fun _ h => List.mem_cons_of_mem _ (List.mem_append_right _ h)) hK hP 89 (by decide) (ceK89 _) rfl 15 (by decide) (hts _ (List.mem_of_getElem? (i := 2) rfl)) (v := .ref (g.1 104)) rfl dX7_takes_318 ?_
              refine lv_iload_n S.1 S.2.1 dX7_takes_321 rfl (lv_at hl 1 rfl) ?_
              refine w_iconst S dX7_takes_322 (by decide) (fun k132 hk132 => ?_)
              refine w_zast S hK hg hP hS 104 (by decide) ceK104 (z01 (by omega) (by omega)) (by omega) (by omega) dX7_takes_323 (fun x133 H locs ex133 hP hS => ?_)
              have hI134 : Inv x133 := by rw [ex133]; exact hI_253.up (show (0 : Int) ≤ _ by omega) (show _ ≤ (1 : Int) by omega)
              have hT135 : Same (TM) x x133 := by rw [ex133]; exact hT_253.up (by unfold TM TrM; omega)
              have hE136 : Rel x133 := by rw [ex133]; exact Rel.oth hE_253 (by decide) (by decide)
              have u137 : (x133 89 (33)).toInt = (x_253 89 (33)).toInt := by rw [ex133, up2_ne _ _ (by omega)]
              exact w_vret S hr0 hlk hP hS dX7_takes_324 (⟨hI134, hT135, hE136, by omega⟩)
          · exact J297 _ _ _ _ y253_4 hI_253 hT_253 hE_253 (by omega) hP hS (lv_sub hl [0, 1, 2] rfl)
  have J233 : ∀ (x_233 : St) (H : Heap) (locs : List Loc) (ls : Array Slot) (y233_4 : Int32), Inv x_233 → Same (TM) x x_233 → Rel x_233 → ((x_233 89 33).toInt = 0) → va_P D vwCl (WL g x_233) H → va_S (AQ g) s.heap H locs → lv_has ls 6 [(0, .ref (g.1 89)), (1, .int po), (4, .int y233_4)] → W p l e ({ frames := 5, cells := 0, slots := 0, locals := 112 } : Room) s m ([.ref (g.1 89), .int po, .int b0, .int fl] : List Value).toArray below meth co H locs 0 0 (MQ below (va_Qv (fun x2 => Inv x2 ∧ Same (TM) x x2 ∧ Rel x2 ∧ (x2 89 33).toInt = 0) (WO D g) (AQ g)) ([.ref (g.1 89), .int po, .int b0, .int fl] : List Value).toArray s 0 0 (AQ g)) (F0 m 233 ls []) := by
    intro x_233 H locs ls y233_4 hI_233 hT_233 hE_233 hf233_0 hP hS hl
    refine lv_aload_n S.1 S.2.1 dX7_takes_233 rfl (lv_at hl 0 rfl) ?_
    refine lv_iload_n S.1 S.2.1 dX7_takes_234 rfl (lv_at hl 1 rfl) ?_
    refine w_iconst S dX7_takes_235 (by decide) (fun k138 hk138 => ?_)
    refine w_cVi (As := [.int po, .int k138]) (rest := []) S hK hN hP hS hl 89 (by decide) (ceK89 _) rfl (c_X7_on l D g hg x_233 hI_233 po k138 (by omega) (by omega)) (cwV 2 hts gX7_takes_X7_on rfl rfl rfl (by decide +kernel) ⟨Nat.le_of_ble_eq_true rfl, Nat.le_of_ble_eq_true rfl⟩) rfl rfl (Nat.le_of_ble_eq_true rfl) dX7_takes_236 ⟨Nat.zero_le _, Nat.zero_le _⟩ (fun r140 x139 H locs hq141 hP hS => ?_)
    obtain ⟨ex142, hf143⟩ := hq141
    rw [ex142] at hP
    refine w_if_eq (tgt := 253) S dX7_takes_239 (by decide) (fun hb144 => ?_) (fun hb144 => ?_)
    · exact J253 _ _ _ _ y233_4 hI_233 hT_233 hE_233 (by omega) hP hS (lv_sub hl [0, 1, 2] rfl)
    · refine lv_iload S.1 S.2.1 dX7_takes_242 (lv_at hl 2 rfl) ?_
      refine w_bipush S dX7_takes_244 (by decide) (fun k145 hk145 => ?_)
      refine w_icmp_ne (tgt := 253) S dX7_takes_246 (by decide) (fun hb146 => ?_) (fun hb146 => ?_)
      · exact J253 _ _ _ _ y233_4 hI_233 hT_233 hE_233 (by omega) hP hS (lv_sub hl [0, 1, 2] rfl)
      · refine w_bipush S dX7_takes_249 (by decide) (fun k147 hk147 => ?_)
        refine lv_istore (lv' := [(4, .int k147), (0, .ref (g.1 89)), (1, .int po)]) S.1 S.2.1 dX7_takes_251 hl (by decide) rfl (fun ls hl => ?_)
        exact J253 _ _ _ _ k147 hI_233 hT_233 hE_233 (by omega) hP hS (lv_sub hl [1, 2, 0] rfl)
  have J218 : ∀ (x_218 : St) (H : Heap) (locs : List Loc) (ls : Array Slot) (y218_4 : Int32) (y218_5 : Int32), Inv x_218 → Same (TM) x x_218 → Rel x_218 → ((x_218 89 33).toInt = 0) → va_P D vwCl (WL g x_218) H → va_S (AQ g) s.heap H locs → lv_has ls 6 [(0, .ref (g.1 89)), (1, .int po), (4, .int y218_4), (5, .int y218_5)] → W p l e ({ frames := 5, cells := 0, slots := 0, locals := 112 } : Room) s m ([.ref (g.1 89), .int po, .int b0, .int fl] : List Value).toArray below meth co H locs 0 0 (MQ below (va_Qv (fun x2 => Inv x2 ∧ Same (TM) x x2 ∧ Rel x2 ∧ (x2 89 33).toInt = 0) (WO D g) (AQ g)) ([.ref (g.1 89), .int po, .int b0, .int fl] : List Value).toArray s 0 0 (AQ g)) (F0 m 218 ls []) := by
    intro x_218 H locs ls y218_4 y218_5 hI_218 hT_218 hE_218 hf218_0 hP hS hl
    refine lv_iload S.1 S.2.1 dX7_takes_218 (lv_at hl 3 rfl) ?_
    refine w_if_le (tgt := 233) S dX7_takes_220 (by decide) (fun hb148 => ?_) (fun hb148 => ?_)
    · exact J233 _ _ _ _ y218_4 hI_218 hT_218 hE_218 (by omega) hP hS (lv_sub hl [0, 1, 2] rfl)
    · refine lv_aload_n S.1 S.2.1 dX7_takes_223 rfl (lv_at hl 0 rfl) ?_
      refine lv_iload_n S.1 S.2.1 dX7_takes_224 rfl (lv_at hl 1 rfl) ?_
      refine lv_iload S.1 S.2.1 dX7_takes_225 (lv_at hl 2 rfl) ?_
      refine lv_iload S.1 S.2.1 dX7_takes_227 (lv_at hl 3 rfl) ?_
      refine w_cVv (As := [.int po, .int y218_4, .int y218_5]) (rest := []) S hK hN hP hS hl 89 (by decide) (ceK89 _) rfl (c_X7_signal l D g hg x_218 hI_218 hE_218 po y218_4 y218_5 (by omega) (by omega)) (cwV 3 hts gX7_takes_X7_signal rfl rfl rfl (by decide +kernel) ⟨Nat.le_of_ble_eq_true rfl, Nat.le_of_ble_eq_true rfl⟩) rfl rfl (Nat.le_of_ble_eq_true rfl) dX7_takes_229 ⟨Nat.zero_le _, Nat.zero_le _⟩ (fun x149 H locs hq151 hP hS => ?_)
      obtain ⟨hI152, hT153, hE155, hf154⟩ := hq151
      have hT156 : Same (TM) x x149 := hT_218.tr hT153 (fun _ _ h => h)
      exact w_vret S hr0 hlk hP hS dX7_takes_232 (⟨hI152, hT156, hE155, by omega⟩)
  have J203 : ∀ (x_203 : St) (H : Heap) (locs : List Loc) (ls : Array Slot) (y203_4 : Int32) (y203_5 : Int32), Inv x_203 → Same (TM) x x_203 → Rel x_203 → ((x_203 89 33).toInt = 0) → va_P D vwCl (WL g x_203) H → va_S (AQ g) s.heap H locs → lv_has ls 6 [(0, .ref (g.1 89)), (1, .int po), (4, .int y203_4), (5, .int y203_5)] → W p l e ({ frames := 5, cells := 0, slots := 0, locals := 112 } : Room) s m ([.ref (g.1 89), .int po, .int b0, .int fl] : List Value).toArray below meth co H locs 0 0 (MQ below (va_Qv (fun x2 => Inv x2 ∧ Same (TM) x x2 ∧ Rel x2 ∧ (x2 89 33).toInt = 0) (WO D g) (AQ g)) ([.ref (g.1 89), .int po, .int b0, .int fl] : List Value).toArray s 0 0 (AQ g)) (F0 m 203 ls []) := by
    intro x_203 H locs ls y203_4 y203_5 hI_203 hT_203 hE_203 hf203_0 hP hS hl
    refine lv_iload S.1 S.2.1 dX7_takes_203 (lv_at hl 2 rfl) ?_
    refine lv_aload_n S.1 S.2.1 dX7_takes_205 rfl (lv_at hl 0 rfl) ?_
    refine lv_iload_n S.1 S.2.1 dX7_takes_206 rfl (lv_at hl 1 rfl) ?_
    refine w_bipush S dX7_takes_207 (by decide) (fun k157 hk157 => ?_)
    refine w_cVi (As := [.int po, .int k157]) (rest := [.int y203_4]) S hK hN hP hS hl 89 (by decide) (ceK89 _) rfl (c_X7_mode1 l D g hg x_203 hI_203 po k157 (by omega) (by omega)) (cwV 2 hts gX7_takes_X7_mode1 rfl rfl rfl (by decide +kernel) ⟨Nat.le_of_ble_eq_true rfl, Nat.le_of_ble_eq_true rfl⟩) rfl rfl (Nat.le_of_ble_eq_true rfl) dX7_takes_209 ⟨Nat.zero_le _, Nat.zero_le _⟩ (fun r159 x158 H locs hq160 hP hS => ?_)
    obtain ⟨ex161, hf162⟩ := hq160
    rw [ex161] at hP
    refine w_icmp_ne (tgt := 218) S dX7_takes_212 (by decide) (fun hb163 => ?_) (fun hb163 => ?_)
    · exact J218 _ _ _ _ y203_4 y203_5 hI_203 hT_203 hE_203 (by omega) hP hS (lv_sub hl [0, 1, 2, 3] rfl)
    · refine w_iconst S dX7_takes_215 (by decide) (fun k164 hk164 => ?_)
      refine lv_istore (lv' := [(5, .int k164), (0, .ref (g.1 89)), (1, .int po), (4, .int y203_4)]) S.1 S.2.1 dX7_takes_216 hl (by decide) rfl (fun ls hl => ?_)
      exact J218 _ _ _ _ y203_4 k164 hI_203 hT_203 hE_203 (by omega) hP hS (lv_sub hl [1, 2, 3, 0] rfl)
  have J188 : ∀ (x_188 : St) (H : Heap) (locs : List Loc) (ls : Array Slot) (y188_4 : Int32) (y188_5 : Int32), Inv x_188 → Same (TM) x x_188 → Rel x_188 → ((x_188 89 33).toInt = 0) → va_P D vwCl (WL g x_188) H → va_S (AQ g) s.heap H locs → lv_has ls 6 [(0, .ref (g.1 89)), (1, .int po), (4, .int y188_4), (5, .int y188_5)] → W p l e ({ frames := 5, cells := 0, slots := 0, locals := 112 } : Room) s m ([.ref (g.1 89), .int po, .int b0, .int fl] : List Value).toArray below meth co H locs 0 0 (MQ below (va_Qv (fun x2 => Inv x2 ∧ Same (TM) x x2 ∧ Rel x2 ∧ (x2 89 33).toInt = 0) (WO D g) (AQ g)) ([.ref (g.1 89), .int po, .int b0, .int fl] : List Value).toArray s 0 0 (AQ g)) (F0 m 188 ls []) := by
    intro x_188 H locs ls y188_4 y188_5 hI_188 hT_188 hE_188 hf188_0 hP hS hl
    refine lv_iload S.1 S.2.1 dX7_takes_188 (lv_at hl 2 rfl) ?_
    refine lv_aload_n S.1 S.2.1 dX7_takes_190 rfl (lv_at hl 0 rfl) ?_
    refine lv_iload_n S.1 S.2.1 dX7_takes_191 rfl (lv_at hl 1 rfl) ?_
    refine w_bipush S dX7_takes_192 (by decide) (fun k165 hk165 => ?_)
    refine w_cVi (As := [.int po, .int k165]) (rest := [.int y188_4]) S hK hN hP hS hl 89 (by decide) (ceK89 _) rfl (c_X7_mode1 l D g hg x_188 hI_188 po k165 (by omega) (by omega)) (cwV 2 hts gX7_takes_X7_mode1 rfl rfl rfl (by decide +kernel) ⟨Nat.le_of_ble_eq_true rfl, Nat.le_of_ble_eq_true rfl⟩) rfl rfl (Nat.le_of_ble_eq_true rfl) dX7_takes_194 ⟨Nat.zero_le _, Nat.zero_le _⟩ (fun r167 x166 H locs hq168 hP hS => ?_)
    obtain ⟨ex169, hf170⟩ := hq168
    rw [ex169] at hP
    refine w_icmp_ne (tgt := 203) S dX7_takes_197 (by decide) (fun hb171 => ?_) (fun hb171 => ?_)
    · exact J203 _ _ _ _ y188_4 y188_5 hI_188 hT_188 hE_188 (by omega) hP hS (lv_sub hl [0, 1, 2, 3] rfl)
    · refine w_iconst S dX7_takes_200 (by decide) (fun k172 hk172 => ?_)
      refine lv_istore (lv' := [(5, .int k172), (0, .ref (g.1 89)), (1, .int po), (4, .int y188_4)]) S.1 S.2.1 dX7_takes_201 hl (by decide) rfl (fun ls hl => ?_)
      exact J203 _ _ _ _ y188_4 k172 hI_188 hT_188 hE_188 (by omega) hP hS (lv_sub hl [1, 2, 3, 0] rfl)
  have J161 : ∀ (x_161 : St) (H : Heap) (locs : List Loc) (ls : Array Slot) (y161_4 : Int32), Inv x_161 → Same (TM) x x_161 → Rel x_161 → ((x_161 89 33).toInt = 0) → va_P D vwCl (WL g x_161) H → va_S (AQ g) s.heap H locs → lv_has ls 6 [(0, .ref (g.1 89)), (1, .int po), (4, .int y161_4)] → W p l e ({ frames := 5, cells := 0, slots := 0, locals := 112 } : Room) s m ([.ref (g.1 89), .int po, .int b0, .int fl] : List Value).toArray below meth co H locs 0 0 (MQ below (va_Qv (fun x2 => Inv x2 ∧ Same (TM) x x2 ∧ Rel x2 ∧ (x2 89 33).toInt = 0) (WO D g) (AQ g)) ([.ref (g.1 89), .int po, .int b0, .int fl] : List Value).toArray s 0 0 (AQ g)) (F0 m 161 ls []) := by
    intro x_161 H locs ls y161_4 hI_161 hT_161 hE_161 hf161_0 hP hS hl
    refine lv_aload_n S.1 S.2.1 dX7_takes_161 rfl (lv_at hl 0 rfl) ?_
    refine lv_iload_n S.1 S.2.1 dX7_takes_162 rfl (lv_at hl 1 rfl) ?_
    refine w_iconst S dX7_takes_163 (by decide) (fun k173 hk173 => ?_)
    refine w_cVi (As := [.int po, .int k173]) (rest := []) S hK hN hP hS hl 89 (by decide) (ceK89 _) rfl (c_X7_on l D g hg x_161 hI_161 po k173 (by omega) (by omega)) (cwV 2 hts gX7_takes_X7_on rfl rfl rfl (by decide +kernel) ⟨Nat.le_of_ble_eq_true rfl, Nat.le_of_ble_eq_true rfl⟩) rfl rfl (Nat.le_of_ble_eq_true rfl) dX7_takes_164 ⟨Nat.zero_le _, Nat.zero_le _⟩ (fun r175 x174 H locs hq176 hP hS => ?_)
    obtain ⟨ex177, hf178⟩ := hq176
    rw [ex177] at hP
    refine w_if_eq (tgt := 233) S dX7_takes_167 (by decide) (fun hb179 => ?_) (fun hb179 => ?_)
    · exact J233 _ _ _ _ y161_4 hI_161 hT_161 hE_161 (by omega) hP hS (lv_sub hl [0, 1, 2] rfl)
    · refine w_iconst S dX7_takes_170 (by decide) (fun k180 hk180 => ?_)
      refine lv_istore (lv' := [(5, .int k180), (0, .ref (g.1 89)), (1, .int po), (4, .int y161_4)]) S.1 S.2.1 dX7_takes_171 hl (by decide) rfl (fun ls hl => ?_)
      refine lv_iload S.1 S.2.1 dX7_takes_173 (lv_at hl 3 rfl) ?_
      refine lv_aload_n S.1 S.2.1 dX7_takes_175 rfl (lv_at hl 1 rfl) ?_
      refine lv_iload_n S.1 S.2.1 dX7_takes_176 rfl (lv_at hl 2 rfl) ?_
      refine w_bipush S dX7_takes_177 (by decide) (fun k181 hk181 => ?_)
      refine w_cVi (As := [.int po, .int k181]) (rest := [.int y161_4]) S hK hN hP hS hl 89 (by decide) (ceK89 _) rfl (c_X7_mode1 l D g hg x_161 hI_161 po k181 (by omega) (by omega)) (cwV 2 hts gX7_takes_X7_mode1 rfl rfl rfl (by decide +kernel) ⟨Nat.le_of_ble_eq_true rfl, Nat.le_of_ble_eq_true rfl⟩) rfl rfl (Nat.le_of_ble_eq_true rfl) dX7_takes_179 ⟨Nat.zero_le _, Nat.zero_le _⟩ (fun r183 x182 H locs hq184 hP hS => ?_)
      obtain ⟨ex185, hf186⟩ := hq184
      rw [ex185] at hP
      refine w_icmp_ne (tgt := 188) S dX7_takes_182 (by decide) (fun hb187 => ?_) (fun hb187 => ?_)
      · exact J188 _ _ _ _ y161_4 k180 hI_161 hT_161 hE_161 (by omega) hP hS (lv_sub hl [1, 2, 3, 0] rfl)
      · refine w_iconst S dX7_takes_185 (by decide) (fun k188 hk188 => ?_)
        refine lv_istore (lv' := [(5, .int k188), (0, .ref (g.1 89)), (1, .int po), (4, .int y161_4)]) S.1 S.2.1 dX7_takes_186 hl (by decide) rfl (fun ls hl => ?_)
        exact J188 _ _ _ _ y161_4 k188 hI_161 hT_161 hE_161 (by omega) hP hS (lv_sub hl [1, 2, 3, 0] rfl)
  refine lv_iload_n S.1 S.2.1 dX7_takes_0 rfl (lv_at hl 2 rfl) ?_
  refine lv_istore (lv' := [(4, .int b0), (0, .ref (g.1 89)), (1, .int po), (2, .int b0), (3, .int fl)]) S.1 S.2.1 dX7_takes_1 hl (by decide) rfl (fun ls hl => ?_)
  refine lv_iload_n S.1 S.2.1 dX7_takes_3 rfl (lv_at hl 4 rfl) ?_
  refine w_iconst S dX7_takes_4 (by decide) (fun k189 hk189 => ?_)
  refine w_icmp_lt (tgt := 40) S dX7_takes_5 (by decide) (fun hb190 => ?_) (fun hb190 => ?_)
  · refine lv_iload_n S.1 S.2.1 dX7_takes_40 rfl (lv_at hl 4 rfl) ?_
    refine w_iconst S dX7_takes_41 (by decide) (fun k191 hk191 => ?_)
    refine w_icmp_ne (tgt := 79) S dX7_takes_42 (by decide) (fun hb192 => ?_) (fun hb192 => ?_)
    · refine lv_aload_n S.1 S.2.1 dX7_takes_79 rfl (lv_at hl 1 rfl) ?_
      refine w_get (C := RX7) (T := TX7) (N := 34) S (fun _ h => List.mem_cons_of_mem _ (List.mem_append_right _ h)) hK hP 89 (by decide) (ceK89 _) rfl 15 (by decide) (hts _ (List.mem_of_getElem? (i := 2) rfl)) (v := .ref (g.1 104)) rfl dX7_takes_80 ?_
      refine lv_iload_n S.1 S.2.1 dX7_takes_83 rfl (lv_at hl 2 rfl) ?_
      refine w_zald S hK hP 104 (by decide) ceK104 (by omega) (by omega) dX7_takes_84 (fun v193 ev193 => ?_)
      have wv193 : v193.toInt = (x 104 po.toInt.toNat).toInt := by rw [ev193]
      have rv193 : (0 : Int) ≤ v193.toInt ∧ v193.toInt ≤ (1 : Int) := by rw [ev193]; exact hI 104 _
      refine w_if_eq (tgt := 96) S dX7_takes_85 (by decide) (fun hb194 => ?_) (fun hb194 => ?_)
      · refine lv_aload_n S.1 S.2.1 dX7_takes_96 rfl (lv_at hl 1 rfl) ?_
        refine lv_iload_n S.1 S.2.1 dX7_takes_97 rfl (lv_at hl 2 rfl) ?_
        refine w_iconst S dX7_takes_98 (by decide) (fun k195 hk195 => ?_)
        refine w_cVi (As := [.int po, .int k195]) (rest := []) S hK hN hP hS hl 89 (by decide) (ceK89 _) rfl (c_X7_on l D g hg x hI po k195 (by omega) (by omega)) (cwV 2 hts gX7_takes_X7_on rfl rfl rfl (by decide +kernel) ⟨Nat.le_of_ble_eq_true rfl, Nat.le_of_ble_eq_true rfl⟩) rfl rfl (Nat.le_of_ble_eq_true rfl) dX7_takes_99 ⟨Nat.zero_le _, Nat.zero_le _⟩ (fun r197 x196 H locs hq198 hP hS => ?_)
        obtain ⟨ex199, hf200⟩ := hq198
        rw [ex199] at hP
        refine w_if_eq (tgt := 161) S dX7_takes_102 (by decide) (fun hb201 => ?_) (fun hb201 => ?_)
        · exact J161 _ _ _ _ b0 hI hT hE (by omega) hP hS (lv_sub hl [1, 2, 0] rfl)
        · refine lv_iload S.1 S.2.1 dX7_takes_105 (lv_at hl 0 rfl) ?_
          refine lv_aload_n S.1 S.2.1 dX7_takes_107 rfl (lv_at hl 1 rfl) ?_
          refine lv_iload_n S.1 S.2.1 dX7_takes_108 rfl (lv_at hl 2 rfl) ?_
          refine w_bipush S dX7_takes_109 (by decide) (fun k202 hk202 => ?_)
          refine w_cVi (As := [.int po, .int k202]) (rest := [.int b0]) S hK hN hP hS hl 89 (by decide) (ceK89 _) rfl (c_X7_mode1 l D g hg x hI po k202 (by omega) (by omega)) (cwV 2 hts gX7_takes_X7_mode1 rfl rfl rfl (by decide +kernel) ⟨Nat.le_of_ble_eq_true rfl, Nat.le_of_ble_eq_true rfl⟩) rfl rfl (Nat.le_of_ble_eq_true rfl) dX7_takes_111 ⟨Nat.zero_le _, Nat.zero_le _⟩ (fun r204 x203 H locs hq205 hP hS => ?_)
          obtain ⟨ex206, hf207⟩ := hq205
          rw [ex206] at hP
          refine w_icmp_ne (tgt := 125) S dX7_takes_114 (by decide) (fun hb208 => ?_) (fun hb208 => ?_)
          · refine lv_iload S.1 S.2.1 dX7_takes_125 (lv_at hl 0 rfl) ?_
            refine lv_aload_n S.1 S.2.1 dX7_takes_127 rfl (lv_at hl 1 rfl) ?_
            refine lv_iload_n S.1 S.2.1 dX7_takes_128 rfl (lv_at hl 2 rfl) ?_
            refine w_bipush S dX7_takes_129 (by decide) (fun k209 hk209 => ?_)
            refine w_cVi (As := [.int po, .int k209]) (rest := [.int b0]) S hK hN hP hS hl 89 (by decide) (ceK89 _) rfl (c_X7_mode1 l D g hg x hI po k209 (by omega) (by omega)) (cwV 2 hts gX7_takes_X7_mode1 rfl rfl rfl (by decide +kernel) ⟨Nat.le_of_ble_eq_true rfl, Nat.le_of_ble_eq_true rfl⟩) rfl rfl (Nat.le_of_ble_eq_true rfl) dX7_takes_131 ⟨Nat.zero_le _, Nat.zero_le _⟩ (fun r211 x210 H locs hq212 hP hS => ?_)
            obtain ⟨ex213, hf214⟩ := hq212
            rw [ex213] at hP
            refine w_icmp_ne (tgt := 145) S dX7_takes_134 (by decide) (fun hb215 => ?_) (fun hb215 => ?_)
            · refine lv_aload_n S.1 S.2.1 dX7_takes_145 rfl (lv_at hl 1 rfl) ?_
              refine lv_iload_n S.1 S.2.1 dX7_takes_146 rfl (lv_at hl 2 rfl) ?_
              refine w_iconst S dX7_takes_147 (by decide) (fun k216 hk216 => ?_)
              refine w_cVi (As := [.int po, .int k216]) (rest := []) S hK hN hP hS hl 89 (by decide) (ceK89 _) rfl (c_X7_on l D g hg x hI po k216 (by omega) (by omega)) (cwV 2 hts gX7_takes_X7_on rfl rfl rfl (by decide +kernel) ⟨Nat.le_of_ble_eq_true rfl, Nat.le_of_ble_eq_true rfl⟩) rfl rfl (Nat.le_of_ble_eq_true rfl) dX7_takes_148 ⟨Nat.zero_le _, Nat.zero_le _⟩ (fun r218 x217 H locs hq219 hP hS => ?_)
              obtain ⟨ex220, hf221⟩ := hq219
              rw [ex220] at hP
              refine w_if_eq (tgt := 161) S dX7_takes_151 (by decide) (fun hb222 => ?_) (fun hb222 => ?_)
              · exact J161 _ _ _ _ b0 hI hT hE (by omega) hP hS (lv_sub hl [1, 2, 0] rfl)
              · refine lv_aload_n S.1 S.2.1 dX7_takes_154 rfl (lv_at hl 1 rfl) ?_
                refine w_get (C := RX7) (T := TX7) (N := 34) S (fun _ h => List.mem_cons_of_mem _ (List.mem_append_right _ h)) hK hP 89 (by decide) (ceK89 _) rfl 14 (by decide) (hts _ (List.mem_of_getElem? (i := 3) rfl)) (v := .ref (g.1 103)) rfl dX7_takes_155 ?_
                refine lv_iload_n S.1 S.2.1 dX7_takes_158 rfl (lv_at hl 2 rfl) ?_
                refine w_iconst S dX7_takes_159 (by decide) (fun k223 hk223 => ?_)
                refine w_zast S hK hg hP hS 103 (by decide) ceK103 (z01 (by omega) (by omega)) (by omega) (by omega) dX7_takes_160 (fun x224 H locs ex224 hP hS => ?_)
                have hI225 : Inv x224 := by rw [ex224]; exact hI.up (show (0 : Int) ≤ _ by omega) (show _ ≤ (1 : Int) by omega)
                have hT226 : Same (TM) x x224 := by rw [ex224]; exact hT.up (by unfold TM TrM; omega)
                have hE227 : Rel x224 := by rw [ex224]; exact Rel.oth hE (by decide) (by decide)
                have u228 : (x224 89 (33)).toInt = (x 89 (33)).toInt := by rw [ex224, up2_ne _ _ (by omega)]
                exact J161 _ _ _ _ b0 hI225 hT226 hE227 (by omega) hP hS (lv_sub hl [1, 2, 0] rfl)
            · refine lv_aload_n S.1 S.2.1 dX7_takes_137 rfl (lv_at hl 1 rfl) ?_
              refine w_get (C := RX7) (T := TX7) (N := 34) S (fun _ h => List.mem_cons_of_mem _ (List.mem_append_right _ h)) hK hP 89 (by decide) (ceK89 _) rfl 14 (by decide) (hts _ (List.mem_of_getElem? (i := 3) rfl)) (v := .ref (g.1 103)) rfl dX7_takes_138 ?_
              refine lv_iload_n S.1 S.2.1 dX7_takes_141 rfl (lv_at hl 2 rfl) ?_
              refine w_iconst S dX7_takes_142 (by decide) (fun k229 hk229 => ?_)
              refine w_zast S hK hg hP hS 103 (by decide) ceK103 (z01 (by omega) (by omega)) (by omega) (by omega) dX7_takes_143 (fun x230 H locs ex230 hP hS => ?_)
              have hI231 : Inv x230 := by rw [ex230]; exact hI.up (show (0 : Int) ≤ _ by omega) (show _ ≤ (1 : Int) by omega)
              have hT232 : Same (TM) x x230 := by rw [ex230]; exact hT.up (by unfold TM TrM; omega)
              have hE233 : Rel x230 := by rw [ex230]; exact Rel.oth hE (by decide) (by decide)
              have u234 : (x230 89 (33)).toInt = (x 89 (33)).toInt := by rw [ex230, up2_ne _ _ (by omega)]
              exact w_vret S hr0 hlk hP hS dX7_takes_144 (⟨hI231, hT232, hE233, by omega⟩)
          · refine lv_aload_n S.1 S.2.1 dX7_takes_117 rfl (lv_at hl 1 rfl) ?_
            refine w_get (C := RX7) (T := TX7) (N := 34) S (fun _ h => List.mem_cons_of_mem _ (List.mem_append_right _ h)) hK hP 89 (by decide) (ceK89 _) rfl 14 (by decide) (hts _ (List.mem_of_getElem? (i := 3) rfl)) (v := .ref (g.1 103)) rfl dX7_takes_118 ?_
            refine lv_iload_n S.1 S.2.1 dX7_takes_121 rfl (lv_at hl 2 rfl) ?_
            refine w_iconst S dX7_takes_122 (by decide) (fun k235 hk235 => ?_)
            refine w_zast S hK hg hP hS 103 (by decide) ceK103 (z01 (by omega) (by omega)) (by omega) (by omega) dX7_takes_123 (fun x236 H locs ex236 hP hS => ?_)
            have hI237 : Inv x236 := by rw [ex236]; exact hI.up (show (0 : Int) ≤ _ by omega) (show _ ≤ (1 : Int) by omega)
            have hT238 : Same (TM) x x236 := by rw [ex236]; exact hT.up (by unfold TM TrM; omega)
            have hE239 : Rel x236 := by rw [ex236]; exact Rel.oth hE (by decide) (by decide)
            have u240 : (x236 89 (33)).toInt = (x 89 (33)).toInt := by rw [ex236, up2_ne _ _ (by omega)]
            exact w_vret S hr0 hlk hP hS dX7_takes_124 (⟨hI237, hT238, hE239, by omega⟩)
      · refine lv_aload_n S.1 S.2.1 dX7_takes_88 rfl (lv_at hl 1 rfl) ?_
        refine lv_iload_n S.1 S.2.1 dX7_takes_89 rfl (lv_at hl 2 rfl) ?_
        refine lv_iload S.1 S.2.1 dX7_takes_90 (lv_at hl 0 rfl) ?_
        refine w_cVv (As := [.int po, .int b0]) (rest := []) S hK hN hP hS hl 89 (by decide) (ceK89 _) rfl (c_X7_asItIs l D g hg x hI hE po b0 (by omega) (by omega)) (cwV 2 hts gX7_takes_X7_asItIs rfl rfl rfl (by decide +kernel) ⟨Nat.le_of_ble_eq_true rfl, Nat.le_of_ble_eq_true rfl⟩) rfl rfl (Nat.le_of_ble_eq_true rfl) dX7_takes_92 ⟨Nat.zero_le _, Nat.zero_le _⟩ (fun x241 H locs hq243 hP hS => ?_)
        obtain ⟨hI244, hT245, hE247, hf246⟩ := hq243
        have hT248 : Same (TM) x x241 := hT.tr hT245 (fun _ _ h => h)
        exact w_vret S hr0 hlk hP hS dX7_takes_95 (⟨hI244, hT248, hE247, by omega⟩)
    · refine lv_aload_n S.1 S.2.1 dX7_takes_45 rfl (lv_at hl 1 rfl) ?_
      refine lv_iload_n S.1 S.2.1 dX7_takes_46 rfl (lv_at hl 2 rfl) ?_
      refine w_bipush S dX7_takes_47 (by decide) (fun k249 hk249 => ?_)
      refine w_cVi (As := [.int po, .int k249]) (rest := []) S hK hN hP hS hl 89 (by decide) (ceK89 _) rfl (c_X7_on l D g hg x hI po k249 (by omega) (by omega)) (cwV 2 hts gX7_takes_X7_on rfl rfl rfl (by decide +kernel) ⟨Nat.le_of_ble_eq_true rfl, Nat.le_of_ble_eq_true rfl⟩) rfl rfl (Nat.le_of_ble_eq_true rfl) dX7_takes_49 ⟨Nat.zero_le _, Nat.zero_le _⟩ (fun r251 x250 H locs hq252 hP hS => ?_)
      obtain ⟨ex253, hf254⟩ := hq252
      rw [ex253] at hP
      refine w_if_eq (tgt := 64) S dX7_takes_52 (by decide) (fun hb255 => ?_) (fun hb255 => ?_)
      · refine lv_aload_n S.1 S.2.1 dX7_takes_64 rfl (lv_at hl 1 rfl) ?_
        refine w_get (C := RX7) (T := TX7) (N := 34) S (fun _ h => List.mem_cons_of_mem _ (List.mem_append_right _ h)) hK hP 89 (by decide) (ceK89 _) rfl 31 (by decide) (hts _ (List.mem_of_getElem? (i := 1) rfl)) (v := .ref (g.1 120)) rfl dX7_takes_65 ?_
        refine w_iconst S dX7_takes_68 (by decide) (fun k256 hk256 => ?_)
        refine lv_iload_n S.1 S.2.1 dX7_takes_69 rfl (lv_at hl 2 rfl) ?_
        refine w_imulk S dX7_takes_70 5 hk256 (by omega) (by omega) (fun v257 hv257 => ?_)
        refine w_iconst S dX7_takes_71 (by decide) (fun k258 hk258 => ?_)
        refine w_iadd S dX7_takes_72 (by omega) (by omega) (fun v259 hv259 => ?_)
        refine lv_dup2_11 S.1 S.2.1 dX7_takes_73 rfl rfl ?_
        refine w_iald S hK hP 120 (by decide) ceK120 (by omega) (by omega) dX7_takes_74 (fun v260 ev260 => ?_)
        have wv260 : v260.toInt = (x 120 v259.toInt.toNat).toInt := by rw [ev260]
        refine w_iconst S dX7_takes_75 (by decide) (fun k261 hk261 => ?_)
        refine lv_iadd S.1 S.2.1 dX7_takes_76 ?_
        refine w_any1 (fun v262 => ?_)
        refine w_iast S hK hg hP hS 120 (by decide) ceK120 (by omega) (by omega) dX7_takes_77 (fun x263 H locs ex263 hP hS => ?_)
        have hI264 : Inv x263 := by rw [ex263]; exact hI.up (i_ge _) (i_le _)
        have hT265 : Same (TM) x x263 := by rw [ex263]; exact hT.up (by unfold TM TrM; omega)
        have hE266 : Rel x263 := by rw [ex263]; exact Rel.oth hE (by decide) (by decide)
        have u267 : (x263 89 (33)).toInt = (x 89 (33)).toInt := by rw [ex263, up2_ne _ _ (by omega)]
        exact w_vret S hr0 hlk hP hS dX7_takes_78 (⟨hI264, hT265, hE266, by omega⟩)
      · refine lv_aload_n S.1 S.2.1 dX7_takes_55 rfl (lv_at hl 1 rfl) ?_
        refine lv_iload_n S.1 S.2.1 dX7_takes_56 rfl (lv_at hl 2 rfl) ?_
        refine w_iconst S dX7_takes_57 (by decide) (fun k268 hk268 => ?_)
        refine w_cVv (As := [.int po, .int k268]) (rest := []) S hK hN hP hS hl 89 (by decide) (ceK89 _) rfl (c_X7_asItIs l D g hg x hI hE po k268 (by omega) (by omega)) (cwV 2 hts gX7_takes_X7_asItIs rfl rfl rfl (by decide +kernel) ⟨Nat.le_of_ble_eq_true rfl, Nat.le_of_ble_eq_true rfl⟩) rfl rfl (Nat.le_of_ble_eq_true rfl) dX7_takes_58 ⟨Nat.zero_le _, Nat.zero_le _⟩ (fun x269 H locs hq271 hP hS => ?_)
        obtain ⟨hI272, hT273, hE275, hf274⟩ := hq271
        have hT276 : Same (TM) x x269 := hT.tr hT273 (fun _ _ h => h)
        refine lv_goto (tgt := 78) S.1 S.2.1 dX7_takes_61 (by decide) ?_
        exact w_vret S hr0 hlk hP hS dX7_takes_78 (⟨hI272, hT276, hE275, by omega⟩)
  · refine lv_aload_n S.1 S.2.1 dX7_takes_8 rfl (lv_at hl 1 rfl) ?_
    refine lv_iload_n S.1 S.2.1 dX7_takes_9 rfl (lv_at hl 2 rfl) ?_
    refine w_iconst S dX7_takes_10 (by decide) (fun k277 hk277 => ?_)
    refine w_cVi (As := [.int po, .int k277]) (rest := []) S hK hN hP hS hl 89 (by decide) (ceK89 _) rfl (c_X7_on l D g hg x hI po k277 (by omega) (by omega)) (cwV 2 hts gX7_takes_X7_on rfl rfl rfl (by decide +kernel) ⟨Nat.le_of_ble_eq_true rfl, Nat.le_of_ble_eq_true rfl⟩) rfl rfl (Nat.le_of_ble_eq_true rfl) dX7_takes_11 ⟨Nat.zero_le _, Nat.zero_le _⟩ (fun r279 x278 H locs hq280 hP hS => ?_)
    obtain ⟨ex281, hf282⟩ := hq280
    rw [ex281] at hP
    refine w_if_eq (tgt := 33) S dX7_takes_14 (by decide) (fun hb283 => ?_) (fun hb283 => ?_)
    · refine lv_aload_n S.1 S.2.1 dX7_takes_33 rfl (lv_at hl 1 rfl) ?_
      refine lv_iload_n S.1 S.2.1 dX7_takes_34 rfl (lv_at hl 2 rfl) ?_
      refine w_iconst S dX7_takes_35 (by decide) (fun k284 hk284 => ?_)
      refine w_cVv (As := [.int po, .int k284]) (rest := []) S hK hN hP hS hl 89 (by decide) (ceK89 _) rfl (c_X7_asItIs l D g hg x hI hE po k284 (by omega) (by omega)) (cwV 2 hts gX7_takes_X7_asItIs rfl rfl rfl (by decide +kernel) ⟨Nat.le_of_ble_eq_true rfl, Nat.le_of_ble_eq_true rfl⟩) rfl rfl (Nat.le_of_ble_eq_true rfl) dX7_takes_36 ⟨Nat.zero_le _, Nat.zero_le _⟩ (fun x285 H locs hq287 hP hS => ?_)
      obtain ⟨hI288, hT289, hE291, hf290⟩ := hq287
      have hT292 : Same (TM) x x285 := hT.tr hT289 (fun _ _ h => h)
      exact w_vret S hr0 hlk hP hS dX7_takes_39 (⟨hI288, hT292, hE291, by omega⟩)
    · refine lv_aload_n S.1 S.2.1 dX7_takes_17 rfl (lv_at hl 1 rfl) ?_
      refine lv_iload_n S.1 S.2.1 dX7_takes_18 rfl (lv_at hl 2 rfl) ?_
      refine lv_aload_n S.1 S.2.1 dX7_takes_19 rfl (lv_at hl 1 rfl) ?_
      refine lv_iload_n S.1 S.2.1 dX7_takes_20 rfl (lv_at hl 2 rfl) ?_
      refine w_bipush S dX7_takes_21 (by decide) (fun k293 hk293 => ?_)
      refine w_cVi (As := [.int po, .int k293]) (rest := [.int po, .ref (g.1 89)]) S hK hN hP hS hl 89 (by decide) (ceK89 _) rfl (c_X7_mode1 l D g hg x hI po k293 (by omega) (by omega)) (cwV 2 hts gX7_takes_X7_mode1 rfl rfl rfl (by decide +kernel) ⟨Nat.le_of_ble_eq_true rfl, Nat.le_of_ble_eq_true rfl⟩) rfl rfl (Nat.le_of_ble_eq_true rfl) dX7_takes_23 ⟨Nat.zero_le _, Nat.zero_le _⟩ (fun r295 x294 H locs hq296 hP hS => ?_)
      obtain ⟨ex297, hf298⟩ := hq296
      rw [ex297] at hP
      refine w_iconst S dX7_takes_26 (by decide) (fun k299 hk299 => ?_)
      refine w_cVv (As := [.int po, .int r295, .int k299]) (rest := []) S hK hN hP hS hl 89 (by decide) (ceK89 _) rfl (c_X7_signal l D g hg x hI hE po r295 k299 (by omega) (by omega)) (cwV 3 hts gX7_takes_X7_signal rfl rfl rfl (by decide +kernel) ⟨Nat.le_of_ble_eq_true rfl, Nat.le_of_ble_eq_true rfl⟩) rfl rfl (Nat.le_of_ble_eq_true rfl) dX7_takes_27 ⟨Nat.zero_le _, Nat.zero_le _⟩ (fun x300 H locs hq302 hP hS => ?_)
      obtain ⟨hI303, hT304, hE306, hf305⟩ := hq302
      have hT307 : Same (TM) x x300 := hT.tr hT304 (fun _ _ h => h)
      refine lv_goto (tgt := 39) S.1 S.2.1 dX7_takes_30 (by decide) ?_
      exact w_vret S hr0 hlk hP hS dX7_takes_39 (⟨hI303, hT307, hE306, by omega⟩)
set_option maxRecDepth 100000 in
set_option maxHeartbeats 4000000 in
theorem c_X7_pass (l : Launch) (D : va_G) (g : GA) (hg : Inj g) (x : St) (hI : Inv x) (hE : Rel x) (po : Int32) (hy0 : 0 ≤ po.toInt ∧ po.toInt < 4) (hy1 : (x 89 33).toInt = 0) : Met l yX7_pass wsX7_pass ({ frames := 6, cells := 0, slots := 0, locals := 137 } : Room) (va_Pc [.ref (g.1 89), .int po] (WI D g x)) (va_Qv (fun x2 => Inv x2 ∧ Same (TMr po.toInt.toNat) x x2 ∧ Rel x2 ∧ (x2 89 33).toInt = 0 ∧ (x2 93 (po.toInt.toNat)).toInt = 0 ∧ ((x 93 (po.toInt.toNat)).toInt = 0 → Same (fun c _ => c ≠ 93) x x2)) (WO D g) (AQ g)) 0 0 (AQ g) := by
  refine w_met (cc := cX7_pass) (maxL := 3) (ret := none) (own := RX7) (by decide) rfl rfl (Nat.le_of_ble_eq_true rfl) (fun p e s m below meth co S hr0 hlk hK hN hP hS ls hl => ?_)
  have hts := S.2.2.2.2
  have hl : lv_has ls 3 [(0, .ref (g.1 89)), (1, .int po)] := hl
  have hT : Same (TMr po.toInt.toNat) x x := Same.rf
  have J2 : ∀ (n0 : Nat) (x_2 : St) (H : Heap) (locs : List Loc) (ls : Array Slot) (y2_2 : Int32), Inv x_2 → Same (TMr po.toInt.toNat) x x_2 → Rel x_2 → (0 ≤ y2_2.toInt) → ((x_2 89 33).toInt = 0) → ((x_2 93 (po.toInt.toNat)).toInt = (x 93 (po.toInt.toNat)).toInt) → ((x 93 (po.toInt.toNat)).toInt = 0 → x_2 = x) → (y2_2.toInt ≤ 8) → (8 - y2_2.toInt).toNat < n0 → va_P D vwCl (WL g x_2) H → va_S (AQ g) s.heap H locs → lv_has ls 3 [(0, .ref (g.1 89)), (1, .int po), (2, .int y2_2)] → W p l e ({ frames := 6, cells := 0, slots := 0, locals := 137 } : Room) s m ([.ref (g.1 89), .int po] : List Value).toArray below meth co H locs 0 0 (MQ below (va_Qv (fun x2 => Inv x2 ∧ Same (TMr po.toInt.toNat) x x2 ∧ Rel x2 ∧ (x2 89 33).toInt = 0 ∧ (x2 93 (po.toInt.toNat)).toInt = 0 ∧ ((x 93 (po.toInt.toNat)).toInt = 0 → Same (fun c _ => c ≠ 93) x x2)) (WO D g) (AQ g)) ([.ref (g.1 89), .int po] : List Value).toArray s 0 0 (AQ g)) (F0 m 2 ls []) := by
    intro n0
    induction n0 with
    | zero => intro x_2 H locs ls y2_2 hI_2 hT_2 hE_2 hf2_0 hf2_1 hf2_2 hf2_3 hf2_4 hm_2 hP hS hl; exact absurd hm_2 (Nat.not_lt_zero _)
    | succ n0 ih2 =>
      intro x_2 H locs ls y2_2 hI_2 hT_2 hE_2 hf2_0 hf2_1 hf2_2 hf2_3 hf2_4 hm_2 hP hS hl
      refine lv_iload_n S.1 S.2.1 dX7_pass_2 rfl (lv_at hl 2 rfl) ?_
      refine lv_aload_n S.1 S.2.1 dX7_pass_3 rfl (lv_at hl 0 rfl) ?_
      refine w_get (C := RX7) (T := TX7) (N := 34) S (fun _ h => List.mem_cons_of_mem _ (List.mem_append_right _ h)) hK hP 89 (by decide) (ceK89 _) rfl 4 (by decide) (hts _ (List.mem_of_getElem? (i := 1) rfl)) (v := .ref (g.1 93)) rfl dX7_pass_4 ?_
      refine lv_iload_n S.1 S.2.1 dX7_pass_7 rfl (lv_at hl 1 rfl) ?_
      refine w_iald S hK hP 93 (by decide) ceK93 (by omega) (by omega) dX7_pass_8 (fun v1 ev1 => ?_)
      have wv1 : v1.toInt = (x_2 93 po.toInt.toNat).toInt := by rw [ev1]
      have rv1 : (0 : Int) ≤ v1.toInt ∧ v1.toInt ≤ (8 : Int) := by rw [ev1]; exact hI_2 93 _
      refine w_icmp_ge (tgt := 45) S dX7_pass_9 (by decide) (fun hb2 => ?_) (fun hb2 => ?_)
      · refine lv_aload_n S.1 S.2.1 dX7_pass_45 rfl (lv_at hl 0 rfl) ?_
        refine w_get (C := RX7) (T := TX7) (N := 34) S (fun _ h => List.mem_cons_of_mem _ (List.mem_append_right _ h)) hK hP 89 (by decide) (ceK89 _) rfl 4 (by decide) (hts _ (List.mem_of_getElem? (i := 1) rfl)) (v := .ref (g.1 93)) rfl dX7_pass_46 ?_
        refine lv_iload_n S.1 S.2.1 dX7_pass_49 rfl (lv_at hl 1 rfl) ?_
        refine w_iconst S dX7_pass_50 (by decide) (fun k3 hk3 => ?_)
        refine w_iast S hK hg hP hS 93 (by decide) ceK93 (by omega) (by omega) dX7_pass_51 (fun x4 H locs ex4 hP hS => ?_)
        have hI5 : Inv x4 := by rw [ex4]; exact hI_2.up (show (0 : Int) ≤ _ by omega) (show _ ≤ (8 : Int) by omega)
        have hT6 : Same (TMr po.toInt.toNat) x x4 := by rw [ex4]; exact hT_2.up (by unfold TMr TM TrM; omega)
        have hE7 : Rel x4 := by rw [ex4]; exact Rel.oth hE_2 (by decide) (by decide)
        have u8 : (x4 89 (33)).toInt = (x_2 89 (33)).toInt := by rw [ex4, up2_ne _ _ (by omega)]
        have u9 : (x4 93 (po.toInt.toNat)).toInt = k3.toInt := by rw [ex4, up2_at]
        exact w_vret S hr0 hlk hP hS dX7_pass_52 (⟨hI5, hT6, hE7, by omega, by omega, fun h0 => by rw [ex4, hf2_3 h0]; exact Same.rf.up (by omega)⟩)
      · refine lv_aload_n S.1 S.2.1 dX7_pass_12 rfl (lv_at hl 0 rfl) ?_
        refine lv_iload_n S.1 S.2.1 dX7_pass_13 rfl (lv_at hl 1 rfl) ?_
        refine lv_aload_n S.1 S.2.1 dX7_pass_14 rfl (lv_at hl 0 rfl) ?_
        refine w_get (C := RX7) (T := TX7) (N := 34) S (fun _ h => List.mem_cons_of_mem _ (List.mem_append_right _ h)) hK hP 89 (by decide) (ceK89 _) rfl 2 (by decide) (hts _ (List.mem_of_getElem? (i := 2) rfl)) (v := .ref (g.1 91)) rfl dX7_pass_15 ?_
        refine w_bipush S dX7_pass_18 (by decide) (fun k10 hk10 => ?_)
        refine lv_iload_n S.1 S.2.1 dX7_pass_20 rfl (lv_at hl 1 rfl) ?_
        refine w_imulk S dX7_pass_21 8 hk10 (by omega) (by omega) (fun v11 hv11 => ?_)
        refine lv_iload_n S.1 S.2.1 dX7_pass_22 rfl (lv_at hl 2 rfl) ?_
        refine w_iadd S dX7_pass_23 (by omega) (by omega) (fun v12 hv12 => ?_)
        refine w_iald S hK hP 91 (by decide) ceK91 (by omega) (by omega) dX7_pass_24 (fun v13 ev13 => ?_)
        have wv13 : v13.toInt = (x_2 91 v12.toInt.toNat).toInt := by rw [ev13]
        refine lv_aload_n S.1 S.2.1 dX7_pass_25 rfl (lv_at hl 0 rfl) ?_
        refine w_get (C := RX7) (T := TX7) (N := 34) S (fun _ h => List.mem_cons_of_mem _ (List.mem_append_right _ h)) hK hP 89 (by decide) (ceK89 _) rfl 3 (by decide) (hts _ (List.mem_of_getElem? (i := 3) rfl)) (v := .ref (g.1 92)) rfl dX7_pass_26 ?_
        refine w_bipush S dX7_pass_29 (by decide) (fun k14 hk14 => ?_)
        refine lv_iload_n S.1 S.2.1 dX7_pass_31 rfl (lv_at hl 1 rfl) ?_
        refine w_imulk S dX7_pass_32 8 hk14 (by omega) (by omega) (fun v15 hv15 => ?_)
        refine lv_iload_n S.1 S.2.1 dX7_pass_33 rfl (lv_at hl 2 rfl) ?_
        refine w_iadd S dX7_pass_34 (by omega) (by omega) (fun v16 hv16 => ?_)
        refine w_iald S hK hP 92 (by decide) ceK92 (by omega) (by omega) dX7_pass_35 (fun v17 ev17 => ?_)
        have wv17 : v17.toInt = (x_2 92 v16.toInt.toNat).toInt := by rw [ev17]
        refine w_cVv (As := [.int po, .int v13, .int v17]) (rest := []) S hK hN hP hS hl 89 (by decide) (ceK89 _) rfl (c_X7_takes l D g hg x_2 hI_2 hE_2 po v13 v17 (by omega) (by omega)) (cwV 3 hts gX7_pass_X7_takes rfl rfl rfl (by decide +kernel) ⟨Nat.le_of_ble_eq_true rfl, Nat.le_of_ble_eq_true rfl⟩) rfl rfl (Nat.le_of_ble_eq_true rfl) dX7_pass_36 ⟨Nat.zero_le _, Nat.zero_le _⟩ (fun x18 H locs hq20 hP hS => ?_)
        obtain ⟨hI21, hT22, hE24, hf23⟩ := hq20
        have hT25 : Same (TMr po.toInt.toNat) x x18 := hT_2.tr hT22 (fun _ _ h => h.1)
        have u26 : (x18 93 (po.toInt.toNat)).toInt = (x_2 93 (po.toInt.toNat)).toInt := by rw [hT22 93 (po.toInt.toNat) (by unfold TM TrM; omega)]
        refine w_iinc (lv' := [(0, .ref (g.1 89)), (1, .int po)]) S dX7_pass_39 hl (k := 2) rfl (by decide) (by decide) (by omega) (by omega) (fun _ => rfl) (fun v27 ls hv27 hl => ?_)
        refine lv_goto (tgt := 2) S.1 S.2.1 dX7_pass_42 (by decide) ?_
        exact ih2 _ _ _ _ v27 hI21 hT25 hE24 (by omega) (by omega) (by omega) (by first | exact fun _ => rfl | (intro h0; exfalso; omega)) (by omega) (by omega) hP hS (lv_sub hl [1, 2, 0] rfl)
  refine w_iconst S dX7_pass_0 (by decide) (fun k28 hk28 => ?_)
  refine lv_istore_n (lv' := [(2, .int k28), (0, .ref (g.1 89)), (1, .int po)]) S.1 S.2.1 dX7_pass_1 rfl hl (by decide) rfl (fun ls hl => ?_)
  exact J2 _ _ _ _ _ k28 hI hT hE (by omega) (by omega) (by omega) (by first | exact fun _ => rfl | (intro h0; exfalso; omega)) (by omega) (Nat.lt_succ_self _) hP hS (lv_sub hl [1, 2, 0] rfl)
set_option maxRecDepth 100000 in
set_option maxHeartbeats 4000000 in
theorem c_X7_sets (l : Launch) (D : va_G) (g : GA) (hg : Inj g) (x : St) (hI : Inv x) (hE : Rel x) (po : Int32) (wh : Int32) (vl : Int32) (hy0 : 0 ≤ po.toInt ∧ po.toInt < 4) (hy1 : 0 ≤ wh.toInt ∧ wh.toInt ≤ 24) : Met l yX7_sets wsX7_sets ({ frames := 1, cells := 0, slots := 0, locals := 21 } : Room) (va_Pc [.ref (g.1 89), .int po, .int wh, .int vl] (WI D g x)) (va_Qv (fun x2 => Inv x2 ∧ Same (TS) x x2 ∧ Rel x2 ∧ (x2 89 33).toInt = (x 89 33).toInt) (WO D g) (AQ g)) 0 0 (AQ g) := by
  refine w_met (cc := cX7_sets) (maxL := 6) (ret := none) (own := RX7) (by decide) rfl rfl (Nat.le_of_ble_eq_true rfl) (fun p e s m below meth co S hr0 hlk hK hN hP hS ls hl => ?_)
  have hts := S.2.2.2.2
  have hl : lv_has ls 6 [(0, .ref (g.1 89)), (1, .int po), (2, .int wh), (3, .int vl)] := hl
  have hT : Same (TS) x x := Same.rf
  have J28 : ∀ (n0 : Nat) (x_28 : St) (H : Heap) (locs : List Loc) (ls : Array Slot) (y28_4 : Int32) (y28_5 : Int32), Inv x_28 → Same (TS) x x_28 → Rel x_28 → (0 ≤ y28_4.toInt) → (y28_4.toInt ≤ y28_5.toInt) → (y28_5.toInt ≤ 65) → ((x_28 89 33).toInt = (x 89 33).toInt) → (65 - y28_5.toInt).toNat < n0 → va_P D vwCl (WL g x_28) H → va_S (AQ g) s.heap H locs → lv_has ls 6 [(0, .ref (g.1 89)), (1, .int po), (2, .int wh), (3, .int vl), (4, .int y28_4), (5, .int y28_5)] → W p l e ({ frames := 1, cells := 0, slots := 0, locals := 21 } : Room) s m ([.ref (g.1 89), .int po, .int wh, .int vl] : List Value).toArray below meth co H locs 0 0 (MQ below (va_Qv (fun x2 => Inv x2 ∧ Same (TS) x x2 ∧ Rel x2 ∧ (x2 89 33).toInt = (x 89 33).toInt) (WO D g) (AQ g)) ([.ref (g.1 89), .int po, .int wh, .int vl] : List Value).toArray s 0 0 (AQ g)) (F0 m 28 ls []) := by
    intro n0
    induction n0 with
    | zero => intro x_28 H locs ls y28_4 y28_5 hI_28 hT_28 hE_28 hf28_0 hf28_1 hf28_2 hf28_3 hm_28 hP hS hl; exact absurd hm_28 (Nat.not_lt_zero _)
    | succ n0 ih28 =>
      intro x_28 H locs ls y28_4 y28_5 hI_28 hT_28 hE_28 hf28_0 hf28_1 hf28_2 hf28_3 hm_28 hP hS hl
      refine lv_iload S.1 S.2.1 dX7_sets_28 (lv_at hl 5 rfl) ?_
      refine lv_aload_n S.1 S.2.1 dX7_sets_30 rfl (lv_at hl 0 rfl) ?_
      refine w_get (C := RX7) (T := TX7) (N := 34) S (fun _ h => List.mem_cons_of_mem _ (List.mem_append_right _ h)) hK hP 89 (by decide) (ceK89 _) rfl 7 (by decide) (hts _ (List.mem_of_getElem? (i := 2) rfl)) (v := .ref (g.1 96)) rfl dX7_sets_31 ?_
      refine lv_iload_n S.1 S.2.1 dX7_sets_34 rfl (lv_at hl 1 rfl) ?_
      refine w_iald S hK hP 96 (by decide) ceK96 (by omega) (by omega) dX7_sets_35 (fun v1 ev1 => ?_)
      have wv1 : v1.toInt = (x_28 96 po.toInt.toNat).toInt := by rw [ev1]
      have rv1 : (0 : Int) ≤ v1.toInt ∧ v1.toInt ≤ (65 : Int) := by rw [ev1]; exact hI_28 96 _
      refine w_icmp_ge (tgt := 117) S dX7_sets_36 (by decide) (fun hb2 => ?_) (fun hb2 => ?_)
      · refine lv_aload_n S.1 S.2.1 dX7_sets_117 rfl (lv_at hl 0 rfl) ?_
        refine w_get (C := RX7) (T := TX7) (N := 34) S (fun _ h => List.mem_cons_of_mem _ (List.mem_append_right _ h)) hK hP 89 (by decide) (ceK89 _) rfl 7 (by decide) (hts _ (List.mem_of_getElem? (i := 2) rfl)) (v := .ref (g.1 96)) rfl dX7_sets_118 ?_
        refine lv_iload_n S.1 S.2.1 dX7_sets_121 rfl (lv_at hl 1 rfl) ?_
        refine lv_iload S.1 S.2.1 dX7_sets_122 (lv_at hl 4 rfl) ?_
        refine w_iast S hK hg hP hS 96 (by decide) ceK96 (by omega) (by omega) dX7_sets_124 (fun x3 H locs ex3 hP hS => ?_)
        have hI4 : Inv x3 := by rw [ex3]; exact hI_28.up (show (0 : Int) ≤ _ by omega) (show _ ≤ (65 : Int) by omega)
        have hT5 : Same (TS) x x3 := by rw [ex3]; exact hT_28.up (by unfold TS; omega)
        have u7 : (x3 89 (33)).toInt = (x_28 89 (33)).toInt := by rw [ex3, up2_ne _ _ (by omega)]
        refine lv_aload_n S.1 S.2.1 dX7_sets_125 rfl (lv_at hl 0 rfl) ?_
        refine w_get (C := RX7) (T := TX7) (N := 34) S (fun _ h => List.mem_cons_of_mem _ (List.mem_append_right _ h)) hK hP 89 (by decide) (ceK89 _) rfl 8 (by decide) (hts _ (List.mem_of_getElem? (i := 5) rfl)) (v := .ref (g.1 97)) rfl dX7_sets_126 ?_
        refine lv_iload_n S.1 S.2.1 dX7_sets_129 rfl (lv_at hl 1 rfl) ?_
        refine lv_iload S.1 S.2.1 dX7_sets_130 (lv_at hl 4 rfl) ?_
        refine w_iast S hK hg hP hS 97 (by decide) ceK97 (by omega) (by omega) dX7_sets_132 (fun x8 H locs ex8 hP hS => ?_)
        have hI9 : Inv x8 := by rw [ex8]; exact hI4.up (show (0 : Int) ≤ _ by omega) (show _ ≤ (65 : Int) by omega)
        have hT10 : Same (TS) x x8 := by rw [ex8]; exact hT5.up (by unfold TS; omega)
        have hE11 : Rel x8 := by rw [ex8, ex3]; exact Rel.both hE_28 (by omega)
        have u12 : (x8 89 (33)).toInt = (x3 89 (33)).toInt := by rw [ex8, up2_ne _ _ (by omega)]
        refine lv_aload_n S.1 S.2.1 dX7_sets_133 rfl (lv_at hl 0 rfl) ?_
        refine lv_iload_n S.1 S.2.1 dX7_sets_134 rfl (lv_at hl 1 rfl) ?_
        refine w_cVv (As := [.int po]) (rest := []) S hK hN hP hS hl 89 (by decide) (ceK89 _) rfl (c_X7_flowDown l D g hg x8 hI9 hE11 po (by omega)) (cwV 1 hts gX7_sets_X7_flowDown rfl rfl rfl (by decide +kernel) ⟨Nat.le_of_ble_eq_true rfl, Nat.le_of_ble_eq_true rfl⟩) rfl rfl (Nat.le_of_ble_eq_true rfl) dX7_sets_135 ⟨Nat.zero_le _, Nat.zero_le _⟩ (fun x13 H locs hq15 hP hS => ?_)
        obtain ⟨hI16, hT17, hE19, hf18⟩ := hq15
        have hT20 : Same (TS) x x13 := hT10.tr hT17 (fun c0 k0 h => by unfold TS at h; unfold TS; omega)
        have u21 : (x13 89 (33)).toInt = (x8 89 (33)).toInt := by rw [hT17 89 (33) (by unfold TS; omega)]
        exact w_vret S hr0 hlk hP hS dX7_sets_138 (⟨hI16, hT20, hE19, by omega⟩)
      · refine lv_aload_n S.1 S.2.1 dX7_sets_39 rfl (lv_at hl 0 rfl) ?_
        refine w_get (C := RX7) (T := TX7) (N := 34) S (fun _ h => List.mem_cons_of_mem _ (List.mem_append_right _ h)) hK hP 89 (by decide) (ceK89 _) rfl 5 (by decide) (hts _ (List.mem_of_getElem? (i := 3) rfl)) (v := .ref (g.1 94)) rfl dX7_sets_40 ?_
        refine w_bipush S dX7_sets_43 (by decide) (fun k22 hk22 => ?_)
        refine lv_iload_n S.1 S.2.1 dX7_sets_45 rfl (lv_at hl 1 rfl) ?_
        refine w_imulk S dX7_sets_46 65 hk22 (by omega) (by omega) (fun v23 hv23 => ?_)
        refine lv_iload S.1 S.2.1 dX7_sets_47 (lv_at hl 5 rfl) ?_
        refine w_iadd S dX7_sets_49 (by omega) (by omega) (fun v24 hv24 => ?_)
        refine w_iald S hK hP 94 (by decide) ceK94 (by omega) (by omega) dX7_sets_50 (fun v25 ev25 => ?_)
        have wv25 : v25.toInt = (x_28 94 v24.toInt.toNat).toInt := by rw [ev25]
        refine w_sipush S dX7_sets_51 (by decide) (fun k26 hk26 => ?_)
        refine w_icmp_ne (tgt := 60) S dX7_sets_54 (by decide) (fun hb27 => ?_) (fun hb27 => ?_)
        · refine lv_aload_n S.1 S.2.1 dX7_sets_60 rfl (lv_at hl 0 rfl) ?_
          refine w_get (C := RX7) (T := TX7) (N := 34) S (fun _ h => List.mem_cons_of_mem _ (List.mem_append_right _ h)) hK hP 89 (by decide) (ceK89 _) rfl 5 (by decide) (hts _ (List.mem_of_getElem? (i := 3) rfl)) (v := .ref (g.1 94)) rfl dX7_sets_61 ?_
          refine w_bipush S dX7_sets_64 (by decide) (fun k28 hk28 => ?_)
          refine lv_iload_n S.1 S.2.1 dX7_sets_66 rfl (lv_at hl 1 rfl) ?_
          refine w_imulk S dX7_sets_67 65 hk28 (by omega) (by omega) (fun v29 hv29 => ?_)
          refine lv_iload S.1 S.2.1 dX7_sets_68 (lv_at hl 4 rfl) ?_
          refine w_iadd S dX7_sets_70 (by omega) (by omega) (fun v30 hv30 => ?_)
          refine lv_aload_n S.1 S.2.1 dX7_sets_71 rfl (lv_at hl 0 rfl) ?_
          refine w_get (C := RX7) (T := TX7) (N := 34) S (fun _ h => List.mem_cons_of_mem _ (List.mem_append_right _ h)) hK hP 89 (by decide) (ceK89 _) rfl 5 (by decide) (hts _ (List.mem_of_getElem? (i := 3) rfl)) (v := .ref (g.1 94)) rfl dX7_sets_72 ?_
          refine w_bipush S dX7_sets_75 (by decide) (fun k31 hk31 => ?_)
          refine lv_iload_n S.1 S.2.1 dX7_sets_77 rfl (lv_at hl 1 rfl) ?_
          refine w_imulk S dX7_sets_78 65 hk31 (by omega) (by omega) (fun v32 hv32 => ?_)
          refine lv_iload S.1 S.2.1 dX7_sets_79 (lv_at hl 5 rfl) ?_
          refine w_iadd S dX7_sets_81 (by omega) (by omega) (fun v33 hv33 => ?_)
          refine w_iald S hK hP 94 (by decide) ceK94 (by omega) (by omega) dX7_sets_82 (fun v34 ev34 => ?_)
          have wv34 : v34.toInt = (x_28 94 v33.toInt.toNat).toInt := by rw [ev34]
          refine w_iast S hK hg hP hS 94 (by decide) ceK94 (by omega) (by omega) dX7_sets_83 (fun x35 H locs ex35 hP hS => ?_)
          have hI36 : Inv x35 := by rw [ex35]; exact hI_28.up (i_ge _) (i_le _)
          have hT37 : Same (TS) x x35 := by rw [ex35]; exact hT_28.up (by unfold TS; omega)
          have hE38 : Rel x35 := by rw [ex35]; exact Rel.oth hE_28 (by decide) (by decide)
          have u39 : (x35 89 (33)).toInt = (x_28 89 (33)).toInt := by rw [ex35, up2_ne _ _ (by omega)]
          refine lv_aload_n S.1 S.2.1 dX7_sets_84 rfl (lv_at hl 0 rfl) ?_
          refine w_get (C := RX7) (T := TX7) (N := 34) S (fun _ h => List.mem_cons_of_mem _ (List.mem_append_right _ h)) hK hP 89 (by decide) (ceK89 _) rfl 6 (by decide) (hts _ (List.mem_of_getElem? (i := 4) rfl)) (v := .ref (g.1 95)) rfl dX7_sets_85 ?_
          refine w_bipush S dX7_sets_88 (by decide) (fun k40 hk40 => ?_)
          refine lv_iload_n S.1 S.2.1 dX7_sets_90 rfl (lv_at hl 1 rfl) ?_
          refine w_imulk S dX7_sets_91 65 hk40 (by omega) (by omega) (fun v41 hv41 => ?_)
          refine lv_iload S.1 S.2.1 dX7_sets_92 (lv_at hl 4 rfl) ?_
          refine w_iadd S dX7_sets_94 (by omega) (by omega) (fun v42 hv42 => ?_)
          refine lv_aload_n S.1 S.2.1 dX7_sets_95 rfl (lv_at hl 0 rfl) ?_
          refine w_get (C := RX7) (T := TX7) (N := 34) S (fun _ h => List.mem_cons_of_mem _ (List.mem_append_right _ h)) hK hP 89 (by decide) (ceK89 _) rfl 6 (by decide) (hts _ (List.mem_of_getElem? (i := 4) rfl)) (v := .ref (g.1 95)) rfl dX7_sets_96 ?_
          refine w_bipush S dX7_sets_99 (by decide) (fun k43 hk43 => ?_)
          refine lv_iload_n S.1 S.2.1 dX7_sets_101 rfl (lv_at hl 1 rfl) ?_
          refine w_imulk S dX7_sets_102 65 hk43 (by omega) (by omega) (fun v44 hv44 => ?_)
          refine lv_iload S.1 S.2.1 dX7_sets_103 (lv_at hl 5 rfl) ?_
          refine w_iadd S dX7_sets_105 (by omega) (by omega) (fun v45 hv45 => ?_)
          refine w_zald S hK hP 95 (by decide) ceK95 (by omega) (by omega) dX7_sets_106 (fun v46 ev46 => ?_)
          have wv46 : v46.toInt = (x35 95 v45.toInt.toNat).toInt := by rw [ev46]
          have rv46 : (0 : Int) ≤ v46.toInt ∧ v46.toInt ≤ (1 : Int) := by rw [ev46]; exact hI36 95 _
          refine w_zast S hK hg hP hS 95 (by decide) ceK95 (z01 (by omega) (by omega)) (by omega) (by omega) dX7_sets_107 (fun x47 H locs ex47 hP hS => ?_)
          have hI48 : Inv x47 := by rw [ex47]; exact hI36.up (show (0 : Int) ≤ _ by omega) (show _ ≤ (1 : Int) by omega)
          have hT49 : Same (TS) x x47 := by rw [ex47]; exact hT37.up (by unfold TS; omega)
          have hE50 : Rel x47 := by rw [ex47]; exact Rel.oth hE38 (by decide) (by decide)
          have u51 : (x47 89 (33)).toInt = (x35 89 (33)).toInt := by rw [ex47, up2_ne _ _ (by omega)]
          refine w_iinc (lv' := [(0, .ref (g.1 89)), (1, .int po), (2, .int wh), (3, .int vl), (5, .int y28_5)]) S dX7_sets_108 hl (k := 4) rfl (by decide) (by decide) (by omega) (by omega) (fun _ => rfl) (fun v52 ls hv52 hl => ?_)
          refine w_iinc (lv' := [(4, .int v52), (0, .ref (g.1 89)), (1, .int po), (2, .int wh), (3, .int vl)]) S dX7_sets_111 hl (k := 5) rfl (by decide) (by decide) (by omega) (by omega) (fun _ => rfl) (fun v53 ls hv53 hl => ?_)
          refine lv_goto (tgt := 28) S.1 S.2.1 dX7_sets_114 (by decide) ?_
          exact ih28 _ _ _ _ v52 v53 hI48 hT49 hE50 (by omega) (by omega) (by omega) (by omega) (by omega) hP hS (lv_sub hl [2, 3, 4, 5, 1, 0] rfl)
        · refine lv_goto (tgt := 111) S.1 S.2.1 dX7_sets_57 (by decide) ?_
          refine w_iinc (lv' := [(0, .ref (g.1 89)), (1, .int po), (2, .int wh), (3, .int vl), (4, .int y28_4)]) S dX7_sets_111 hl (k := 5) rfl (by decide) (by decide) (by omega) (by omega) (fun _ => rfl) (fun v54 ls hv54 hl => ?_)
          refine lv_goto (tgt := 28) S.1 S.2.1 dX7_sets_114 (by decide) ?_
          exact ih28 _ _ _ _ y28_4 v54 hI_28 hT_28 hE_28 (by omega) (by omega) (by omega) (by omega) (by omega) hP hS (lv_sub hl [1, 2, 3, 4, 5, 0] rfl)
  refine lv_aload_n S.1 S.2.1 dX7_sets_0 rfl (lv_at hl 0 rfl) ?_
  refine w_get (C := RX7) (T := TX7) (N := 34) S (fun _ h => List.mem_cons_of_mem _ (List.mem_append_right _ h)) hK hP 89 (by decide) (ceK89 _) rfl 1 (by decide) (hts _ (List.mem_of_getElem? (i := 1) rfl)) (v := .ref (g.1 90)) rfl dX7_sets_1 ?_
  refine w_bipush S dX7_sets_4 (by decide) (fun k55 hk55 => ?_)
  refine lv_iload_n S.1 S.2.1 dX7_sets_6 rfl (lv_at hl 1 rfl) ?_
  refine w_imulk S dX7_sets_7 25 hk55 (by omega) (by omega) (fun v56 hv56 => ?_)
  refine lv_iload_n S.1 S.2.1 dX7_sets_8 rfl (lv_at hl 2 rfl) ?_
  refine w_iadd S dX7_sets_9 (by omega) (by omega) (fun v57 hv57 => ?_)
  refine lv_iload_n S.1 S.2.1 dX7_sets_10 rfl (lv_at hl 3 rfl) ?_
  refine w_iast S hK hg hP hS 90 (by decide) ceK90 (by omega) (by omega) dX7_sets_11 (fun x58 H locs ex58 hP hS => ?_)
  have hI59 : Inv x58 := by rw [ex58]; exact hI.up (i_ge _) (i_le _)
  have hT60 : Same (TS) x x58 := by rw [ex58]; exact hT.up (by unfold TS; omega)
  have hE61 : Rel x58 := by rw [ex58]; exact Rel.oth hE (by decide) (by decide)
  have u62 : (x58 89 (33)).toInt = (x 89 (33)).toInt := by rw [ex58, up2_ne _ _ (by omega)]
  refine lv_iload_n S.1 S.2.1 dX7_sets_12 rfl (lv_at hl 2 rfl) ?_
  refine w_if_ne (tgt := 21) S dX7_sets_13 (by decide) (fun hb63 => ?_) (fun hb63 => ?_)
  · exact w_vret S hr0 hlk hP hS dX7_sets_21 (⟨hI59, hT60, hE61, by omega⟩)
  · refine lv_iload_n S.1 S.2.1 dX7_sets_16 rfl (lv_at hl 3 rfl) ?_
    refine w_iconst S dX7_sets_17 (by decide) (fun k64 hk64 => ?_)
    refine w_icmp_ne (tgt := 22) S dX7_sets_18 (by decide) (fun hb65 => ?_) (fun hb65 => ?_)
    · refine w_iconst S dX7_sets_22 (by decide) (fun k66 hk66 => ?_)
      refine lv_istore (lv' := [(4, .int k66), (0, .ref (g.1 89)), (1, .int po), (2, .int wh), (3, .int vl)]) S.1 S.2.1 dX7_sets_23 hl (by decide) rfl (fun ls hl => ?_)
      refine w_iconst S dX7_sets_25 (by decide) (fun k67 hk67 => ?_)
      refine lv_istore (lv' := [(5, .int k67), (4, .int k66), (0, .ref (g.1 89)), (1, .int po), (2, .int wh), (3, .int vl)]) S.1 S.2.1 dX7_sets_26 hl (by decide) rfl (fun ls hl => ?_)
      exact J28 _ _ _ _ _ k66 k67 hI59 hT60 hE61 (by omega) (by omega) (by omega) (by omega) (Nat.lt_succ_self _) hP hS (lv_sub hl [2, 3, 4, 5, 1, 0] rfl)
    · exact w_vret S hr0 hlk hP hS dX7_sets_21 (⟨hI59, hT60, hE61, by omega⟩)
set_option maxRecDepth 100000 in
set_option maxHeartbeats 4000000 in
theorem c_X7_settle (l : Launch) (D : va_G) (g : GA) (hg : Inj g) (x : St) (hI : Inv x) (hE : Rel x) (po : Int32) (hy0 : 0 ≤ po.toInt ∧ po.toInt < 4) : Met l yX7_settle wsX7_settle ({ frames := 2, cells := 0, slots := 0, locals := 46 } : Room) (va_Pc [.ref (g.1 89), .int po] (WI D g x)) (va_Qv (fun x2 => Inv x2 ∧ Same (TM) x x2 ∧ Rel x2 ∧ (x2 89 33).toInt = (x 89 33).toInt) (WO D g) (AQ g)) 0 0 (AQ g) := by
  refine w_met (cc := cX7_settle) (maxL := 6) (ret := none) (own := RX7) (by decide) rfl rfl (Nat.le_of_ble_eq_true rfl) (fun p e s m below meth co S hr0 hlk hK hN hP hS ls hl => ?_)
  have hts := S.2.2.2.2
  have hl : lv_has ls 6 [(0, .ref (g.1 89)), (1, .int po)] := hl
  have hT : Same (TM) x x := Same.rf
  have J0 : ∀ (n0 : Nat) (x_0 : St) (H : Heap) (locs : List Loc) (ls : Array Slot), Inv x_0 → Same (TM) x x_0 → Rel x_0 → ((x_0 89 33).toInt = (x 89 33).toInt) → (x_0 112 (po.toInt.toNat)).toInt.toNat < n0 → va_P D vwCl (WL g x_0) H → va_S (AQ g) s.heap H locs → lv_has ls 6 [(0, .ref (g.1 89)), (1, .int po)] → W p l e ({ frames := 2, cells := 0, slots := 0, locals := 46 } : Room) s m ([.ref (g.1 89), .int po] : List Value).toArray below meth co H locs 0 0 (MQ below (va_Qv (fun x2 => Inv x2 ∧ Same (TM) x x2 ∧ Rel x2 ∧ (x2 89 33).toInt = (x 89 33).toInt) (WO D g) (AQ g)) ([.ref (g.1 89), .int po] : List Value).toArray s 0 0 (AQ g)) (F0 m 0 ls []) := by
    intro n0
    induction n0 with
    | zero => intro x_0 H locs ls hI_0 hT_0 hE_0 hf0_0 hm_0 hP hS hl; exact absurd hm_0 (Nat.not_lt_zero _)
    | succ n0 ih0 =>
      intro x_0 H locs ls hI_0 hT_0 hE_0 hf0_0 hm_0 hP hS hl
      have g112_ : (x_0 112 (po.toInt.toNat)).toInt ≤ (3 : Int) := (hI_0 112 _).2
      have J61 : ∀ (n0 : Nat) (x_61 : St) (H : Heap) (locs : List Loc) (ls : Array Slot) (y61_2 : Int32) (y61_3 : Int32) (y61_4 : Int32) (y61_5 : Int32), Inv x_61 → Same (TM) x x_61 → Rel x_61 → (0 ≤ y61_2.toInt ∧ y61_2.toInt ≤ 24) → (0 ≤ y61_5.toInt) → (y61_5.toInt ≤ 3) → ((x_61 112 (po.toInt.toNat)).toInt < (x_0 112 (po.toInt.toNat)).toInt) → (0 < (x_0 112 (po.toInt.toNat)).toInt) → ((x_61 89 33).toInt = (x 89 33).toInt) → (3 - y61_5.toInt).toNat < n0 → va_P D vwCl (WL g x_61) H → va_S (AQ g) s.heap H locs → lv_has ls 6 [(0, .ref (g.1 89)), (1, .int po), (2, .int y61_2), (3, .int y61_3), (4, .int y61_4), (5, .int y61_5)] → W p l e ({ frames := 2, cells := 0, slots := 0, locals := 46 } : Room) s m ([.ref (g.1 89), .int po] : List Value).toArray below meth co H locs 0 0 (MQ below (va_Qv (fun x2 => Inv x2 ∧ Same (TM) x x2 ∧ Rel x2 ∧ (x2 89 33).toInt = (x 89 33).toInt) (WO D g) (AQ g)) ([.ref (g.1 89), .int po] : List Value).toArray s 0 0 (AQ g)) (F0 m 61 ls []) := by
        intro n0
        induction n0 with
        | zero => intro x_61 H locs ls y61_2 y61_3 y61_4 y61_5 hI_61 hT_61 hE_61 hf61_0 hf61_1 hf61_2 hf61_3 hf61_4 hf61_5 hm_61 hP hS hl; exact absurd hm_61 (Nat.not_lt_zero _)
        | succ n0 ih61 =>
          intro x_61 H locs ls y61_2 y61_3 y61_4 y61_5 hI_61 hT_61 hE_61 hf61_0 hf61_1 hf61_2 hf61_3 hf61_4 hf61_5 hm_61 hP hS hl
          refine lv_iload S.1 S.2.1 dX7_settle_61 (lv_at hl 5 rfl) ?_
          refine lv_aload_n S.1 S.2.1 dX7_settle_63 rfl (lv_at hl 0 rfl) ?_
          refine w_get (C := RX7) (T := TX7) (N := 34) S (fun _ h => List.mem_cons_of_mem _ (List.mem_append_right _ h)) hK hP 89 (by decide) (ceK89 _) rfl 23 (by decide) (hts _ (List.mem_of_getElem? (i := 1) rfl)) (v := .ref (g.1 112)) rfl dX7_settle_64 ?_
          refine lv_iload_n S.1 S.2.1 dX7_settle_67 rfl (lv_at hl 1 rfl) ?_
          refine w_iald S hK hP 112 (by decide) ceK112 (by omega) (by omega) dX7_settle_68 (fun v1 ev1 => ?_)
          have wv1 : v1.toInt = (x_61 112 po.toInt.toNat).toInt := by rw [ev1]
          have rv1 : (0 : Int) ≤ v1.toInt ∧ v1.toInt ≤ (3 : Int) := by rw [ev1]; exact hI_61 112 _
          refine w_icmp_ge (tgt := 174) S dX7_settle_69 (by decide) (fun hb2 => ?_) (fun hb2 => ?_)
          · refine lv_iload S.1 S.2.1 dX7_settle_174 (lv_at hl 4 rfl) ?_
            refine w_if_eq (tgt := 184) S dX7_settle_176 (by decide) (fun hb3 => ?_) (fun hb3 => ?_)
            · refine lv_aload_n S.1 S.2.1 dX7_settle_184 rfl (lv_at hl 0 rfl) ?_
              refine lv_iload_n S.1 S.2.1 dX7_settle_185 rfl (lv_at hl 1 rfl) ?_
              refine lv_iload_n S.1 S.2.1 dX7_settle_186 rfl (lv_at hl 2 rfl) ?_
              refine lv_iload_n S.1 S.2.1 dX7_settle_187 rfl (lv_at hl 3 rfl) ?_
              refine w_cVv (As := [.int po, .int y61_2, .int y61_3]) (rest := []) S hK hN hP hS hl 89 (by decide) (ceK89 _) rfl (c_X7_sets l D g hg x_61 hI_61 hE_61 po y61_2 y61_3 (by omega) (by omega)) (cwV 3 hts gX7_settle_X7_sets rfl rfl rfl (by decide +kernel) ⟨Nat.le_of_ble_eq_true rfl, Nat.le_of_ble_eq_true rfl⟩) rfl rfl (Nat.le_of_ble_eq_true rfl) dX7_settle_188 ⟨Nat.zero_le _, Nat.zero_le _⟩ (fun x4 H locs hq6 hP hS => ?_)
              obtain ⟨hI7, hT8, hE10, hf9⟩ := hq6
              have hT11 : Same (TM) x x4 := hT_61.tr hT8 (fun c0 k0 h => by unfold TM TrM at h; unfold TS; omega)
              have u12 : (x4 89 (33)).toInt = (x_61 89 (33)).toInt := by rw [hT8 89 (33) (by unfold TS; omega)]
              have u13 : (x4 112 (po.toInt.toNat)).toInt = (x_61 112 (po.toInt.toNat)).toInt := by rw [hT8 112 (po.toInt.toNat) (by unfold TS; omega)]
              refine lv_goto (tgt := 0) S.1 S.2.1 dX7_settle_191 (by decide) ?_
              exact ih0 _ _ _ _ hI7 hT11 hE10 (by omega) (by omega) hP hS (lv_sub hl [0, 1] rfl)
            · refine lv_aload_n S.1 S.2.1 dX7_settle_179 rfl (lv_at hl 0 rfl) ?_
              refine lv_iload_n S.1 S.2.1 dX7_settle_180 rfl (lv_at hl 1 rfl) ?_
              refine w_cVv (As := [.int po]) (rest := []) S hK hN hP hS hl 89 (by decide) (ceK89 _) rfl (c_X7_emptyStore l D g hg x_61 hI_61 hE_61 po (by omega)) (cwV 1 hts gX7_settle_X7_emptyStore rfl rfl rfl (by decide +kernel) ⟨Nat.le_of_ble_eq_true rfl, Nat.le_of_ble_eq_true rfl⟩) rfl rfl (Nat.le_of_ble_eq_true rfl) dX7_settle_181 ⟨Nat.zero_le _, Nat.zero_le _⟩ (fun x14 H locs hq16 hP hS => ?_)
              obtain ⟨hI17, hT18, hE20, hf19⟩ := hq16
              have hT21 : Same (TM) x x14 := hT_61.tr hT18 (fun c0 k0 h => by unfold TM TrM at h; unfold TS; omega)
              have u22 : (x14 89 (33)).toInt = (x_61 89 (33)).toInt := by rw [hT18 89 (33) (by unfold TS; omega)]
              have u23 : (x14 112 (po.toInt.toNat)).toInt = (x_61 112 (po.toInt.toNat)).toInt := by rw [hT18 112 (po.toInt.toNat) (by unfold TS; omega)]
              refine lv_aload_n S.1 S.2.1 dX7_settle_184 rfl (lv_at hl 0 rfl) ?_
              refine lv_iload_n S.1 S.2.1 dX7_settle_185 rfl (lv_at hl 1 rfl) ?_
              refine lv_iload_n S.1 S.2.1 dX7_settle_186 rfl (lv_at hl 2 rfl) ?_
              refine lv_iload_n S.1 S.2.1 dX7_settle_187 rfl (lv_at hl 3 rfl) ?_
              refine w_cVv (As := [.int po, .int y61_2, .int y61_3]) (rest := []) S hK hN hP hS hl 89 (by decide) (ceK89 _) rfl (c_X7_sets l D g hg x14 hI17 hE20 po y61_2 y61_3 (by omega) (by omega)) (cwV 3 hts gX7_settle_X7_sets rfl rfl rfl (by decide +kernel) ⟨Nat.le_of_ble_eq_true rfl, Nat.le_of_ble_eq_true rfl⟩) rfl rfl (Nat.le_of_ble_eq_true rfl) dX7_settle_188 ⟨Nat.zero_le _, Nat.zero_le _⟩ (fun x24 H locs hq26 hP hS => ?_)
              obtain ⟨hI27, hT28, hE30, hf29⟩ := hq26
              have hT31 : Same (TM) x x24 := hT21.tr hT28 (fun c0 k0 h => by unfold TM TrM at h; unfold TS; omega)
              have u32 : (x24 89 (33)).toInt = (x14 89 (33)).toInt := by rw [hT28 89 (33) (by unfold TS; omega)]
              have u33 : (x24 112 (po.toInt.toNat)).toInt = (x14 112 (po.toInt.toNat)).toInt := by rw [hT28 112 (po.toInt.toNat) (by unfold TS; omega)]
              refine lv_goto (tgt := 0) S.1 S.2.1 dX7_settle_191 (by decide) ?_
              exact ih0 _ _ _ _ hI27 hT31 hE30 (by omega) (by omega) hP hS (lv_sub hl [0, 1] rfl)
          · refine lv_aload_n S.1 S.2.1 dX7_settle_72 rfl (lv_at hl 0 rfl) ?_
            refine w_get (C := RX7) (T := TX7) (N := 34) S (fun _ h => List.mem_cons_of_mem _ (List.mem_append_right _ h)) hK hP 89 (by decide) (ceK89 _) rfl 24 (by decide) (hts _ (List.mem_of_getElem? (i := 3) rfl)) (v := .ref (g.1 113)) rfl dX7_settle_73 ?_
            refine w_iconst S dX7_settle_76 (by decide) (fun k34 hk34 => ?_)
            refine lv_iload_n S.1 S.2.1 dX7_settle_77 rfl (lv_at hl 1 rfl) ?_
            refine w_imulk S dX7_settle_78 3 hk34 (by omega) (by omega) (fun v35 hv35 => ?_)
            refine lv_iload S.1 S.2.1 dX7_settle_79 (lv_at hl 5 rfl) ?_
            refine w_iadd S dX7_settle_81 (by omega) (by omega) (fun v36 hv36 => ?_)
            refine lv_aload_n S.1 S.2.1 dX7_settle_82 rfl (lv_at hl 0 rfl) ?_
            refine w_get (C := RX7) (T := TX7) (N := 34) S (fun _ h => List.mem_cons_of_mem _ (List.mem_append_right _ h)) hK hP 89 (by decide) (ceK89 _) rfl 24 (by decide) (hts _ (List.mem_of_getElem? (i := 3) rfl)) (v := .ref (g.1 113)) rfl dX7_settle_83 ?_
            refine w_iconst S dX7_settle_86 (by decide) (fun k37 hk37 => ?_)
            refine lv_iload_n S.1 S.2.1 dX7_settle_87 rfl (lv_at hl 1 rfl) ?_
            refine w_imulk S dX7_settle_88 3 hk37 (by omega) (by omega) (fun v38 hv38 => ?_)
            refine lv_iload S.1 S.2.1 dX7_settle_89 (lv_at hl 5 rfl) ?_
            refine w_iadd S dX7_settle_91 (by omega) (by omega) (fun v39 hv39 => ?_)
            refine w_iconst S dX7_settle_92 (by decide) (fun k40 hk40 => ?_)
            refine w_iadd S dX7_settle_93 (by omega) (by omega) (fun v41 hv41 => ?_)
            refine w_iald S hK hP 113 (by decide) ceK113 (by omega) (by omega) dX7_settle_94 (fun v42 ev42 => ?_)
            have wv42 : v42.toInt = (x_61 113 v41.toInt.toNat).toInt := by rw [ev42]
            have rv42 : (0 : Int) ≤ v42.toInt ∧ v42.toInt ≤ (24 : Int) := by rw [ev42]; exact hI_61 113 _
            refine w_iast S hK hg hP hS 113 (by decide) ceK113 (by omega) (by omega) dX7_settle_95 (fun x43 H locs ex43 hP hS => ?_)
            have hI44 : Inv x43 := by rw [ex43]; exact hI_61.up (show (0 : Int) ≤ _ by omega) (show _ ≤ (24 : Int) by omega)
            have hT45 : Same (TM) x x43 := by rw [ex43]; exact hT_61.up (by unfold TM TrM; omega)
            have hE46 : Rel x43 := by rw [ex43]; exact Rel.oth hE_61 (by decide) (by decide)
            have u47 : (x43 89 (33)).toInt = (x_61 89 (33)).toInt := by rw [ex43, up2_ne _ _ (by omega)]
            have u48 : (x43 112 (po.toInt.toNat)).toInt = (x_61 112 (po.toInt.toNat)).toInt := by rw [ex43, up2_ne _ _ (by omega)]
            refine lv_aload_n S.1 S.2.1 dX7_settle_96 rfl (lv_at hl 0 rfl) ?_
            refine w_get (C := RX7) (T := TX7) (N := 34) S (fun _ h => List.mem_cons_of_mem _ (List.mem_append_right _ h)) hK hP 89 (by decide) (ceK89 _) rfl 25 (by decide) (hts _ (List.mem_of_getElem? (i := 4) rfl)) (v := .ref (g.1 114)) rfl dX7_settle_97 ?_
            refine w_iconst S dX7_settle_100 (by decide) (fun k49 hk49 => ?_)
            refine lv_iload_n S.1 S.2.1 dX7_settle_101 rfl (lv_at hl 1 rfl) ?_
            refine w_imulk S dX7_settle_102 3 hk49 (by omega) (by omega) (fun v50 hv50 => ?_)
            refine lv_iload S.1 S.2.1 dX7_settle_103 (lv_at hl 5 rfl) ?_
            refine w_iadd S dX7_settle_105 (by omega) (by omega) (fun v51 hv51 => ?_)
            refine lv_aload_n S.1 S.2.1 dX7_settle_106 rfl (lv_at hl 0 rfl) ?_
            refine w_get (C := RX7) (T := TX7) (N := 34) S (fun _ h => List.mem_cons_of_mem _ (List.mem_append_right _ h)) hK hP 89 (by decide) (ceK89 _) rfl 25 (by decide) (hts _ (List.mem_of_getElem? (i := 4) rfl)) (v := .ref (g.1 114)) rfl dX7_settle_107 ?_
            refine w_iconst S dX7_settle_110 (by decide) (fun k52 hk52 => ?_)
            refine lv_iload_n S.1 S.2.1 dX7_settle_111 rfl (lv_at hl 1 rfl) ?_
            refine w_imulk S dX7_settle_112 3 hk52 (by omega) (by omega) (fun v53 hv53 => ?_)
            refine lv_iload S.1 S.2.1 dX7_settle_113 (lv_at hl 5 rfl) ?_
            refine w_iadd S dX7_settle_115 (by omega) (by omega) (fun v54 hv54 => ?_)
            refine w_iconst S dX7_settle_116 (by decide) (fun k55 hk55 => ?_)
            refine w_iadd S dX7_settle_117 (by omega) (by omega) (fun v56 hv56 => ?_)
            refine w_iald S hK hP 114 (by decide) ceK114 (by omega) (by omega) dX7_settle_118 (fun v57 ev57 => ?_)
            have wv57 : v57.toInt = (x43 114 v56.toInt.toNat).toInt := by rw [ev57]
            refine w_iast S hK hg hP hS 114 (by decide) ceK114 (by omega) (by omega) dX7_settle_119 (fun x58 H locs ex58 hP hS => ?_)
            have hI59 : Inv x58 := by rw [ex58]; exact hI44.up (i_ge _) (i_le _)
            have hT60 : Same (TM) x x58 := by rw [ex58]; exact hT45.up (by unfold TM TrM; omega)
            have hE61 : Rel x58 := by rw [ex58]; exact Rel.oth hE46 (by decide) (by decide)
            have u62 : (x58 89 (33)).toInt = (x43 89 (33)).toInt := by rw [ex58, up2_ne _ _ (by omega)]
            have u63 : (x58 112 (po.toInt.toNat)).toInt = (x43 112 (po.toInt.toNat)).toInt := by rw [ex58, up2_ne _ _ (by omega)]
            refine lv_aload_n S.1 S.2.1 dX7_settle_120 rfl (lv_at hl 0 rfl) ?_
            refine w_get (C := RX7) (T := TX7) (N := 34) S (fun _ h => List.mem_cons_of_mem _ (List.mem_append_right _ h)) hK hP 89 (by decide) (ceK89 _) rfl 26 (by decide) (hts _ (List.mem_of_getElem? (i := 5) rfl)) (v := .ref (g.1 115)) rfl dX7_settle_121 ?_
            refine w_iconst S dX7_settle_124 (by decide) (fun k64 hk64 => ?_)
            refine lv_iload_n S.1 S.2.1 dX7_settle_125 rfl (lv_at hl 1 rfl) ?_
            refine w_imulk S dX7_settle_126 3 hk64 (by omega) (by omega) (fun v65 hv65 => ?_)
            refine lv_iload S.1 S.2.1 dX7_settle_127 (lv_at hl 5 rfl) ?_
            refine w_iadd S dX7_settle_129 (by omega) (by omega) (fun v66 hv66 => ?_)
            refine lv_aload_n S.1 S.2.1 dX7_settle_130 rfl (lv_at hl 0 rfl) ?_
            refine w_get (C := RX7) (T := TX7) (N := 34) S (fun _ h => List.mem_cons_of_mem _ (List.mem_append_right _ h)) hK hP 89 (by decide) (ceK89 _) rfl 26 (by decide) (hts _ (List.mem_of_getElem? (i := 5) rfl)) (v := .ref (g.1 115)) rfl dX7_settle_131 ?_
            refine w_iconst S dX7_settle_134 (by decide) (fun k67 hk67 => ?_)
            refine lv_iload_n S.1 S.2.1 dX7_settle_135 rfl (lv_at hl 1 rfl) ?_
            refine w_imulk S dX7_settle_136 3 hk67 (by omega) (by omega) (fun v68 hv68 => ?_)
            refine lv_iload S.1 S.2.1 dX7_settle_137 (lv_at hl 5 rfl) ?_
            refine w_iadd S dX7_settle_139 (by omega) (by omega) (fun v69 hv69 => ?_)
            refine w_iconst S dX7_settle_140 (by decide) (fun k70 hk70 => ?_)
            refine w_iadd S dX7_settle_141 (by omega) (by omega) (fun v71 hv71 => ?_)
            refine w_zald S hK hP 115 (by decide) ceK115 (by omega) (by omega) dX7_settle_142 (fun v72 ev72 => ?_)
            have wv72 : v72.toInt = (x58 115 v71.toInt.toNat).toInt := by rw [ev72]
            have rv72 : (0 : Int) ≤ v72.toInt ∧ v72.toInt ≤ (1 : Int) := by rw [ev72]; exact hI59 115 _
            refine w_zast S hK hg hP hS 115 (by decide) ceK115 (z01 (by omega) (by omega)) (by omega) (by omega) dX7_settle_143 (fun x73 H locs ex73 hP hS => ?_)
            have hI74 : Inv x73 := by rw [ex73]; exact hI59.up (show (0 : Int) ≤ _ by omega) (show _ ≤ (1 : Int) by omega)
            have hT75 : Same (TM) x x73 := by rw [ex73]; exact hT60.up (by unfold TM TrM; omega)
            have hE76 : Rel x73 := by rw [ex73]; exact Rel.oth hE61 (by decide) (by decide)
            have u77 : (x73 89 (33)).toInt = (x58 89 (33)).toInt := by rw [ex73, up2_ne _ _ (by omega)]
            have u78 : (x73 112 (po.toInt.toNat)).toInt = (x58 112 (po.toInt.toNat)).toInt := by rw [ex73, up2_ne _ _ (by omega)]
            refine lv_aload_n S.1 S.2.1 dX7_settle_144 rfl (lv_at hl 0 rfl) ?_
            refine w_get (C := RX7) (T := TX7) (N := 34) S (fun _ h => List.mem_cons_of_mem _ (List.mem_append_right _ h)) hK hP 89 (by decide) (ceK89 _) rfl 27 (by decide) (hts _ (List.mem_of_getElem? (i := 2) rfl)) (v := .ref (g.1 116)) rfl dX7_settle_145 ?_
            refine w_iconst S dX7_settle_148 (by decide) (fun k79 hk79 => ?_)
            refine lv_iload_n S.1 S.2.1 dX7_settle_149 rfl (lv_at hl 1 rfl) ?_
            refine w_imulk S dX7_settle_150 3 hk79 (by omega) (by omega) (fun v80 hv80 => ?_)
            refine lv_iload S.1 S.2.1 dX7_settle_151 (lv_at hl 5 rfl) ?_
            refine w_iadd S dX7_settle_153 (by omega) (by omega) (fun v81 hv81 => ?_)
            refine lv_aload_n S.1 S.2.1 dX7_settle_154 rfl (lv_at hl 0 rfl) ?_
            refine w_get (C := RX7) (T := TX7) (N := 34) S (fun _ h => List.mem_cons_of_mem _ (List.mem_append_right _ h)) hK hP 89 (by decide) (ceK89 _) rfl 27 (by decide) (hts _ (List.mem_of_getElem? (i := 2) rfl)) (v := .ref (g.1 116)) rfl dX7_settle_155 ?_
            refine w_iconst S dX7_settle_158 (by decide) (fun k82 hk82 => ?_)
            refine lv_iload_n S.1 S.2.1 dX7_settle_159 rfl (lv_at hl 1 rfl) ?_
            refine w_imulk S dX7_settle_160 3 hk82 (by omega) (by omega) (fun v83 hv83 => ?_)
            refine lv_iload S.1 S.2.1 dX7_settle_161 (lv_at hl 5 rfl) ?_
            refine w_iadd S dX7_settle_163 (by omega) (by omega) (fun v84 hv84 => ?_)
            refine w_iconst S dX7_settle_164 (by decide) (fun k85 hk85 => ?_)
            refine w_iadd S dX7_settle_165 (by omega) (by omega) (fun v86 hv86 => ?_)
            refine w_iald S hK hP 116 (by decide) ceK116 (by omega) (by omega) dX7_settle_166 (fun v87 ev87 => ?_)
            have wv87 : v87.toInt = (x73 116 v86.toInt.toNat).toInt := by rw [ev87]
            refine w_iast S hK hg hP hS 116 (by decide) ceK116 (by omega) (by omega) dX7_settle_167 (fun x88 H locs ex88 hP hS => ?_)
            have hI89 : Inv x88 := by rw [ex88]; exact hI74.up (i_ge _) (i_le _)
            have hT90 : Same (TM) x x88 := by rw [ex88]; exact hT75.up (by unfold TM TrM; omega)
            have hE91 : Rel x88 := by rw [ex88]; exact Rel.oth hE76 (by decide) (by decide)
            have u92 : (x88 89 (33)).toInt = (x73 89 (33)).toInt := by rw [ex88, up2_ne _ _ (by omega)]
            have u93 : (x88 112 (po.toInt.toNat)).toInt = (x73 112 (po.toInt.toNat)).toInt := by rw [ex88, up2_ne _ _ (by omega)]
            refine w_iinc (lv' := [(0, .ref (g.1 89)), (1, .int po), (2, .int y61_2), (3, .int y61_3), (4, .int y61_4)]) S dX7_settle_168 hl (k := 5) rfl (by decide) (by decide) (by omega) (by omega) (fun _ => rfl) (fun v94 ls hv94 hl => ?_)
            refine lv_goto (tgt := 61) S.1 S.2.1 dX7_settle_171 (by decide) ?_
            exact ih61 _ _ _ _ y61_2 y61_3 y61_4 v94 hI89 hT90 hE91 (by omega) (by omega) (by omega) (by omega) (by omega) (by omega) (by omega) hP hS (lv_sub hl [1, 2, 3, 4, 5, 0] rfl)
      refine lv_aload_n S.1 S.2.1 dX7_settle_0 rfl (lv_at hl 0 rfl) ?_
      refine w_get (C := RX7) (T := TX7) (N := 34) S (fun _ h => List.mem_cons_of_mem _ (List.mem_append_right _ h)) hK hP 89 (by decide) (ceK89 _) rfl 23 (by decide) (hts _ (List.mem_of_getElem? (i := 1) rfl)) (v := .ref (g.1 112)) rfl dX7_settle_1 ?_
      refine lv_iload_n S.1 S.2.1 dX7_settle_4 rfl (lv_at hl 1 rfl) ?_
      refine w_iald S hK hP 112 (by decide) ceK112 (by omega) (by omega) dX7_settle_5 (fun v95 ev95 => ?_)
      have wv95 : v95.toInt = (x_0 112 po.toInt.toNat).toInt := by rw [ev95]
      have rv95 : (0 : Int) ≤ v95.toInt ∧ v95.toInt ≤ (3 : Int) := by rw [ev95]; exact hI_0 112 _
      refine w_if_le (tgt := 194) S dX7_settle_6 (by decide) (fun hb96 => ?_) (fun hb96 => ?_)
      · exact w_vret S hr0 hlk hP hS dX7_settle_194 (⟨hI_0, hT_0, hE_0, by omega⟩)
      · refine lv_aload_n S.1 S.2.1 dX7_settle_9 rfl (lv_at hl 0 rfl) ?_
        refine w_get (C := RX7) (T := TX7) (N := 34) S (fun _ h => List.mem_cons_of_mem _ (List.mem_append_right _ h)) hK hP 89 (by decide) (ceK89 _) rfl 27 (by decide) (hts _ (List.mem_of_getElem? (i := 2) rfl)) (v := .ref (g.1 116)) rfl dX7_settle_10 ?_
        refine w_iconst S dX7_settle_13 (by decide) (fun k97 hk97 => ?_)
        refine lv_iload_n S.1 S.2.1 dX7_settle_14 rfl (lv_at hl 1 rfl) ?_
        refine w_imulk S dX7_settle_15 3 hk97 (by omega) (by omega) (fun v98 hv98 => ?_)
        refine w_iald S hK hP 116 (by decide) ceK116 (by omega) (by omega) dX7_settle_16 (fun v99 ev99 => ?_)
        have wv99 : v99.toInt = (x_0 116 v98.toInt.toNat).toInt := by rw [ev99]
        refine w_if_ne (tgt := 194) S dX7_settle_17 (by decide) (fun hb100 => ?_) (fun hb100 => ?_)
        · exact w_vret S hr0 hlk hP hS dX7_settle_194 (⟨hI_0, hT_0, hE_0, by omega⟩)
        · refine lv_aload_n S.1 S.2.1 dX7_settle_20 rfl (lv_at hl 0 rfl) ?_
          refine w_get (C := RX7) (T := TX7) (N := 34) S (fun _ h => List.mem_cons_of_mem _ (List.mem_append_right _ h)) hK hP 89 (by decide) (ceK89 _) rfl 24 (by decide) (hts _ (List.mem_of_getElem? (i := 3) rfl)) (v := .ref (g.1 113)) rfl dX7_settle_21 ?_
          refine w_iconst S dX7_settle_24 (by decide) (fun k101 hk101 => ?_)
          refine lv_iload_n S.1 S.2.1 dX7_settle_25 rfl (lv_at hl 1 rfl) ?_
          refine w_imulk S dX7_settle_26 3 hk101 (by omega) (by omega) (fun v102 hv102 => ?_)
          refine w_iald S hK hP 113 (by decide) ceK113 (by omega) (by omega) dX7_settle_27 (fun v103 ev103 => ?_)
          have wv103 : v103.toInt = (x_0 113 v102.toInt.toNat).toInt := by rw [ev103]
          have rv103 : (0 : Int) ≤ v103.toInt ∧ v103.toInt ≤ (24 : Int) := by rw [ev103]; exact hI_0 113 _
          refine lv_istore_n (lv' := [(2, .int v103), (0, .ref (g.1 89)), (1, .int po)]) S.1 S.2.1 dX7_settle_28 rfl hl (by decide) rfl (fun ls hl => ?_)
          refine lv_aload_n S.1 S.2.1 dX7_settle_29 rfl (lv_at hl 1 rfl) ?_
          refine w_get (C := RX7) (T := TX7) (N := 34) S (fun _ h => List.mem_cons_of_mem _ (List.mem_append_right _ h)) hK hP 89 (by decide) (ceK89 _) rfl 25 (by decide) (hts _ (List.mem_of_getElem? (i := 4) rfl)) (v := .ref (g.1 114)) rfl dX7_settle_30 ?_
          refine w_iconst S dX7_settle_33 (by decide) (fun k104 hk104 => ?_)
          refine lv_iload_n S.1 S.2.1 dX7_settle_34 rfl (lv_at hl 2 rfl) ?_
          refine w_imulk S dX7_settle_35 3 hk104 (by omega) (by omega) (fun v105 hv105 => ?_)
          refine w_iald S hK hP 114 (by decide) ceK114 (by omega) (by omega) dX7_settle_36 (fun v106 ev106 => ?_)
          have wv106 : v106.toInt = (x_0 114 v105.toInt.toNat).toInt := by rw [ev106]
          refine lv_istore_n (lv' := [(3, .int v106), (2, .int v103), (0, .ref (g.1 89)), (1, .int po)]) S.1 S.2.1 dX7_settle_37 rfl hl (by decide) rfl (fun ls hl => ?_)
          refine lv_aload_n S.1 S.2.1 dX7_settle_38 rfl (lv_at hl 2 rfl) ?_
          refine w_get (C := RX7) (T := TX7) (N := 34) S (fun _ h => List.mem_cons_of_mem _ (List.mem_append_right _ h)) hK hP 89 (by decide) (ceK89 _) rfl 26 (by decide) (hts _ (List.mem_of_getElem? (i := 5) rfl)) (v := .ref (g.1 115)) rfl dX7_settle_39 ?_
          refine w_iconst S dX7_settle_42 (by decide) (fun k107 hk107 => ?_)
          refine lv_iload_n S.1 S.2.1 dX7_settle_43 rfl (lv_at hl 3 rfl) ?_
          refine w_imulk S dX7_settle_44 3 hk107 (by omega) (by omega) (fun v108 hv108 => ?_)
          refine w_zald S hK hP 115 (by decide) ceK115 (by omega) (by omega) dX7_settle_45 (fun v109 ev109 => ?_)
          have wv109 : v109.toInt = (x_0 115 v108.toInt.toNat).toInt := by rw [ev109]
          have rv109 : (0 : Int) ≤ v109.toInt ∧ v109.toInt ≤ (1 : Int) := by rw [ev109]; exact hI_0 115 _
          refine lv_istore (lv' := [(4, .int v109), (3, .int v106), (2, .int v103), (0, .ref (g.1 89)), (1, .int po)]) S.1 S.2.1 dX7_settle_46 hl (by decide) rfl (fun ls hl => ?_)
          refine lv_aload_n S.1 S.2.1 dX7_settle_48 rfl (lv_at hl 3 rfl) ?_
          refine w_get (C := RX7) (T := TX7) (N := 34) S (fun _ h => List.mem_cons_of_mem _ (List.mem_append_right _ h)) hK hP 89 (by decide) (ceK89 _) rfl 23 (by decide) (hts _ (List.mem_of_getElem? (i := 1) rfl)) (v := .ref (g.1 112)) rfl dX7_settle_49 ?_
          refine lv_iload_n S.1 S.2.1 dX7_settle_52 rfl (lv_at hl 4 rfl) ?_
          refine lv_dup2_11 S.1 S.2.1 dX7_settle_53 rfl rfl ?_
          refine w_iald S hK hP 112 (by decide) ceK112 (by omega) (by omega) dX7_settle_54 (fun v110 ev110 => ?_)
          have wv110 : v110.toInt = (x_0 112 po.toInt.toNat).toInt := by rw [ev110]
          have rv110 : (0 : Int) ≤ v110.toInt ∧ v110.toInt ≤ (3 : Int) := by rw [ev110]; exact hI_0 112 _
          refine w_iconst S dX7_settle_55 (by decide) (fun k111 hk111 => ?_)
          refine w_isub S dX7_settle_56 (by omega) (by omega) (fun v112 hv112 => ?_)
          refine w_iast S hK hg hP hS 112 (by decide) ceK112 (by omega) (by omega) dX7_settle_57 (fun x113 H locs ex113 hP hS => ?_)
          have hI114 : Inv x113 := by rw [ex113]; exact hI_0.up (show (0 : Int) ≤ _ by omega) (show _ ≤ (3 : Int) by omega)
          have hT115 : Same (TM) x x113 := by rw [ex113]; exact hT_0.up (by unfold TM TrM; omega)
          have hE116 : Rel x113 := by rw [ex113]; exact Rel.oth hE_0 (by decide) (by decide)
          have u117 : (x113 89 (33)).toInt = (x_0 89 (33)).toInt := by rw [ex113, up2_ne _ _ (by omega)]
          have u118 : (x113 112 (po.toInt.toNat)).toInt = v112.toInt := by rw [ex113, up2_at]
          refine w_iconst S dX7_settle_58 (by decide) (fun k119 hk119 => ?_)
          refine lv_istore (lv' := [(5, .int k119), (4, .int v109), (3, .int v106), (2, .int v103), (0, .ref (g.1 89)), (1, .int po)]) S.1 S.2.1 dX7_settle_59 hl (by decide) rfl (fun ls hl => ?_)
          exact J61 _ _ _ _ _ v103 v106 v109 k119 hI114 hT115 hE116 (by omega) (by omega) (by omega) (by omega) (by omega) (by omega) (Nat.lt_succ_self _) hP hS (lv_sub hl [4, 5, 3, 2, 1, 0] rfl)
  exact J0 _ _ _ _ _ hI hT hE (by omega) (Nat.lt_succ_self _) hP hS (lv_sub hl [0, 1] rfl)
set_option maxRecDepth 100000 in
set_option maxHeartbeats 4000000 in
theorem c_X7_emptyAll (l : Launch) (D : va_G) (g : GA) (hg : Inj g) (x : St) (hI : Inv x) (hE : Rel x) (po : Int32) (hy0 : 0 ≤ po.toInt ∧ po.toInt < 4) : Met l yX7_emptyAll wsX7_emptyAll ({ frames := 3, cells := 0, slots := 0, locals := 71 } : Room) (va_Pc [.ref (g.1 89), .int po] (WI D g x)) (va_Qv (fun x2 => Inv x2 ∧ Same (TM) x x2 ∧ Rel x2 ∧ (x2 89 33).toInt = (x 89 33).toInt) (WO D g) (AQ g)) 0 0 (AQ g) := by
  refine w_met (cc := cX7_emptyAll) (maxL := 3) (ret := none) (own := RX7) (by decide) rfl rfl (Nat.le_of_ble_eq_true rfl) (fun p e s m below meth co S hr0 hlk hK hN hP hS ls hl => ?_)
  have hts := S.2.2.2.2
  have hl : lv_has ls 3 [(0, .ref (g.1 89)), (1, .int po)] := hl
  have hT : Same (TM) x x := Same.rf
  have J16 : ∀ (n0 : Nat) (x_16 : St) (H : Heap) (locs : List Loc) (ls : Array Slot) (y16_2 : Int32), Inv x_16 → Same (TM) x x_16 → Rel x_16 → (0 ≤ y16_2.toInt) → (y16_2.toInt ≤ 3) → ((x_16 89 33).toInt = (x 89 33).toInt) → (3 - y16_2.toInt).toNat < n0 → va_P D vwCl (WL g x_16) H → va_S (AQ g) s.heap H locs → lv_has ls 3 [(0, .ref (g.1 89)), (1, .int po), (2, .int y16_2)] → W p l e ({ frames := 3, cells := 0, slots := 0, locals := 71 } : Room) s m ([.ref (g.1 89), .int po] : List Value).toArray below meth co H locs 0 0 (MQ below (va_Qv (fun x2 => Inv x2 ∧ Same (TM) x x2 ∧ Rel x2 ∧ (x2 89 33).toInt = (x 89 33).toInt) (WO D g) (AQ g)) ([.ref (g.1 89), .int po] : List Value).toArray s 0 0 (AQ g)) (F0 m 16 ls []) := by
    intro n0
    induction n0 with
    | zero => intro x_16 H locs ls y16_2 hI_16 hT_16 hE_16 hf16_0 hf16_1 hf16_2 hm_16 hP hS hl; exact absurd hm_16 (Nat.not_lt_zero _)
    | succ n0 ih16 =>
      intro x_16 H locs ls y16_2 hI_16 hT_16 hE_16 hf16_0 hf16_1 hf16_2 hm_16 hP hS hl
      refine lv_iload_n S.1 S.2.1 dX7_emptyAll_16 rfl (lv_at hl 2 rfl) ?_
      refine lv_aload_n S.1 S.2.1 dX7_emptyAll_17 rfl (lv_at hl 0 rfl) ?_
      refine w_get (C := RX7) (T := TX7) (N := 34) S (fun _ h => List.mem_cons_of_mem _ (List.mem_append_right _ h)) hK hP 89 (by decide) (ceK89 _) rfl 23 (by decide) (hts _ (List.mem_of_getElem? (i := 3) rfl)) (v := .ref (g.1 112)) rfl dX7_emptyAll_18 ?_
      refine lv_iload_n S.1 S.2.1 dX7_emptyAll_21 rfl (lv_at hl 1 rfl) ?_
      refine w_iald S hK hP 112 (by decide) ceK112 (by omega) (by omega) dX7_emptyAll_22 (fun v1 ev1 => ?_)
      have wv1 : v1.toInt = (x_16 112 po.toInt.toNat).toInt := by rw [ev1]
      have rv1 : (0 : Int) ≤ v1.toInt ∧ v1.toInt ≤ (3 : Int) := by rw [ev1]; exact hI_16 112 _
      refine w_icmp_ge (tgt := 43) S dX7_emptyAll_23 (by decide) (fun hb2 => ?_) (fun hb2 => ?_)
      · refine lv_aload_n S.1 S.2.1 dX7_emptyAll_43 rfl (lv_at hl 0 rfl) ?_
        refine lv_iload_n S.1 S.2.1 dX7_emptyAll_44 rfl (lv_at hl 1 rfl) ?_
        refine w_cVv (As := [.int po]) (rest := []) S hK hN hP hS hl 89 (by decide) (ceK89 _) rfl (c_X7_settle l D g hg x_16 hI_16 hE_16 po (by omega)) (cwV 1 hts gX7_emptyAll_X7_settle rfl rfl rfl (by decide +kernel) ⟨Nat.le_of_ble_eq_true rfl, Nat.le_of_ble_eq_true rfl⟩) rfl rfl (Nat.le_of_ble_eq_true rfl) dX7_emptyAll_45 ⟨Nat.zero_le _, Nat.zero_le _⟩ (fun x3 H locs hq5 hP hS => ?_)
        obtain ⟨hI6, hT7, hE9, hf8⟩ := hq5
        have hT10 : Same (TM) x x3 := hT_16.tr hT7 (fun _ _ h => h)
        exact w_vret S hr0 hlk hP hS dX7_emptyAll_48 (⟨hI6, hT10, hE9, by omega⟩)
      · refine lv_aload_n S.1 S.2.1 dX7_emptyAll_26 rfl (lv_at hl 0 rfl) ?_
        refine w_get (C := RX7) (T := TX7) (N := 34) S (fun _ h => List.mem_cons_of_mem _ (List.mem_append_right _ h)) hK hP 89 (by decide) (ceK89 _) rfl 27 (by decide) (hts _ (List.mem_of_getElem? (i := 4) rfl)) (v := .ref (g.1 116)) rfl dX7_emptyAll_27 ?_
        refine w_iconst S dX7_emptyAll_30 (by decide) (fun k11 hk11 => ?_)
        refine lv_iload_n S.1 S.2.1 dX7_emptyAll_31 rfl (lv_at hl 1 rfl) ?_
        refine w_imulk S dX7_emptyAll_32 3 hk11 (by omega) (by omega) (fun v12 hv12 => ?_)
        refine lv_iload_n S.1 S.2.1 dX7_emptyAll_33 rfl (lv_at hl 2 rfl) ?_
        refine w_iadd S dX7_emptyAll_34 (by omega) (by omega) (fun v13 hv13 => ?_)
        refine w_iconst S dX7_emptyAll_35 (by decide) (fun k14 hk14 => ?_)
        refine w_iast S hK hg hP hS 116 (by decide) ceK116 (by omega) (by omega) dX7_emptyAll_36 (fun x15 H locs ex15 hP hS => ?_)
        have hI16 : Inv x15 := by rw [ex15]; exact hI_16.up (i_ge _) (i_le _)
        have hT17 : Same (TM) x x15 := by rw [ex15]; exact hT_16.up (by unfold TM TrM; omega)
        have hE18 : Rel x15 := by rw [ex15]; exact Rel.oth hE_16 (by decide) (by decide)
        have u19 : (x15 89 (33)).toInt = (x_16 89 (33)).toInt := by rw [ex15, up2_ne _ _ (by omega)]
        refine w_iinc (lv' := [(0, .ref (g.1 89)), (1, .int po)]) S dX7_emptyAll_37 hl (k := 2) rfl (by decide) (by decide) (by omega) (by omega) (fun _ => rfl) (fun v20 ls hv20 hl => ?_)
        refine lv_goto (tgt := 16) S.1 S.2.1 dX7_emptyAll_40 (by decide) ?_
        exact ih16 _ _ _ _ v20 hI16 hT17 hE18 (by omega) (by omega) (by omega) (by omega) hP hS (lv_sub hl [1, 2, 0] rfl)
  refine lv_aload_n S.1 S.2.1 dX7_emptyAll_0 rfl (lv_at hl 0 rfl) ?_
  refine w_get (C := RX7) (T := TX7) (N := 34) S (fun _ h => List.mem_cons_of_mem _ (List.mem_append_right _ h)) hK hP 89 (by decide) (ceK89 _) rfl 11 (by decide) (hts _ (List.mem_of_getElem? (i := 1) rfl)) (v := .ref (g.1 100)) rfl dX7_emptyAll_1 ?_
  refine lv_iload_n S.1 S.2.1 dX7_emptyAll_4 rfl (lv_at hl 1 rfl) ?_
  refine w_iconst S dX7_emptyAll_5 (by decide) (fun k21 hk21 => ?_)
  refine w_iast S hK hg hP hS 100 (by decide) ceK100 (by omega) (by omega) dX7_emptyAll_6 (fun x22 H locs ex22 hP hS => ?_)
  have hI23 : Inv x22 := by rw [ex22]; exact hI.up (show (0 : Int) ≤ _ by omega) (show _ ≤ (64 : Int) by omega)
  have hT24 : Same (TM) x x22 := by rw [ex22]; exact hT.up (by unfold TM TrM; omega)
  have hE25 : Rel x22 := by rw [ex22]; exact Rel.oth hE (by decide) (by decide)
  have u26 : (x22 89 (33)).toInt = (x 89 (33)).toInt := by rw [ex22, up2_ne _ _ (by omega)]
  refine lv_aload_n S.1 S.2.1 dX7_emptyAll_7 rfl (lv_at hl 0 rfl) ?_
  refine w_get (C := RX7) (T := TX7) (N := 34) S (fun _ h => List.mem_cons_of_mem _ (List.mem_append_right _ h)) hK hP 89 (by decide) (ceK89 _) rfl 13 (by decide) (hts _ (List.mem_of_getElem? (i := 2) rfl)) (v := .ref (g.1 102)) rfl dX7_emptyAll_8 ?_
  refine lv_iload_n S.1 S.2.1 dX7_emptyAll_11 rfl (lv_at hl 1 rfl) ?_
  refine w_iconst S dX7_emptyAll_12 (by decide) (fun k27 hk27 => ?_)
  refine w_iast S hK hg hP hS 102 (by decide) ceK102 (by omega) (by omega) dX7_emptyAll_13 (fun x28 H locs ex28 hP hS => ?_)
  have hI29 : Inv x28 := by rw [ex28]; exact hI23.up (show (0 : Int) ≤ _ by omega) (show _ ≤ (8 : Int) by omega)
  have hT30 : Same (TM) x x28 := by rw [ex28]; exact hT24.up (by unfold TM TrM; omega)
  have hE31 : Rel x28 := by rw [ex28]; exact Rel.oth hE25 (by decide) (by decide)
  have u32 : (x28 89 (33)).toInt = (x22 89 (33)).toInt := by rw [ex28, up2_ne _ _ (by omega)]
  refine w_iconst S dX7_emptyAll_14 (by decide) (fun k33 hk33 => ?_)
  refine lv_istore_n (lv' := [(2, .int k33), (0, .ref (g.1 89)), (1, .int po)]) S.1 S.2.1 dX7_emptyAll_15 rfl hl (by decide) rfl (fun ls hl => ?_)
  exact J16 _ _ _ _ _ k33 hI29 hT30 hE31 (by omega) (by omega) (by omega) (Nat.lt_succ_self _) hP hS (lv_sub hl [1, 2, 0] rfl)
set_option maxRecDepth 100000 in
set_option maxHeartbeats 4000000 in
theorem c_X7_flowByte (l : Launch) (D : va_G) (g : GA) (hg : Inj g) (x : St) (hI : Inv x) (po : Int32) (hy0 : 0 ≤ po.toInt ∧ po.toInt < 4) : Met l yX7_flowByte wsX7_flowByte ({ frames := 1, cells := 0, slots := 0, locals := 22 } : Room) (va_Pc [.ref (g.1 89), .int po] (WI D g x)) (va_Qi (fun r x2 => x2 = x ∧ ((x 107 (po.toInt.toNat)).toInt = 0 → r.toInt = -1)) (WO D g) (AQ g)) 0 0 (AQ g) := by
  refine w_met (cc := cX7_flowByte) (maxL := 3) (ret := (some .int)) (own := RX7) (by decide) rfl rfl (Nat.le_of_ble_eq_true rfl) (fun p e s m below meth co S hr0 hlk hK hN hP hS ls hl => ?_)
  have hts := S.2.2.2.2
  have hl : lv_has ls 3 [(0, .ref (g.1 89)), (1, .int po)] := hl
  refine w_sipush S dX7_flowByte_0 (by decide) (fun k1 hk1 => ?_)
  refine lv_istore_n (lv' := [(2, .int k1), (0, .ref (g.1 89)), (1, .int po)]) S.1 S.2.1 dX7_flowByte_3 rfl hl (by decide) rfl (fun ls hl => ?_)
  refine lv_aload_n S.1 S.2.1 dX7_flowByte_4 rfl (lv_at hl 1 rfl) ?_
  refine w_get (C := RX7) (T := TX7) (N := 34) S (fun _ h => List.mem_cons_of_mem _ (List.mem_append_right _ h)) hK hP 89 (by decide) (ceK89 _) rfl 18 (by decide) (hts _ (List.mem_of_getElem? (i := 1) rfl)) (v := .ref (g.1 107)) rfl dX7_flowByte_5 ?_
  refine lv_iload_n S.1 S.2.1 dX7_flowByte_8 rfl (lv_at hl 2 rfl) ?_
  refine w_iald S hK hP 107 (by decide) ceK107 (by omega) (by omega) dX7_flowByte_9 (fun v2 ev2 => ?_)
  have wv2 : v2.toInt = (x 107 po.toInt.toNat).toInt := by rw [ev2]
  refine w_iconst S dX7_flowByte_10 (by decide) (fun k3 hk3 => ?_)
  refine w_icmp_ne (tgt := 22) S dX7_flowByte_11 (by decide) (fun hb4 => ?_) (fun hb4 => ?_)
  · refine lv_aload_n S.1 S.2.1 dX7_flowByte_22 rfl (lv_at hl 1 rfl) ?_
    refine w_get (C := RX7) (T := TX7) (N := 34) S (fun _ h => List.mem_cons_of_mem _ (List.mem_append_right _ h)) hK hP 89 (by decide) (ceK89 _) rfl 18 (by decide) (hts _ (List.mem_of_getElem? (i := 1) rfl)) (v := .ref (g.1 107)) rfl dX7_flowByte_23 ?_
    refine lv_iload_n S.1 S.2.1 dX7_flowByte_26 rfl (lv_at hl 2 rfl) ?_
    refine w_iald S hK hP 107 (by decide) ceK107 (by omega) (by omega) dX7_flowByte_27 (fun v5 ev5 => ?_)
    have wv5 : v5.toInt = (x 107 po.toInt.toNat).toInt := by rw [ev5]
    refine w_iconst S dX7_flowByte_28 (by decide) (fun k6 hk6 => ?_)
    refine w_icmp_ne (tgt := 40) S dX7_flowByte_29 (by decide) (fun hb7 => ?_) (fun hb7 => ?_)
    · refine lv_iload_n S.1 S.2.1 dX7_flowByte_40 rfl (lv_at hl 0 rfl) ?_
      refine w_sipush S dX7_flowByte_41 (by decide) (fun k8 hk8 => ?_)
      refine w_icmp_ne (tgt := 49) S dX7_flowByte_44 (by decide) (fun hb9 => ?_) (fun hb9 => ?_)
      · refine lv_iload_n S.1 S.2.1 dX7_flowByte_49 rfl (lv_at hl 0 rfl) ?_
        exact w_iret S hr0 hlk hP hS dX7_flowByte_50 (⟨rfl, by omega⟩)
      · refine w_iconst S dX7_flowByte_47 (by decide) (fun k10 hk10 => ?_)
        exact w_iret S hr0 hlk hP hS dX7_flowByte_48 (⟨rfl, by omega⟩)
    · refine lv_aload_n S.1 S.2.1 dX7_flowByte_32 rfl (lv_at hl 1 rfl) ?_
      refine lv_iload_n S.1 S.2.1 dX7_flowByte_33 rfl (lv_at hl 2 rfl) ?_
      refine w_bipush S dX7_flowByte_34 (by decide) (fun k11 hk11 => ?_)
      refine w_cVi (As := [.int po, .int k11]) (rest := []) S hK hN hP hS hl 89 (by decide) (ceK89 _) rfl (c_X7_mode1 l D g hg x hI po k11 (by omega) (by omega)) (cwV 2 hts gX7_flowByte_X7_mode1 rfl rfl rfl (by decide +kernel) ⟨Nat.le_of_ble_eq_true rfl, Nat.le_of_ble_eq_true rfl⟩) rfl rfl (Nat.le_of_ble_eq_true rfl) dX7_flowByte_36 ⟨Nat.zero_le _, Nat.zero_le _⟩ (fun r13 x12 H locs hq14 hP hS => ?_)
      obtain ⟨ex15, hf16⟩ := hq14
      rw [ex15] at hP
      refine lv_istore_n (lv' := [(2, .int r13), (0, .ref (g.1 89)), (1, .int po)]) S.1 S.2.1 dX7_flowByte_39 rfl hl (by decide) rfl (fun ls hl => ?_)
      refine lv_iload_n S.1 S.2.1 dX7_flowByte_40 rfl (lv_at hl 0 rfl) ?_
      refine w_sipush S dX7_flowByte_41 (by decide) (fun k17 hk17 => ?_)
      refine w_icmp_ne (tgt := 49) S dX7_flowByte_44 (by decide) (fun hb18 => ?_) (fun hb18 => ?_)
      · refine lv_iload_n S.1 S.2.1 dX7_flowByte_49 rfl (lv_at hl 0 rfl) ?_
        exact w_iret S hr0 hlk hP hS dX7_flowByte_50 (⟨rfl, by omega⟩)
      · refine w_iconst S dX7_flowByte_47 (by decide) (fun k19 hk19 => ?_)
        exact w_iret S hr0 hlk hP hS dX7_flowByte_48 (⟨rfl, by omega⟩)
  · refine lv_aload_n S.1 S.2.1 dX7_flowByte_14 rfl (lv_at hl 1 rfl) ?_
    refine lv_iload_n S.1 S.2.1 dX7_flowByte_15 rfl (lv_at hl 2 rfl) ?_
    refine w_bipush S dX7_flowByte_16 (by decide) (fun k20 hk20 => ?_)
    refine w_cVi (As := [.int po, .int k20]) (rest := []) S hK hN hP hS hl 89 (by decide) (ceK89 _) rfl (c_X7_mode1 l D g hg x hI po k20 (by omega) (by omega)) (cwV 2 hts gX7_flowByte_X7_mode1 rfl rfl rfl (by decide +kernel) ⟨Nat.le_of_ble_eq_true rfl, Nat.le_of_ble_eq_true rfl⟩) rfl rfl (Nat.le_of_ble_eq_true rfl) dX7_flowByte_18 ⟨Nat.zero_le _, Nat.zero_le _⟩ (fun r22 x21 H locs hq23 hP hS => ?_)
    obtain ⟨ex24, hf25⟩ := hq23
    rw [ex24] at hP
    refine lv_istore_n (lv' := [(2, .int r22), (0, .ref (g.1 89)), (1, .int po)]) S.1 S.2.1 dX7_flowByte_21 rfl hl (by decide) rfl (fun ls hl => ?_)
    refine lv_aload_n S.1 S.2.1 dX7_flowByte_22 rfl (lv_at hl 1 rfl) ?_
    refine w_get (C := RX7) (T := TX7) (N := 34) S (fun _ h => List.mem_cons_of_mem _ (List.mem_append_right _ h)) hK hP 89 (by decide) (ceK89 _) rfl 18 (by decide) (hts _ (List.mem_of_getElem? (i := 1) rfl)) (v := .ref (g.1 107)) rfl dX7_flowByte_23 ?_
    refine lv_iload_n S.1 S.2.1 dX7_flowByte_26 rfl (lv_at hl 2 rfl) ?_
    refine w_iald S hK hP 107 (by decide) ceK107 (by omega) (by omega) dX7_flowByte_27 (fun v26 ev26 => ?_)
    have wv26 : v26.toInt = (x 107 po.toInt.toNat).toInt := by rw [ev26]
    refine w_iconst S dX7_flowByte_28 (by decide) (fun k27 hk27 => ?_)
    refine w_icmp_ne (tgt := 40) S dX7_flowByte_29 (by decide) (fun hb28 => ?_) (fun hb28 => ?_)
    · refine lv_iload_n S.1 S.2.1 dX7_flowByte_40 rfl (lv_at hl 0 rfl) ?_
      refine w_sipush S dX7_flowByte_41 (by decide) (fun k29 hk29 => ?_)
      refine w_icmp_ne (tgt := 49) S dX7_flowByte_44 (by decide) (fun hb30 => ?_) (fun hb30 => ?_)
      · refine lv_iload_n S.1 S.2.1 dX7_flowByte_49 rfl (lv_at hl 0 rfl) ?_
        exact w_iret S hr0 hlk hP hS dX7_flowByte_50 (⟨rfl, by omega⟩)
      · refine w_iconst S dX7_flowByte_47 (by decide) (fun k31 hk31 => ?_)
        exact w_iret S hr0 hlk hP hS dX7_flowByte_48 (⟨rfl, by omega⟩)
    · refine lv_aload_n S.1 S.2.1 dX7_flowByte_32 rfl (lv_at hl 1 rfl) ?_
      refine lv_iload_n S.1 S.2.1 dX7_flowByte_33 rfl (lv_at hl 2 rfl) ?_
      refine w_bipush S dX7_flowByte_34 (by decide) (fun k32 hk32 => ?_)
      refine w_cVi (As := [.int po, .int k32]) (rest := []) S hK hN hP hS hl 89 (by decide) (ceK89 _) rfl (c_X7_mode1 l D g hg x hI po k32 (by omega) (by omega)) (cwV 2 hts gX7_flowByte_X7_mode1 rfl rfl rfl (by decide +kernel) ⟨Nat.le_of_ble_eq_true rfl, Nat.le_of_ble_eq_true rfl⟩) rfl rfl (Nat.le_of_ble_eq_true rfl) dX7_flowByte_36 ⟨Nat.zero_le _, Nat.zero_le _⟩ (fun r34 x33 H locs hq35 hP hS => ?_)
      obtain ⟨ex36, hf37⟩ := hq35
      rw [ex36] at hP
      refine lv_istore_n (lv' := [(2, .int r34), (0, .ref (g.1 89)), (1, .int po)]) S.1 S.2.1 dX7_flowByte_39 rfl hl (by decide) rfl (fun ls hl => ?_)
      refine lv_iload_n S.1 S.2.1 dX7_flowByte_40 rfl (lv_at hl 0 rfl) ?_
      refine w_sipush S dX7_flowByte_41 (by decide) (fun k38 hk38 => ?_)
      refine w_icmp_ne (tgt := 49) S dX7_flowByte_44 (by decide) (fun hb39 => ?_) (fun hb39 => ?_)
      · refine lv_iload_n S.1 S.2.1 dX7_flowByte_49 rfl (lv_at hl 0 rfl) ?_
        exact w_iret S hr0 hlk hP hS dX7_flowByte_50 (⟨rfl, by omega⟩)
      · refine w_iconst S dX7_flowByte_47 (by decide) (fun k40 hk40 => ?_)
        exact w_iret S hr0 hlk hP hS dX7_flowByte_48 (⟨rfl, by omega⟩)
set_option maxRecDepth 100000 in
set_option maxHeartbeats 4000000 in
theorem c_X7_isBehind (l : Launch) (D : va_G) (g : GA) (hg : Inj g) (x : St) (hI : Inv x) (a : Int32) (po : Int32) (hy0 : 0 ≤ a.toInt ∧ a.toInt ≤ 7) (hy1 : 0 ≤ po.toInt ∧ po.toInt < 4) : Met l yX7_isBehind wsX7_isBehind ({ frames := 0, cells := 0, slots := 0, locals := 0 } : Room) (va_Pc [.ref (g.1 89), .int a, .int po] (WI D g x)) (va_Qi (fun r x2 => x2 = x ∧ (0 ≤ r.toInt ∧ r.toInt ≤ 1)) (WO D g) (AQ g)) 0 0 (AQ g) := by
  refine w_met (cc := cX7_isBehind) (maxL := 3) (ret := (some .boolean)) (own := RX7) (by decide) rfl rfl (Nat.le_of_ble_eq_true rfl) (fun p e s m below meth co S hr0 hlk hK hN hP hS ls hl => ?_)
  have hts := S.2.2.2.2
  have hl : lv_has ls 3 [(0, .ref (g.1 89)), (1, .int a), (2, .int po)] := hl
  refine lv_aload_n S.1 S.2.1 dX7_isBehind_0 rfl (lv_at hl 0 rfl) ?_
  refine w_get (C := RX7) (T := TX7) (N := 34) S (fun _ h => List.mem_cons_of_mem _ (List.mem_append_right _ h)) hK hP 89 (by decide) (ceK89 _) rfl 22 (by decide) (hts _ (List.mem_of_getElem? (i := 1) rfl)) (v := .ref (g.1 111)) rfl dX7_isBehind_1 ?_
  refine lv_iload_n S.1 S.2.1 dX7_isBehind_4 rfl (lv_at hl 2 rfl) ?_
  refine w_iald S hK hP 111 (by decide) ceK111 (by omega) (by omega) dX7_isBehind_5 (fun v1 ev1 => ?_)
  have wv1 : v1.toInt = (x 111 po.toInt.toNat).toInt := by rw [ev1]
  refine w_if_lt (tgt := 28) S dX7_isBehind_6 (by decide) (fun hb2 => ?_) (fun hb2 => ?_)
  · refine w_iconst S dX7_isBehind_28 (by decide) (fun k3 hk3 => ?_)
    exact w_zret S hr0 hlk hP hS dX7_isBehind_29 (z01 (by omega) (by omega)) (⟨rfl, by omega⟩)
  · refine lv_aload_n S.1 S.2.1 dX7_isBehind_9 rfl (lv_at hl 0 rfl) ?_
    refine w_get (C := RX7) (T := TX7) (N := 34) S (fun _ h => List.mem_cons_of_mem _ (List.mem_append_right _ h)) hK hP 89 (by decide) (ceK89 _) rfl 29 (by decide) (hts _ (List.mem_of_getElem? (i := 2) rfl)) (v := .ref (g.1 118)) rfl dX7_isBehind_10 ?_
    refine lv_iload_n S.1 S.2.1 dX7_isBehind_13 rfl (lv_at hl 1 rfl) ?_
    refine w_iald S hK hP 118 (by decide) ceK118 (by omega) (by omega) dX7_isBehind_14 (fun v4 ev4 => ?_)
    have wv4 : v4.toInt = (x 118 a.toInt.toNat).toInt := by rw [ev4]
    refine lv_aload_n S.1 S.2.1 dX7_isBehind_15 rfl (lv_at hl 0 rfl) ?_
    refine w_get (C := RX7) (T := TX7) (N := 34) S (fun _ h => List.mem_cons_of_mem _ (List.mem_append_right _ h)) hK hP 89 (by decide) (ceK89 _) rfl 22 (by decide) (hts _ (List.mem_of_getElem? (i := 1) rfl)) (v := .ref (g.1 111)) rfl dX7_isBehind_16 ?_
    refine lv_iload_n S.1 S.2.1 dX7_isBehind_19 rfl (lv_at hl 2 rfl) ?_
    refine w_iald S hK hP 111 (by decide) ceK111 (by omega) (by omega) dX7_isBehind_20 (fun v5 ev5 => ?_)
    have wv5 : v5.toInt = (x 111 po.toInt.toNat).toInt := by rw [ev5]
    refine w_icmp_eq (tgt := 28) S dX7_isBehind_21 (by decide) (fun hb6 => ?_) (fun hb6 => ?_)
    · refine w_iconst S dX7_isBehind_28 (by decide) (fun k7 hk7 => ?_)
      exact w_zret S hr0 hlk hP hS dX7_isBehind_29 (z01 (by omega) (by omega)) (⟨rfl, by omega⟩)
    · refine w_iconst S dX7_isBehind_24 (by decide) (fun k8 hk8 => ?_)
      refine lv_goto (tgt := 29) S.1 S.2.1 dX7_isBehind_25 (by decide) ?_
      exact w_zret S hr0 hlk hP hS dX7_isBehind_29 (z01 (by omega) (by omega)) (⟨rfl, by omega⟩)
