set_option maxRecDepth 100000 in
set_option maxHeartbeats 4000000 in
theorem c_X6_isPort (l : Launch) (D : va_G) (g : GA) (hg : Inj g) (x : St) (hI : Inv x) (a : Int32) : Met l yX6_isPort wsX6_isPort ({ frames := 0, cells := 0, slots := 0, locals := 0 } : Room) (va_Pc [.int a] (WI D g x)) (va_Qi (fun r x2 => x2 = x ∧ ((r.toInt = 1 ∧ 0 ≤ a.toInt ∧ a.toInt ≤ 3) ∨ (r.toInt = 0 ∧ (a.toInt < 0 ∨ 3 < a.toInt)))) (WO D g) (AQ g)) 0 0 (AQ g) := by
  refine w_met (cc := cX6_isPort) (maxL := 1) (ret := (some .boolean)) (own := RX6) (by decide) rfl rfl (Nat.le_of_ble_eq_true rfl) (fun p e s m below meth co S hr0 hlk hK hN hP hS ls hl => ?_)
  have hts := S.2.2.2.2
  have hl : lv_has ls 1 [(0, .int a)] := hl
  refine lv_iload_n S.1 S.2.1 dX6_isPort_0 rfl (lv_at hl 0 rfl) ?_
  refine w_if_lt (tgt := 13) S dX6_isPort_1 (by decide) (fun hb1 => ?_) (fun hb1 => ?_)
  · refine w_iconst S dX6_isPort_13 (by decide) (fun k2 hk2 => ?_)
    exact w_zret S hr0 hlk hP hS dX6_isPort_14 (z01 (by omega) (by omega)) (⟨rfl, by omega⟩)
  · refine lv_iload_n S.1 S.2.1 dX6_isPort_4 rfl (lv_at hl 0 rfl) ?_
    refine w_iconst S dX6_isPort_5 (by decide) (fun k3 hk3 => ?_)
    refine w_icmp_ge (tgt := 13) S dX6_isPort_6 (by decide) (fun hb4 => ?_) (fun hb4 => ?_)
    · refine w_iconst S dX6_isPort_13 (by decide) (fun k5 hk5 => ?_)
      exact w_zret S hr0 hlk hP hS dX6_isPort_14 (z01 (by omega) (by omega)) (⟨rfl, by omega⟩)
    · refine w_iconst S dX6_isPort_9 (by decide) (fun k6 hk6 => ?_)
      refine lv_goto (tgt := 14) S.1 S.2.1 dX6_isPort_10 (by decide) ?_
      exact w_zret S hr0 hlk hP hS dX6_isPort_14 (z01 (by omega) (by omega)) (⟨rfl, by omega⟩)
set_option maxRecDepth 100000 in
set_option maxHeartbeats 4000000 in
theorem c_X6_isProcess (l : Launch) (D : va_G) (g : GA) (hg : Inj g) (x : St) (hI : Inv x) (a : Int32) : Met l yX6_isProcess wsX6_isProcess ({ frames := 0, cells := 0, slots := 0, locals := 0 } : Room) (va_Pc [.int a] (WI D g x)) (va_Qi (fun r x2 => x2 = x ∧ ((r.toInt = 1 ∧ 0 ≤ a.toInt ∧ a.toInt ≤ 7) ∨ (r.toInt = 0 ∧ (a.toInt < 0 ∨ 7 < a.toInt)))) (WO D g) (AQ g)) 0 0 (AQ g) := by
  refine w_met (cc := cX6_isProcess) (maxL := 1) (ret := (some .boolean)) (own := RX6) (by decide) rfl rfl (Nat.le_of_ble_eq_true rfl) (fun p e s m below meth co S hr0 hlk hK hN hP hS ls hl => ?_)
  have hts := S.2.2.2.2
  have hl : lv_has ls 1 [(0, .int a)] := hl
  refine lv_iload_n S.1 S.2.1 dX6_isProcess_0 rfl (lv_at hl 0 rfl) ?_
  refine w_if_lt (tgt := 14) S dX6_isProcess_1 (by decide) (fun hb1 => ?_) (fun hb1 => ?_)
  · refine w_iconst S dX6_isProcess_14 (by decide) (fun k2 hk2 => ?_)
    exact w_zret S hr0 hlk hP hS dX6_isProcess_15 (z01 (by omega) (by omega)) (⟨rfl, by omega⟩)
  · refine lv_iload_n S.1 S.2.1 dX6_isProcess_4 rfl (lv_at hl 0 rfl) ?_
    refine w_bipush S dX6_isProcess_5 (by decide) (fun k3 hk3 => ?_)
    refine w_icmp_ge (tgt := 14) S dX6_isProcess_7 (by decide) (fun hb4 => ?_) (fun hb4 => ?_)
    · refine w_iconst S dX6_isProcess_14 (by decide) (fun k5 hk5 => ?_)
      exact w_zret S hr0 hlk hP hS dX6_isProcess_15 (z01 (by omega) (by omega)) (⟨rfl, by omega⟩)
    · refine w_iconst S dX6_isProcess_10 (by decide) (fun k6 hk6 => ?_)
      refine lv_goto (tgt := 15) S.1 S.2.1 dX6_isProcess_11 (by decide) ?_
      exact w_zret S hr0 hlk hP hS dX6_isProcess_15 (z01 (by omega) (by omega)) (⟨rfl, by omega⟩)
set_option maxRecDepth 100000 in
set_option maxHeartbeats 4000000 in
theorem c_X6_isGroup (l : Launch) (D : va_G) (g : GA) (hg : Inj g) (x : St) (hI : Inv x) (a : Int32) : Met l yX6_isGroup wsX6_isGroup ({ frames := 0, cells := 0, slots := 0, locals := 0 } : Room) (va_Pc [.int a] (WI D g x)) (va_Qi (fun r x2 => x2 = x ∧ ((r.toInt = 1 ∧ 0 ≤ a.toInt ∧ a.toInt ≤ 7) ∨ (r.toInt = 0 ∧ (a.toInt < 0 ∨ 7 < a.toInt)))) (WO D g) (AQ g)) 0 0 (AQ g) := by
  refine w_met (cc := cX6_isGroup) (maxL := 1) (ret := (some .boolean)) (own := RX6) (by decide) rfl rfl (Nat.le_of_ble_eq_true rfl) (fun p e s m below meth co S hr0 hlk hK hN hP hS ls hl => ?_)
  have hts := S.2.2.2.2
  have hl : lv_has ls 1 [(0, .int a)] := hl
  refine lv_iload_n S.1 S.2.1 dX6_isGroup_0 rfl (lv_at hl 0 rfl) ?_
  refine w_if_lt (tgt := 14) S dX6_isGroup_1 (by decide) (fun hb1 => ?_) (fun hb1 => ?_)
  · refine w_iconst S dX6_isGroup_14 (by decide) (fun k2 hk2 => ?_)
    exact w_zret S hr0 hlk hP hS dX6_isGroup_15 (z01 (by omega) (by omega)) (⟨rfl, by omega⟩)
  · refine lv_iload_n S.1 S.2.1 dX6_isGroup_4 rfl (lv_at hl 0 rfl) ?_
    refine w_bipush S dX6_isGroup_5 (by decide) (fun k3 hk3 => ?_)
    refine w_icmp_ge (tgt := 14) S dX6_isGroup_7 (by decide) (fun hb4 => ?_) (fun hb4 => ?_)
    · refine w_iconst S dX6_isGroup_14 (by decide) (fun k5 hk5 => ?_)
      exact w_zret S hr0 hlk hP hS dX6_isGroup_15 (z01 (by omega) (by omega)) (⟨rfl, by omega⟩)
    · refine w_iconst S dX6_isGroup_10 (by decide) (fun k6 hk6 => ?_)
      refine lv_goto (tgt := 15) S.1 S.2.1 dX6_isGroup_11 (by decide) ?_
      exact w_zret S hr0 hlk hP hS dX6_isGroup_15 (z01 (by omega) (by omega)) (⟨rfl, by omega⟩)
set_option maxRecDepth 100000 in
set_option maxHeartbeats 4000000 in
theorem c_X6_isMode (l : Launch) (D : va_G) (g : GA) (hg : Inj g) (x : St) (hI : Inv x) (a : Int32) : Met l yX6_isMode wsX6_isMode ({ frames := 0, cells := 0, slots := 0, locals := 0 } : Room) (va_Pc [.int a] (WI D g x)) (va_Qi (fun r x2 => x2 = x ∧ ((r.toInt = 1 ∧ 0 ≤ a.toInt ∧ a.toInt ≤ 24) ∨ (r.toInt = 0 ∧ (a.toInt < 0 ∨ 24 < a.toInt)))) (WO D g) (AQ g)) 0 0 (AQ g) := by
  refine w_met (cc := cX6_isMode) (maxL := 1) (ret := (some .boolean)) (own := RX6) (by decide) rfl rfl (Nat.le_of_ble_eq_true rfl) (fun p e s m below meth co S hr0 hlk hK hN hP hS ls hl => ?_)
  have hts := S.2.2.2.2
  have hl : lv_has ls 1 [(0, .int a)] := hl
  refine lv_iload_n S.1 S.2.1 dX6_isMode_0 rfl (lv_at hl 0 rfl) ?_
  refine w_if_lt (tgt := 14) S dX6_isMode_1 (by decide) (fun hb1 => ?_) (fun hb1 => ?_)
  · refine w_iconst S dX6_isMode_14 (by decide) (fun k2 hk2 => ?_)
    exact w_zret S hr0 hlk hP hS dX6_isMode_15 (z01 (by omega) (by omega)) (⟨rfl, by omega⟩)
  · refine lv_iload_n S.1 S.2.1 dX6_isMode_4 rfl (lv_at hl 0 rfl) ?_
    refine w_bipush S dX6_isMode_5 (by decide) (fun k3 hk3 => ?_)
    refine w_icmp_ge (tgt := 14) S dX6_isMode_7 (by decide) (fun hb4 => ?_) (fun hb4 => ?_)
    · refine w_iconst S dX6_isMode_14 (by decide) (fun k5 hk5 => ?_)
      exact w_zret S hr0 hlk hP hS dX6_isMode_15 (z01 (by omega) (by omega)) (⟨rfl, by omega⟩)
    · refine w_iconst S dX6_isMode_10 (by decide) (fun k6 hk6 => ?_)
      refine lv_goto (tgt := 15) S.1 S.2.1 dX6_isMode_11 (by decide) ?_
      exact w_zret S hr0 hlk hP hS dX6_isMode_15 (z01 (by omega) (by omega)) (⟨rfl, by omega⟩)
set_option maxRecDepth 100000 in
set_option maxHeartbeats 4000000 in
theorem c_X6_isByte (l : Launch) (D : va_G) (g : GA) (hg : Inj g) (x : St) (hI : Inv x) (a : Int32) : Met l yX6_isByte wsX6_isByte ({ frames := 0, cells := 0, slots := 0, locals := 0 } : Room) (va_Pc [.int a] (WI D g x)) (va_Qi (fun r x2 => x2 = x ∧ ((r.toInt = 1 ∧ 0 ≤ a.toInt ∧ a.toInt ≤ 255) ∨ (r.toInt = 0 ∧ (a.toInt < 0 ∨ 255 < a.toInt)))) (WO D g) (AQ g)) 0 0 (AQ g) := by
  refine w_met (cc := cX6_isByte) (maxL := 1) (ret := (some .boolean)) (own := RX6) (by decide) rfl rfl (Nat.le_of_ble_eq_true rfl) (fun p e s m below meth co S hr0 hlk hK hN hP hS ls hl => ?_)
  have hts := S.2.2.2.2
  have hl : lv_has ls 1 [(0, .int a)] := hl
  refine lv_iload_n S.1 S.2.1 dX6_isByte_0 rfl (lv_at hl 0 rfl) ?_
  refine w_if_lt (tgt := 15) S dX6_isByte_1 (by decide) (fun hb1 => ?_) (fun hb1 => ?_)
  · refine w_iconst S dX6_isByte_15 (by decide) (fun k2 hk2 => ?_)
    exact w_zret S hr0 hlk hP hS dX6_isByte_16 (z01 (by omega) (by omega)) (⟨rfl, by omega⟩)
  · refine lv_iload_n S.1 S.2.1 dX6_isByte_4 rfl (lv_at hl 0 rfl) ?_
    refine w_sipush S dX6_isByte_5 (by decide) (fun k3 hk3 => ?_)
    refine w_icmp_gt (tgt := 15) S dX6_isByte_8 (by decide) (fun hb4 => ?_) (fun hb4 => ?_)
    · refine w_iconst S dX6_isByte_15 (by decide) (fun k5 hk5 => ?_)
      exact w_zret S hr0 hlk hP hS dX6_isByte_16 (z01 (by omega) (by omega)) (⟨rfl, by omega⟩)
    · refine w_iconst S dX6_isByte_11 (by decide) (fun k6 hk6 => ?_)
      refine lv_goto (tgt := 16) S.1 S.2.1 dX6_isByte_12 (by decide) ?_
      exact w_zret S hr0 hlk hP hS dX6_isByte_16 (z01 (by omega) (by omega)) (⟨rfl, by omega⟩)
set_option maxRecDepth 100000 in
set_option maxHeartbeats 4000000 in
theorem c_X6_mostOf (l : Launch) (D : va_G) (g : GA) (hg : Inj g) (x : St) (hI : Inv x) (a : Int32) : Met l yX6_mostOf wsX6_mostOf ({ frames := 0, cells := 0, slots := 0, locals := 0 } : Room) (va_Pc [.int a] (WI D g x)) (va_Qi (fun r x2 => x2 = x ∧ (a.toInt < 12 → r.toInt = 1) ∧ (a.toInt = 12 → r.toInt = 32) ∧ (a.toInt = 13 → r.toInt = 20) ∧ (13 < a.toInt → r.toInt = 256)) (WO D g) (AQ g)) 0 0 (AQ g) := by
  refine w_met (cc := cX6_mostOf) (maxL := 1) (ret := (some .int)) (own := RX6) (by decide) rfl rfl (Nat.le_of_ble_eq_true rfl) (fun p e s m below meth co S hr0 hlk hK hN hP hS ls hl => ?_)
  have hts := S.2.2.2.2
  have hl : lv_has ls 1 [(0, .int a)] := hl
  refine lv_iload_n S.1 S.2.1 dX6_mostOf_0 rfl (lv_at hl 0 rfl) ?_
  refine w_bipush S dX6_mostOf_1 (by decide) (fun k1 hk1 => ?_)
  refine w_icmp_ge (tgt := 8) S dX6_mostOf_3 (by decide) (fun hb2 => ?_) (fun hb2 => ?_)
  · refine lv_iload_n S.1 S.2.1 dX6_mostOf_8 rfl (lv_at hl 0 rfl) ?_
    refine w_bipush S dX6_mostOf_9 (by decide) (fun k3 hk3 => ?_)
    refine w_icmp_ne (tgt := 17) S dX6_mostOf_11 (by decide) (fun hb4 => ?_) (fun hb4 => ?_)
    · refine lv_iload_n S.1 S.2.1 dX6_mostOf_17 rfl (lv_at hl 0 rfl) ?_
      refine w_bipush S dX6_mostOf_18 (by decide) (fun k5 hk5 => ?_)
      refine w_icmp_ne (tgt := 28) S dX6_mostOf_20 (by decide) (fun hb6 => ?_) (fun hb6 => ?_)
      · refine w_sipush S dX6_mostOf_28 (by decide) (fun k7 hk7 => ?_)
        exact w_iret S hr0 hlk hP hS dX6_mostOf_31 (⟨rfl, by omega, by omega, by omega, by omega⟩)
      · refine w_bipush S dX6_mostOf_23 (by decide) (fun k8 hk8 => ?_)
        refine lv_goto (tgt := 31) S.1 S.2.1 dX6_mostOf_25 (by decide) ?_
        exact w_iret S hr0 hlk hP hS dX6_mostOf_31 (⟨rfl, by omega, by omega, by omega, by omega⟩)
    · refine w_bipush S dX6_mostOf_14 (by decide) (fun k9 hk9 => ?_)
      exact w_iret S hr0 hlk hP hS dX6_mostOf_16 (⟨rfl, by omega, by omega, by omega, by omega⟩)
  · refine w_iconst S dX6_mostOf_6 (by decide) (fun k10 hk10 => ?_)
    exact w_iret S hr0 hlk hP hS dX6_mostOf_7 (⟨rfl, by omega, by omega, by omega, by omega⟩)
set_option maxRecDepth 100000 in
set_option maxHeartbeats 4000000 in
theorem c_X6_receive (l : Launch) (D : va_G) (g : GA) (hg : Inj g) (x : St) (hI : Inv x)  (po : Int32) (b : Int32) (fl : Int32) : Met l yX6_receive wsX6_receive ({ frames := 2, cells := 0, slots := 0, locals := 44 } : Room) (va_Pc [.ref (g.1 0), .int po, .int b, .int fl] (WI D g x)) (va_Qi (fun r x2 => Inv x2 ∧ Same (TCr po.toInt.toNat) x x2 ∧ ((0 ≤ po.toInt ∧ po.toInt ≤ 3 ∧ 0 ≤ b.toInt ∧ b.toInt ≤ 255 ∧ 0 ≤ fl.toInt ∧ fl.toInt ≤ 3) → ((x (5 + 21 * po.toInt.toNat + 2) 2).toInt < 8 → r.toInt = 1 ∧ (x2 (5 + 21 * po.toInt.toNat + 2) 2).toInt = (x (5 + 21 * po.toInt.toNat + 2) 2).toInt + 1) ∧ ((x (5 + 21 * po.toInt.toNat + 2) 2).toInt = 8 → r.toInt = 0 ∧ (x2 (5 + 21 * po.toInt.toNat + 2) 2).toInt = (x (5 + 21 * po.toInt.toNat + 2) 2).toInt)) ∧ (¬ (0 ≤ po.toInt ∧ po.toInt ≤ 3 ∧ 0 ≤ b.toInt ∧ b.toInt ≤ 255 ∧ 0 ≤ fl.toInt ∧ fl.toInt ≤ 3) → r.toInt = 0 ∧ x2 = x) ∧ 0 ≤ r.toInt ∧ r.toInt ≤ 1) (WO D g) (AQ g)) 0 0 (AQ g) := by
  refine w_met (cc := cX6_receive) (maxL := 4) (ret := (some .boolean)) (own := RX6) (by decide) rfl rfl (Nat.le_of_ble_eq_true rfl) (fun p e s m below meth co S hr0 hlk hK hN hP hS ls hl => ?_)
  have hts := S.2.2.2.2
  have hl : lv_has ls 4 [(0, .ref (g.1 0)), (1, .int po), (2, .int b), (3, .int fl)] := hl
  have hT : Same (TCr po.toInt.toNat) x x := Same.rf
  refine lv_iload_n S.1 S.2.1 dX6_receive_0 rfl (lv_at hl 1 rfl) ?_
  refine w_cSi (As := [.int po]) (rest := []) S hK hN hP hS hl (c_X6_isPort l D g hg x hI po) (va_cwS 1 hts gX6_receive_X6_isPort rfl rfl rfl (by decide +kernel) ⟨Nat.le_of_ble_eq_true rfl, Nat.le_of_ble_eq_true rfl⟩) rfl rfl (Nat.le_of_ble_eq_true rfl) dX6_receive_1 ⟨Nat.zero_le _, Nat.zero_le _⟩ (fun r2 x1 H locs hq3 hP hS => ?_)
  obtain ⟨ex4, hf5⟩ := hq3
  rw [ex4] at hP
  refine w_if_eq (tgt := 23) S dX6_receive_4 (by decide) (fun hb6 => ?_) (fun hb6 => ?_)
  · refine w_iconst S dX6_receive_23 (by decide) (fun k7 hk7 => ?_)
    exact w_zret S hr0 hlk hP hS dX6_receive_24 (z01 (by omega) (by omega)) (⟨hI, hT, fun hv => absurd hv (by omega), fun _ => ⟨by omega, rfl⟩, by omega, by omega⟩)
  · refine lv_iload_n S.1 S.2.1 dX6_receive_7 rfl (lv_at hl 2 rfl) ?_
    refine w_cSi (As := [.int b]) (rest := []) S hK hN hP hS hl (c_X6_isByte l D g hg x hI b) (va_cwS 1 hts gX6_receive_X6_isByte rfl rfl rfl (by decide +kernel) ⟨Nat.le_of_ble_eq_true rfl, Nat.le_of_ble_eq_true rfl⟩) rfl rfl (Nat.le_of_ble_eq_true rfl) dX6_receive_8 ⟨Nat.zero_le _, Nat.zero_le _⟩ (fun r9 x8 H locs hq10 hP hS => ?_)
    obtain ⟨ex11, hf12⟩ := hq10
    rw [ex11] at hP
    refine w_if_eq (tgt := 23) S dX6_receive_11 (by decide) (fun hb13 => ?_) (fun hb13 => ?_)
    · refine w_iconst S dX6_receive_23 (by decide) (fun k14 hk14 => ?_)
      exact w_zret S hr0 hlk hP hS dX6_receive_24 (z01 (by omega) (by omega)) (⟨hI, hT, fun hv => absurd hv (by omega), fun _ => ⟨by omega, rfl⟩, by omega, by omega⟩)
    · refine lv_iload_n S.1 S.2.1 dX6_receive_14 rfl (lv_at hl 3 rfl) ?_
      refine w_if_lt (tgt := 23) S dX6_receive_15 (by decide) (fun hb15 => ?_) (fun hb15 => ?_)
      · refine w_iconst S dX6_receive_23 (by decide) (fun k16 hk16 => ?_)
        exact w_zret S hr0 hlk hP hS dX6_receive_24 (z01 (by omega) (by omega)) (⟨hI, hT, fun hv => absurd hv (by omega), fun _ => ⟨by omega, rfl⟩, by omega, by omega⟩)
      · refine lv_iload_n S.1 S.2.1 dX6_receive_18 rfl (lv_at hl 3 rfl) ?_
        refine w_iconst S dX6_receive_19 (by decide) (fun k17 hk17 => ?_)
        refine w_icmp_le (tgt := 25) S dX6_receive_20 (by decide) (fun hb18 => ?_) (fun hb18 => ?_)
        · refine lv_aload_n S.1 S.2.1 dX6_receive_25 rfl (lv_at hl 0 rfl) ?_
          refine w_get (C := RX6) (T := TX6) (N := 2) S (fun _ h => List.mem_cons_of_mem _ (List.mem_append_left _ (List.mem_append_left _ (List.mem_append_right _ h)))) hK hP 0 (by decide) (ceK0 _) rfl 1 (by decide) (hts _ (List.mem_of_getElem? (i := 1) rfl)) (v := .ref (g.1 1)) rfl dX6_receive_26 ?_
          refine lv_iload_n S.1 S.2.1 dX6_receive_29 rfl (lv_at hl 1 rfl) ?_
          have h4_19 : po.toInt.toNat < 4 := by omega
          refine w_aald S hK hP (by omega) (by omega) dX6_receive_30 ?_
          refine lv_iload_n S.1 S.2.1 dX6_receive_31 rfl (lv_at hl 2 rfl) ?_
          refine lv_iload_n S.1 S.2.1 dX6_receive_32 rfl (lv_at hl 3 rfl) ?_
          refine w_cVi (As := [.int b, .int fl]) (rest := []) S hK hN hP hS hl (5 + 21 * po.toInt.toNat) (by have := h4_19; omega) ((ceP0 h4_19) _) rfl (c_X2_takeFromLine l D g hg x hI (po.toInt.toNat) h4_19 b fl) (cwV 2 hts gX6_receive_X2_takeFromLine rfl rfl rfl (by decide +kernel) ⟨Nat.le_of_ble_eq_true rfl, Nat.le_of_ble_eq_true rfl⟩) rfl rfl (Nat.le_of_ble_eq_true rfl) dX6_receive_33 ⟨Nat.zero_le _, Nat.zero_le _⟩ (fun r21 x20 H locs hq22 hP hS => ?_)
          obtain ⟨hI23, hT24, hf25⟩ := hq22
          have hT26 : Same (TCr po.toInt.toNat) x x20 := hT.tr hT24 (fun _ _ h => h)
          exact w_zret S hr0 hlk hP hS dX6_receive_36 (z01 (by omega) (by omega)) (⟨hI23, hT26, fun _ => by omega, fun hv => absurd hv (by omega), by omega, by omega⟩)
        · refine w_iconst S dX6_receive_23 (by decide) (fun k27 hk27 => ?_)
          exact w_zret S hr0 hlk hP hS dX6_receive_24 (z01 (by omega) (by omega)) (⟨hI, hT, fun hv => absurd hv (by omega), fun _ => ⟨by omega, rfl⟩, by omega, by omega⟩)
set_option maxRecDepth 100000 in
set_option maxHeartbeats 4000000 in
theorem c_X6_transmit (l : Launch) (D : va_G) (g : GA) (hg : Inj g) (x : St) (hI : Inv x)  (po : Int32) : Met l yX6_transmit wsX6_transmit ({ frames := 5, cells := 0, slots := 0, locals := 108 } : Room) (va_Pc [.ref (g.1 0), .int po] (WI D g x)) (va_Qi (fun r x2 => Inv x2 ∧ Same (TC) x x2 ∧ ((0 ≤ po.toInt ∧ po.toInt ≤ 3) → (x (5 + 21 * po.toInt.toNat) 14).toInt = -1 → (x (5 + 21 * po.toInt.toNat + 8) 2).toInt = 0 → (x (5 + 21 * po.toInt.toNat + 10) 2).toInt = 0 → r.toInt = -1) ∧ (¬ (0 ≤ po.toInt ∧ po.toInt ≤ 3) → r.toInt = -1)) (WO D g) (AQ g)) 0 0 (AQ g) := by
  refine w_met (cc := cX6_transmit) (maxL := 4) (ret := (some .int)) (own := RX6) (by decide) rfl rfl (Nat.le_of_ble_eq_true rfl) (fun p e s m below meth co S hr0 hlk hK hN hP hS ls hl => ?_)
  have hts := S.2.2.2.2
  have hl : lv_has ls 4 [(0, .ref (g.1 0)), (1, .int po)] := hl
  have hT : Same (TC) x x := Same.rf
  refine lv_iload_n S.1 S.2.1 dX6_transmit_0 rfl (lv_at hl 1 rfl) ?_
  refine w_cSi (As := [.int po]) (rest := []) S hK hN hP hS hl (c_X6_isPort l D g hg x hI po) (va_cwS 1 hts gX6_transmit_X6_isPort rfl rfl rfl (by decide +kernel) ⟨Nat.le_of_ble_eq_true rfl, Nat.le_of_ble_eq_true rfl⟩) rfl rfl (Nat.le_of_ble_eq_true rfl) dX6_transmit_1 ⟨Nat.zero_le _, Nat.zero_le _⟩ (fun r2 x1 H locs hq3 hP hS => ?_)
  obtain ⟨ex4, hf5⟩ := hq3
  rw [ex4] at hP
  refine w_if_ne (tgt := 9) S dX6_transmit_4 (by decide) (fun hb6 => ?_) (fun hb6 => ?_)
  · refine lv_aload_n S.1 S.2.1 dX6_transmit_9 rfl (lv_at hl 0 rfl) ?_
    refine w_get (C := RX6) (T := TX6) (N := 2) S (fun _ h => List.mem_cons_of_mem _ (List.mem_append_left _ (List.mem_append_left _ (List.mem_append_left _ (List.mem_append_left _ (List.mem_append_left _ (List.mem_append_right _ h))))))) hK hP 0 (by decide) (ceK0 _) rfl 1 (by decide) (hts _ (List.mem_of_getElem? (i := 1) rfl)) (v := .ref (g.1 1)) rfl dX6_transmit_10 ?_
    refine lv_iload_n S.1 S.2.1 dX6_transmit_13 rfl (lv_at hl 1 rfl) ?_
    have h4_7 : po.toInt.toNat < 4 := by omega
    refine w_aald S hK hP (by omega) (by omega) dX6_transmit_14 ?_
    refine lv_astore_n (lv' := [(2, .ref (g.1 (5 + 21 * po.toInt.toNat))), (0, .ref (g.1 0)), (1, .int po)]) S.1 S.2.1 dX6_transmit_15 rfl hl (by decide) rfl (fun ls hl => ?_)
    refine lv_aload_n S.1 S.2.1 dX6_transmit_16 rfl (lv_at hl 0 rfl) ?_
    refine w_getN (C := RX2) (T := TX2) (N := 15) S (fun _ h => List.mem_cons_of_mem _ (List.mem_append_left _ (List.mem_append_left _ (List.mem_append_left _ (List.mem_append_left _ (List.mem_append_right _ h)))))) hK hP (5 + 21 * po.toInt.toNat) (by have := h4_7; omega) ((ceP0 h4_7) _) rfl 4 (by decide) (hN.1 _ (List.mem_of_getElem? (i := 23) rfl)) (v := .ref (g.1 (5 + 21 * po.toInt.toNat + 7))) rfl dX6_transmit_17 ?_
    refine w_cVv (As := []) (rest := []) S hK hN hP hS hl (5 + 21 * po.toInt.toNat + 7) (by have := h4_7; omega) ((ceP7 h4_7) _) rfl (c_X1_push l D g hg x hI (po.toInt.toNat) h4_7) (cwV 0 hts gX6_transmit_X1_push rfl rfl rfl (by decide +kernel) ⟨Nat.le_of_ble_eq_true rfl, Nat.le_of_ble_eq_true rfl⟩) rfl rfl (Nat.le_of_ble_eq_true rfl) dX6_transmit_20 ⟨Nat.zero_le _, Nat.zero_le _⟩ (fun x8 H locs hq10 hP hS => ?_)
    obtain ⟨hI11, hT12, hf13⟩ := hq10
    have hT14 : Same (TC) x x8 := hT.tr hT12 (fun _ _ h => h)
    have ht20 := hf13
    refine lv_aload_n S.1 S.2.1 dX6_transmit_23 rfl (lv_at hl 0 rfl) ?_
    refine w_cVi (As := []) (rest := []) S hK hN hP hS hl (5 + 21 * po.toInt.toNat) (by have := h4_7; omega) ((ceP0 h4_7) _) rfl (c_X2_giveToLine l D g hg x8 hI11 (po.toInt.toNat) h4_7) (cwV 0 hts gX6_transmit_X2_giveToLine rfl rfl rfl (by decide +kernel) ⟨Nat.le_of_ble_eq_true rfl, Nat.le_of_ble_eq_true rfl⟩) rfl rfl (Nat.le_of_ble_eq_true rfl) dX6_transmit_24 ⟨Nat.zero_le _, Nat.zero_le _⟩ (fun r16 x15 H locs hq17 hP hS => ?_)
    obtain ⟨hI18, hT19, hf20⟩ := hq17
    have hT21 : Same (TC) x x15 := hT14.tr hT19 (fun _ _ h => h)
    have ht27 : (x (5 + 21 * po.toInt.toNat) 14).toInt = -1 → (x (5 + 21 * po.toInt.toNat + 8) 2).toInt = 0 → (x (5 + 21 * po.toInt.toNat + 10) 2).toInt = 0 → r16.toInt = -1 := by
      intro h1 h2 h3
      have e9 := ht20 h2
      have h9 := hf20
      rw [e9] at h9
      exact h9 h1 h3
    refine lv_istore_n (lv' := [(3, .int r16), (2, .ref (g.1 (5 + 21 * po.toInt.toNat))), (0, .ref (g.1 0)), (1, .int po)]) S.1 S.2.1 dX6_transmit_27 rfl hl (by decide) rfl (fun ls hl => ?_)
    refine lv_aload_n S.1 S.2.1 dX6_transmit_28 rfl (lv_at hl 1 rfl) ?_
    refine w_cVv (As := []) (rest := []) S hK hN hP hS hl (5 + 21 * po.toInt.toNat) (by have := h4_7; omega) ((ceP0 h4_7) _) rfl (c_X2_settle l D g hg x15 hI18 (po.toInt.toNat) h4_7) (cwV 0 hts gX6_transmit_X2_settle rfl rfl rfl (by decide +kernel) ⟨Nat.le_of_ble_eq_true rfl, Nat.le_of_ble_eq_true rfl⟩) rfl rfl (Nat.le_of_ble_eq_true rfl) dX6_transmit_29 ⟨Nat.zero_le _, Nat.zero_le _⟩ (fun x22 H locs hq24 hP hS => ?_)
    obtain ⟨hI25, hT26, hf27⟩ := hq24
    have hT28 : Same (TC) x x22 := hT21.tr hT26 (fun _ _ h => h)
    refine lv_iload_n S.1 S.2.1 dX6_transmit_32 rfl (lv_at hl 0 rfl) ?_
    exact w_iret S hr0 hlk hP hS dX6_transmit_33 (⟨hI25, hT28, fun _ h1 h2 h3 => ht27 h1 h2 h3, by omega⟩)
  · refine w_iconst S dX6_transmit_7 (by decide) (fun k29 hk29 => ?_)
    exact w_iret S hr0 hlk hP hS dX6_transmit_8 (⟨hI, hT, by omega, by omega⟩)
set_option maxRecDepth 100000 in
set_option maxHeartbeats 4000000 in
theorem c_X6_held (l : Launch) (D : va_G) (g : GA) (hg : Inj g) (x : St) (hI : Inv x)  (po : Int32) : Met l yX6_held wsX6_held ({ frames := 1, cells := 0, slots := 0, locals := 20 } : Room) (va_Pc [.ref (g.1 0), .int po] (WI D g x)) (va_Qi (fun r x2 => x2 = x ∧ ((0 ≤ po.toInt ∧ po.toInt ≤ 3) → (x (5 + 21 * po.toInt.toNat) 14).toInt = -1 → (x (5 + 21 * po.toInt.toNat + 8) 2).toInt = 0 → (x (5 + 21 * po.toInt.toNat + 10) 2).toInt = 0 → r.toInt = 1) ∧ (¬ (0 ≤ po.toInt ∧ po.toInt ≤ 3) → r.toInt = -1)) (WO D g) (AQ g)) 0 0 (AQ g) := by
  refine w_met (cc := cX6_held) (maxL := 4) (ret := (some .int)) (own := RX6) (by decide) rfl rfl (Nat.le_of_ble_eq_true rfl) (fun p e s m below meth co S hr0 hlk hK hN hP hS ls hl => ?_)
  have hts := S.2.2.2.2
  have hl : lv_has ls 4 [(0, .ref (g.1 0)), (1, .int po)] := hl
  refine lv_iload_n S.1 S.2.1 dX6_held_0 rfl (lv_at hl 1 rfl) ?_
  refine w_cSi (As := [.int po]) (rest := []) S hK hN hP hS hl (c_X6_isPort l D g hg x hI po) (va_cwS 1 hts gX6_held_X6_isPort rfl rfl rfl (by decide +kernel) ⟨Nat.le_of_ble_eq_true rfl, Nat.le_of_ble_eq_true rfl⟩) rfl rfl (Nat.le_of_ble_eq_true rfl) dX6_held_1 ⟨Nat.zero_le _, Nat.zero_le _⟩ (fun r2 x1 H locs hq3 hP hS => ?_)
  obtain ⟨ex4, hf5⟩ := hq3
  rw [ex4] at hP
  refine w_if_ne (tgt := 9) S dX6_held_4 (by decide) (fun hb6 => ?_) (fun hb6 => ?_)
  · refine lv_aload_n S.1 S.2.1 dX6_held_9 rfl (lv_at hl 0 rfl) ?_
    refine w_get (C := RX6) (T := TX6) (N := 2) S (fun _ h => List.mem_cons_of_mem _ (List.mem_append_left _ (List.mem_append_left _ (List.mem_append_left _ (List.mem_append_right _ h))))) hK hP 0 (by decide) (ceK0 _) rfl 1 (by decide) (hts _ (List.mem_of_getElem? (i := 1) rfl)) (v := .ref (g.1 1)) rfl dX6_held_10 ?_
    refine lv_iload_n S.1 S.2.1 dX6_held_13 rfl (lv_at hl 1 rfl) ?_
    have h4_7 : po.toInt.toNat < 4 := by omega
    refine w_aald S hK hP (by omega) (by omega) dX6_held_14 ?_
    refine lv_astore_n (lv' := [(2, .ref (g.1 (5 + 21 * po.toInt.toNat))), (0, .ref (g.1 0)), (1, .int po)]) S.1 S.2.1 dX6_held_15 rfl hl (by decide) rfl (fun ls hl => ?_)
    refine lv_aload_n S.1 S.2.1 dX6_held_16 rfl (lv_at hl 0 rfl) ?_
    refine w_getN (C := RX2) (T := TX2) (N := 15) S (fun _ h => List.mem_cons_of_mem _ (List.mem_append_left _ (List.mem_append_left _ (List.mem_append_right _ h)))) hK hP (5 + 21 * po.toInt.toNat) (by have := h4_7; omega) ((ceP0 h4_7) _) rfl 4 (by decide) (hN.1 _ (List.mem_of_getElem? (i := 23) rfl)) (v := .ref (g.1 (5 + 21 * po.toInt.toNat + 7))) rfl dX6_held_17 ?_
    refine lv_astore_n (lv' := [(3, .ref (g.1 (5 + 21 * po.toInt.toNat + 7))), (2, .ref (g.1 (5 + 21 * po.toInt.toNat))), (0, .ref (g.1 0)), (1, .int po)]) S.1 S.2.1 dX6_held_20 rfl hl (by decide) rfl (fun ls hl => ?_)
    refine lv_aload_n S.1 S.2.1 dX6_held_21 rfl (lv_at hl 1 rfl) ?_
    refine w_cVi (As := []) (rest := []) S hK hN hP hS hl (5 + 21 * po.toInt.toNat) (by have := h4_7; omega) ((ceP0 h4_7) _) rfl (c_X2_urgentByte l D g hg x hI (po.toInt.toNat) h4_7) (cwV 0 hts gX6_held_X2_urgentByte rfl rfl rfl (by decide +kernel) ⟨Nat.le_of_ble_eq_true rfl, Nat.le_of_ble_eq_true rfl⟩) rfl rfl (Nat.le_of_ble_eq_true rfl) dX6_held_22 ⟨Nat.zero_le _, Nat.zero_le _⟩ (fun r9 x8 H locs hq10 hP hS => ?_)
    obtain ⟨ex11, hf12⟩ := hq10
    rw [ex11] at hP
    refine w_sipush S dX6_held_25 (by decide) (fun k13 hk13 => ?_)
    refine w_icmp_eq (tgt := 33) S dX6_held_28 (by decide) (fun hb14 => ?_) (fun hb14 => ?_)
    · refine lv_aload_n S.1 S.2.1 dX6_held_33 rfl (lv_at hl 0 rfl) ?_
      refine w_cVi (As := []) (rest := []) S hK hN hP hS hl (5 + 21 * po.toInt.toNat + 7) (by have := h4_7; omega) ((ceP7 h4_7) _) rfl (c_X1_size l D g hg x hI (po.toInt.toNat) h4_7) (cwV 0 hts gX6_held_X1_size rfl rfl rfl (by decide +kernel) ⟨Nat.le_of_ble_eq_true rfl, Nat.le_of_ble_eq_true rfl⟩) rfl rfl (Nat.le_of_ble_eq_true rfl) dX6_held_34 ⟨Nat.zero_le _, Nat.zero_le _⟩ (fun r16 x15 H locs hq17 hP hS => ?_)
      obtain ⟨ex18, hf19⟩ := hq17
      rw [ex18] at hP
      refine w_if_ne (tgt := 42) S dX6_held_37 (by decide) (fun hb20 => ?_) (fun hb20 => ?_)
      · refine lv_aload_n S.1 S.2.1 dX6_held_42 rfl (lv_at hl 0 rfl) ?_
        refine w_getN (C := RX1) (T := TX1) (N := 5) S (fun _ h => List.mem_cons_of_mem _ (List.mem_append_left _ (List.mem_append_right _ h))) hK hP (5 + 21 * po.toInt.toNat + 7) (by have := h4_7; omega) ((ceP7 h4_7) _) rfl 3 (by decide) (hN.1 _ (List.mem_of_getElem? (i := 15) rfl)) (v := .int (x (5 + 21 * po.toInt.toNat + 7) 3)) rfl dX6_held_43 ?_
        refine lv_topi (fun v21 ev21 => ?_)
        have wv21 : v21.toInt = (x (5 + 21 * po.toInt.toNat + 7) 3).toInt := by rw [ev21]
        have rv21 : (0 : Int) ≤ v21.toInt ∧ v21.toInt ≤ (1 : Int) := by rw [ev21]; exact hI.atP (j := 7) (k := 3) h4_7 (by decide)
        refine w_if_eq (tgt := 51) S dX6_held_46 (by decide) (fun hb22 => ?_) (fun hb22 => ?_)
        · refine lv_aload_n S.1 S.2.1 dX6_held_51 rfl (lv_at hl 0 rfl) ?_
          refine w_getN (C := RX1) (T := TX1) (N := 5) S (fun _ h => List.mem_cons_of_mem _ (List.mem_append_left _ (List.mem_append_right _ h))) hK hP (5 + 21 * po.toInt.toNat + 7) (by have := h4_7; omega) ((ceP7 h4_7) _) rfl 4 (by decide) (hN.1 _ (List.mem_of_getElem? (i := 17) rfl)) (v := .int (x (5 + 21 * po.toInt.toNat + 7) 4)) rfl dX6_held_52 ?_
          refine lv_topi (fun v23 ev23 => ?_)
          have wv23 : v23.toInt = (x (5 + 21 * po.toInt.toNat + 7) 4).toInt := by rw [ev23]
          have rv23 : (0 : Int) ≤ v23.toInt ∧ v23.toInt ≤ (1 : Int) := by rw [ev23]; exact hI.atP (j := 7) (k := 4) h4_7 (by decide)
          refine w_if_eq (tgt := 62) S dX6_held_55 (by decide) (fun hb24 => ?_) (fun hb24 => ?_)
          · refine w_iconst S dX6_held_62 (by decide) (fun k25 hk25 => ?_)
            exact w_iret S hr0 hlk hP hS dX6_held_63 (⟨rfl, by omega, by omega⟩)
          · refine w_iconst S dX6_held_58 (by decide) (fun k26 hk26 => ?_)
            refine lv_goto (tgt := 63) S.1 S.2.1 dX6_held_59 (by decide) ?_
            exact w_iret S hr0 hlk hP hS dX6_held_63 (⟨rfl, by omega, by omega⟩)
        · refine w_iconst S dX6_held_49 (by decide) (fun k27 hk27 => ?_)
          exact w_iret S hr0 hlk hP hS dX6_held_50 (⟨rfl, by omega, by omega⟩)
      · refine w_iconst S dX6_held_40 (by decide) (fun k28 hk28 => ?_)
        exact w_iret S hr0 hlk hP hS dX6_held_41 (⟨rfl, by omega, by omega⟩)
    · refine w_iconst S dX6_held_31 (by decide) (fun k29 hk29 => ?_)
      exact w_iret S hr0 hlk hP hS dX6_held_32 (⟨rfl, by omega, by omega⟩)
  · refine w_iconst S dX6_held_7 (by decide) (fun k30 hk30 => ?_)
    exact w_iret S hr0 hlk hP hS dX6_held_8 (⟨rfl, by omega, by omega⟩)
set_option maxRecDepth 100000 in
set_option maxHeartbeats 4000000 in
theorem c_X6_carrier (l : Launch) (D : va_G) (g : GA) (hg : Inj g) (x : St) (hI : Inv x)  (po : Int32) (on : Int32) (hon : 0 ≤ on.toInt ∧ on.toInt ≤ 1) : Met l yX6_carrier wsX6_carrier ({ frames := 6, cells := 0, slots := 0, locals := 128 } : Room) (va_Pc [.ref (g.1 0), .int po, .int on] (WI D g x)) (va_Qi (fun r x2 => Inv x2 ∧ Same (TCc po.toInt.toNat) x x2 ∧ ((0 ≤ po.toInt ∧ po.toInt ≤ 3) → r.toInt = 1 ∧ (x2 (5 + 21 * po.toInt.toNat) 10).toInt = on.toInt ∧ (x2 (5 + 21 * po.toInt.toNat) 11).toInt = if (x (5 + 21 * po.toInt.toNat) 10).toInt ≠ 0 ∧ on.toInt = 0 then 1 else (x (5 + 21 * po.toInt.toNat) 11).toInt) ∧ (¬ (0 ≤ po.toInt ∧ po.toInt ≤ 3) → r.toInt = 0 ∧ x2 = x)) (WO D g) (AQ g)) 0 0 (AQ g) := by
  refine w_met (cc := cX6_carrier) (maxL := 5) (ret := (some .boolean)) (own := RX6) (by decide) rfl rfl (Nat.le_of_ble_eq_true rfl) (fun p e s m below meth co S hr0 hlk hK hN hP hS ls hl => ?_)
  have hts := S.2.2.2.2
  have hl : lv_has ls 5 [(0, .ref (g.1 0)), (1, .int po), (2, .int on)] := hl
  have hT : Same (TCc po.toInt.toNat) x x := Same.rf
  refine lv_iload_n S.1 S.2.1 dX6_carrier_0 rfl (lv_at hl 1 rfl) ?_
  refine w_cSi (As := [.int po]) (rest := []) S hK hN hP hS hl (c_X6_isPort l D g hg x hI po) (va_cwS 1 hts gX6_carrier_X6_isPort rfl rfl rfl (by decide +kernel) ⟨Nat.le_of_ble_eq_true rfl, Nat.le_of_ble_eq_true rfl⟩) rfl rfl (Nat.le_of_ble_eq_true rfl) dX6_carrier_1 ⟨Nat.zero_le _, Nat.zero_le _⟩ (fun r2 x1 H locs hq3 hP hS => ?_)
  obtain ⟨ex4, hf5⟩ := hq3
  rw [ex4] at hP
  refine w_if_ne (tgt := 9) S dX6_carrier_4 (by decide) (fun hb6 => ?_) (fun hb6 => ?_)
  · refine lv_aload_n S.1 S.2.1 dX6_carrier_9 rfl (lv_at hl 0 rfl) ?_
    refine w_get (C := RX6) (T := TX6) (N := 2) S (fun _ h => List.mem_cons_of_mem _ (List.mem_append_left _ (List.mem_append_left _ (List.mem_append_left _ (List.mem_append_left _ (List.mem_append_left _ (List.mem_append_left _ (List.mem_append_right _ h)))))))) hK hP 0 (by decide) (ceK0 _) rfl 1 (by decide) (hts _ (List.mem_of_getElem? (i := 1) rfl)) (v := .ref (g.1 1)) rfl dX6_carrier_10 ?_
    refine lv_iload_n S.1 S.2.1 dX6_carrier_13 rfl (lv_at hl 1 rfl) ?_
    have h4_7 : po.toInt.toNat < 4 := by omega
    refine w_aald S hK hP (by omega) (by omega) dX6_carrier_14 ?_
    refine lv_astore_n (lv' := [(3, .ref (g.1 (5 + 21 * po.toInt.toNat))), (0, .ref (g.1 0)), (1, .int po), (2, .int on)]) S.1 S.2.1 dX6_carrier_15 rfl hl (by decide) rfl (fun ls hl => ?_)
    refine lv_aload_n S.1 S.2.1 dX6_carrier_16 rfl (lv_at hl 0 rfl) ?_
    refine w_getN (C := RX2) (T := TX2) (N := 15) S (fun _ h => List.mem_cons_of_mem _ (List.mem_append_left _ (List.mem_append_left _ (List.mem_append_left _ (List.mem_append_left _ (List.mem_append_left _ (List.mem_append_right _ h))))))) hK hP (5 + 21 * po.toInt.toNat) (by have := h4_7; omega) ((ceP0 h4_7) _) rfl 10 (by decide) (hN.1 _ (List.mem_of_getElem? (i := 27) rfl)) (v := .int (x (5 + 21 * po.toInt.toNat) 10)) rfl dX6_carrier_17 ?_
    refine lv_topi (fun v8 ev8 => ?_)
    have wv8 : v8.toInt = (x (5 + 21 * po.toInt.toNat) 10).toInt := by rw [ev8]
    have rv8 : (0 : Int) ≤ v8.toInt ∧ v8.toInt ≤ (1 : Int) := by rw [ev8]; exact hI.atP0 (k := 10) h4_7
    refine w_if_eq (tgt := 31) S dX6_carrier_20 (by decide) (fun hb9 => ?_) (fun hb9 => ?_)
    · refine w_iconst S dX6_carrier_31 (by decide) (fun k10 hk10 => ?_)
      refine lv_istore (lv' := [(4, .int k10), (3, .ref (g.1 (5 + 21 * po.toInt.toNat))), (0, .ref (g.1 0)), (1, .int po), (2, .int on)]) S.1 S.2.1 dX6_carrier_32 hl (by decide) rfl (fun ls hl => ?_)
      refine lv_aload_n S.1 S.2.1 dX6_carrier_34 rfl (lv_at hl 1 rfl) ?_
      refine lv_iload_n S.1 S.2.1 dX6_carrier_35 rfl (lv_at hl 4 rfl) ?_
      refine w_putN (C := RX2) (T := TX2) (N := 15) (F := FPort g (5 + 21 * po.toInt.toNat)) S (fun _ h => List.mem_cons_of_mem _ (List.mem_append_left _ (List.mem_append_left _ (List.mem_append_left _ (List.mem_append_left _ (List.mem_append_left _ (List.mem_append_right _ h))))))) tyX2_ok nmX2 hK hg hP hS (5 + 21 * po.toInt.toNat) (by have := h4_7; omega) (ceP0 h4_7) rfl 10 (by decide) (hN.1 _ (List.mem_of_getElem? (i := 27) rfl)) rfl (tz_narrow (z01 (by omega) (by omega))) (tz_fits (z01 (by omega) (by omega))) (fun _ => Nat.le_of_ble_eq_true rfl) (fun _ => rfl) dX6_carrier_36 (fun x11 H locs ex11 hP hS => ?_)
      have hI12 : Inv x11 := by rw [ex11]; exact hI.upP0 h4_7 (show (0 : Int) ≤ _ by omega) (show _ ≤ (1 : Int) by omega)
      have hT13 : Same (TCc po.toInt.toNat) x x11 := by rw [ex11]; exact hT.up (by unfold TCc TC TrC; omega)
      have u14 : (x11 (5 + 21 * po.toInt.toNat) 10).toInt = on.toInt := by rw [ex11, up2_at]
      have u15 : (x11 (5 + 21 * po.toInt.toNat) 11).toInt = (x (5 + 21 * po.toInt.toNat) 11).toInt := by rw [ex11, up2_ne _ _ (by omega)]
      refine lv_iload S.1 S.2.1 dX6_carrier_39 (lv_at hl 0 rfl) ?_
      refine w_if_eq (tgt := 48) S dX6_carrier_41 (by decide) (fun hb16 => ?_) (fun hb16 => ?_)
      · refine w_iconst S dX6_carrier_48 (by decide) (fun k17 hk17 => ?_)
        exact w_zret S hr0 hlk hP hS dX6_carrier_49 (z01 (by omega) (by omega)) (⟨hI12, hT13, fun _ => ⟨by omega, by omega, by first | (rw [if_pos (by omega)]; omega) | (rw [if_neg (by omega)]; omega)⟩, fun hv => absurd hv (by omega)⟩)
      · refine lv_aload_n S.1 S.2.1 dX6_carrier_44 rfl (lv_at hl 1 rfl) ?_
        refine w_cVv (As := []) (rest := []) S hK hN hP hS hl (5 + 21 * po.toInt.toNat) (by have := h4_7; omega) ((ceP0 h4_7) _) rfl (c_X2_hangUp l D g hg x11 hI12 (po.toInt.toNat) h4_7) (cwV 0 hts gX6_carrier_X2_hangUp rfl rfl rfl (by decide +kernel) ⟨Nat.le_of_ble_eq_true rfl, Nat.le_of_ble_eq_true rfl⟩) rfl rfl (Nat.le_of_ble_eq_true rfl) dX6_carrier_45 ⟨Nat.zero_le _, Nat.zero_le _⟩ (fun x18 H locs hq20 hP hS => ?_)
        obtain ⟨hI21, hT22, hf23⟩ := hq20
        have hT24 : Same (TCc po.toInt.toNat) x x18 := hT13.tr hT22 (fun c0 k0 h => ⟨h.1, fun e => h.2 (by omega)⟩)
        have hu45 : (x18 (5 + 21 * po.toInt.toNat) 10).toInt = (x11 (5 + 21 * po.toInt.toNat) 10).toInt := by rw [hT22 _ _ ⟨by unfold TC TrC; omega, by omega⟩]
        refine w_iconst S dX6_carrier_48 (by decide) (fun k25 hk25 => ?_)
        exact w_zret S hr0 hlk hP hS dX6_carrier_49 (z01 (by omega) (by omega)) (⟨hI21, hT24, fun _ => ⟨by omega, by omega, by first | (rw [if_pos (by omega)]; omega) | (rw [if_neg (by omega)]; omega)⟩, fun hv => absurd hv (by omega)⟩)
    · refine lv_iload_n S.1 S.2.1 dX6_carrier_23 rfl (lv_at hl 3 rfl) ?_
      refine w_if_ne (tgt := 31) S dX6_carrier_24 (by decide) (fun hb26 => ?_) (fun hb26 => ?_)
      · refine w_iconst S dX6_carrier_31 (by decide) (fun k27 hk27 => ?_)
        refine lv_istore (lv' := [(4, .int k27), (3, .ref (g.1 (5 + 21 * po.toInt.toNat))), (0, .ref (g.1 0)), (1, .int po), (2, .int on)]) S.1 S.2.1 dX6_carrier_32 hl (by decide) rfl (fun ls hl => ?_)
        refine lv_aload_n S.1 S.2.1 dX6_carrier_34 rfl (lv_at hl 1 rfl) ?_
        refine lv_iload_n S.1 S.2.1 dX6_carrier_35 rfl (lv_at hl 4 rfl) ?_
        refine w_putN (C := RX2) (T := TX2) (N := 15) (F := FPort g (5 + 21 * po.toInt.toNat)) S (fun _ h => List.mem_cons_of_mem _ (List.mem_append_left _ (List.mem_append_left _ (List.mem_append_left _ (List.mem_append_left _ (List.mem_append_left _ (List.mem_append_right _ h))))))) tyX2_ok nmX2 hK hg hP hS (5 + 21 * po.toInt.toNat) (by have := h4_7; omega) (ceP0 h4_7) rfl 10 (by decide) (hN.1 _ (List.mem_of_getElem? (i := 27) rfl)) rfl (tz_narrow (z01 (by omega) (by omega))) (tz_fits (z01 (by omega) (by omega))) (fun _ => Nat.le_of_ble_eq_true rfl) (fun _ => rfl) dX6_carrier_36 (fun x28 H locs ex28 hP hS => ?_)
        have hI29 : Inv x28 := by rw [ex28]; exact hI.upP0 h4_7 (show (0 : Int) ≤ _ by omega) (show _ ≤ (1 : Int) by omega)
        have hT30 : Same (TCc po.toInt.toNat) x x28 := by rw [ex28]; exact hT.up (by unfold TCc TC TrC; omega)
        have u31 : (x28 (5 + 21 * po.toInt.toNat) 10).toInt = on.toInt := by rw [ex28, up2_at]
        have u32 : (x28 (5 + 21 * po.toInt.toNat) 11).toInt = (x (5 + 21 * po.toInt.toNat) 11).toInt := by rw [ex28, up2_ne _ _ (by omega)]
        refine lv_iload S.1 S.2.1 dX6_carrier_39 (lv_at hl 0 rfl) ?_
        refine w_if_eq (tgt := 48) S dX6_carrier_41 (by decide) (fun hb33 => ?_) (fun hb33 => ?_)
        · refine w_iconst S dX6_carrier_48 (by decide) (fun k34 hk34 => ?_)
          exact w_zret S hr0 hlk hP hS dX6_carrier_49 (z01 (by omega) (by omega)) (⟨hI29, hT30, fun _ => ⟨by omega, by omega, by first | (rw [if_pos (by omega)]; omega) | (rw [if_neg (by omega)]; omega)⟩, fun hv => absurd hv (by omega)⟩)
        · refine lv_aload_n S.1 S.2.1 dX6_carrier_44 rfl (lv_at hl 1 rfl) ?_
          refine w_cVv (As := []) (rest := []) S hK hN hP hS hl (5 + 21 * po.toInt.toNat) (by have := h4_7; omega) ((ceP0 h4_7) _) rfl (c_X2_hangUp l D g hg x28 hI29 (po.toInt.toNat) h4_7) (cwV 0 hts gX6_carrier_X2_hangUp rfl rfl rfl (by decide +kernel) ⟨Nat.le_of_ble_eq_true rfl, Nat.le_of_ble_eq_true rfl⟩) rfl rfl (Nat.le_of_ble_eq_true rfl) dX6_carrier_45 ⟨Nat.zero_le _, Nat.zero_le _⟩ (fun x35 H locs hq37 hP hS => ?_)
          obtain ⟨hI38, hT39, hf40⟩ := hq37
          have hT41 : Same (TCc po.toInt.toNat) x x35 := hT30.tr hT39 (fun c0 k0 h => ⟨h.1, fun e => h.2 (by omega)⟩)
          have hu45 : (x35 (5 + 21 * po.toInt.toNat) 10).toInt = (x28 (5 + 21 * po.toInt.toNat) 10).toInt := by rw [hT39 _ _ ⟨by unfold TC TrC; omega, by omega⟩]
          refine w_iconst S dX6_carrier_48 (by decide) (fun k42 hk42 => ?_)
          exact w_zret S hr0 hlk hP hS dX6_carrier_49 (z01 (by omega) (by omega)) (⟨hI38, hT41, fun _ => ⟨by omega, by omega, by first | (rw [if_pos (by omega)]; omega) | (rw [if_neg (by omega)]; omega)⟩, fun hv => absurd hv (by omega)⟩)
      · refine w_iconst S dX6_carrier_27 (by decide) (fun k43 hk43 => ?_)
        refine lv_goto (tgt := 32) S.1 S.2.1 dX6_carrier_28 (by decide) ?_
        refine lv_istore (lv' := [(4, .int k43), (3, .ref (g.1 (5 + 21 * po.toInt.toNat))), (0, .ref (g.1 0)), (1, .int po), (2, .int on)]) S.1 S.2.1 dX6_carrier_32 hl (by decide) rfl (fun ls hl => ?_)
        refine lv_aload_n S.1 S.2.1 dX6_carrier_34 rfl (lv_at hl 1 rfl) ?_
        refine lv_iload_n S.1 S.2.1 dX6_carrier_35 rfl (lv_at hl 4 rfl) ?_
        refine w_putN (C := RX2) (T := TX2) (N := 15) (F := FPort g (5 + 21 * po.toInt.toNat)) S (fun _ h => List.mem_cons_of_mem _ (List.mem_append_left _ (List.mem_append_left _ (List.mem_append_left _ (List.mem_append_left _ (List.mem_append_left _ (List.mem_append_right _ h))))))) tyX2_ok nmX2 hK hg hP hS (5 + 21 * po.toInt.toNat) (by have := h4_7; omega) (ceP0 h4_7) rfl 10 (by decide) (hN.1 _ (List.mem_of_getElem? (i := 27) rfl)) rfl (tz_narrow (z01 (by omega) (by omega))) (tz_fits (z01 (by omega) (by omega))) (fun _ => Nat.le_of_ble_eq_true rfl) (fun _ => rfl) dX6_carrier_36 (fun x44 H locs ex44 hP hS => ?_)
        have hI45 : Inv x44 := by rw [ex44]; exact hI.upP0 h4_7 (show (0 : Int) ≤ _ by omega) (show _ ≤ (1 : Int) by omega)
        have hT46 : Same (TCc po.toInt.toNat) x x44 := by rw [ex44]; exact hT.up (by unfold TCc TC TrC; omega)
        have u47 : (x44 (5 + 21 * po.toInt.toNat) 10).toInt = on.toInt := by rw [ex44, up2_at]
        have u48 : (x44 (5 + 21 * po.toInt.toNat) 11).toInt = (x (5 + 21 * po.toInt.toNat) 11).toInt := by rw [ex44, up2_ne _ _ (by omega)]
        refine lv_iload S.1 S.2.1 dX6_carrier_39 (lv_at hl 0 rfl) ?_
        refine w_if_eq (tgt := 48) S dX6_carrier_41 (by decide) (fun hb49 => ?_) (fun hb49 => ?_)
        · refine w_iconst S dX6_carrier_48 (by decide) (fun k50 hk50 => ?_)
          exact w_zret S hr0 hlk hP hS dX6_carrier_49 (z01 (by omega) (by omega)) (⟨hI45, hT46, fun _ => ⟨by omega, by omega, by first | (rw [if_pos (by omega)]; omega) | (rw [if_neg (by omega)]; omega)⟩, fun hv => absurd hv (by omega)⟩)
        · refine lv_aload_n S.1 S.2.1 dX6_carrier_44 rfl (lv_at hl 1 rfl) ?_
          refine w_cVv (As := []) (rest := []) S hK hN hP hS hl (5 + 21 * po.toInt.toNat) (by have := h4_7; omega) ((ceP0 h4_7) _) rfl (c_X2_hangUp l D g hg x44 hI45 (po.toInt.toNat) h4_7) (cwV 0 hts gX6_carrier_X2_hangUp rfl rfl rfl (by decide +kernel) ⟨Nat.le_of_ble_eq_true rfl, Nat.le_of_ble_eq_true rfl⟩) rfl rfl (Nat.le_of_ble_eq_true rfl) dX6_carrier_45 ⟨Nat.zero_le _, Nat.zero_le _⟩ (fun x51 H locs hq53 hP hS => ?_)
          obtain ⟨hI54, hT55, hf56⟩ := hq53
          have hT57 : Same (TCc po.toInt.toNat) x x51 := hT46.tr hT55 (fun c0 k0 h => ⟨h.1, fun e => h.2 (by omega)⟩)
          have hu45 : (x51 (5 + 21 * po.toInt.toNat) 10).toInt = (x44 (5 + 21 * po.toInt.toNat) 10).toInt := by rw [hT55 _ _ ⟨by unfold TC TrC; omega, by omega⟩]
          refine w_iconst S dX6_carrier_48 (by decide) (fun k58 hk58 => ?_)
          exact w_zret S hr0 hlk hP hS dX6_carrier_49 (z01 (by omega) (by omega)) (⟨hI54, hT57, fun _ => ⟨by omega, by omega, by first | (rw [if_pos (by omega)]; omega) | (rw [if_neg (by omega)]; omega)⟩, fun hv => absurd hv (by omega)⟩)
  · refine w_iconst S dX6_carrier_7 (by decide) (fun k59 hk59 => ?_)
    exact w_zret S hr0 hlk hP hS dX6_carrier_8 (z01 (by omega) (by omega)) (⟨hI, hT, fun hv => absurd hv (by omega), fun _ => ⟨by omega, rfl⟩⟩)
set_option maxRecDepth 100000 in
set_option maxHeartbeats 4000000 in
theorem c_X6_clear (l : Launch) (D : va_G) (g : GA) (hg : Inj g) (x : St) (hI : Inv x)  (po : Int32) (on : Int32) (hon : 0 ≤ on.toInt ∧ on.toInt ≤ 1) : Met l yX6_clear wsX6_clear ({ frames := 1, cells := 0, slots := 0, locals := 20 } : Room) (va_Pc [.ref (g.1 0), .int po, .int on] (WI D g x)) (va_Qi (fun r x2 => Inv x2 ∧ Same (TC) x x2 ∧ ((0 ≤ po.toInt ∧ po.toInt ≤ 3) → r.toInt = 1) ∧ (¬ (0 ≤ po.toInt ∧ po.toInt ≤ 3) → r.toInt = 0)) (WO D g) (AQ g)) 0 0 (AQ g) := by
  refine w_met (cc := cX6_clear) (maxL := 3) (ret := (some .boolean)) (own := RX6) (by decide) rfl rfl (Nat.le_of_ble_eq_true rfl) (fun p e s m below meth co S hr0 hlk hK hN hP hS ls hl => ?_)
  have hts := S.2.2.2.2
  have hl : lv_has ls 3 [(0, .ref (g.1 0)), (1, .int po), (2, .int on)] := hl
  have hT : Same (TC) x x := Same.rf
  refine lv_iload_n S.1 S.2.1 dX6_clear_0 rfl (lv_at hl 1 rfl) ?_
  refine w_cSi (As := [.int po]) (rest := []) S hK hN hP hS hl (c_X6_isPort l D g hg x hI po) (va_cwS 1 hts gX6_clear_X6_isPort rfl rfl rfl (by decide +kernel) ⟨Nat.le_of_ble_eq_true rfl, Nat.le_of_ble_eq_true rfl⟩) rfl rfl (Nat.le_of_ble_eq_true rfl) dX6_clear_1 ⟨Nat.zero_le _, Nat.zero_le _⟩ (fun r2 x1 H locs hq3 hP hS => ?_)
  obtain ⟨ex4, hf5⟩ := hq3
  rw [ex4] at hP
  refine w_if_ne (tgt := 9) S dX6_clear_4 (by decide) (fun hb6 => ?_) (fun hb6 => ?_)
  · refine lv_aload_n S.1 S.2.1 dX6_clear_9 rfl (lv_at hl 0 rfl) ?_
    refine w_get (C := RX6) (T := TX6) (N := 2) S (fun _ h => List.mem_cons_of_mem _ (List.mem_append_left _ (List.mem_append_left _ (List.mem_append_right _ h)))) hK hP 0 (by decide) (ceK0 _) rfl 1 (by decide) (hts _ (List.mem_of_getElem? (i := 1) rfl)) (v := .ref (g.1 1)) rfl dX6_clear_10 ?_
    refine lv_iload_n S.1 S.2.1 dX6_clear_13 rfl (lv_at hl 1 rfl) ?_
    have h4_7 : po.toInt.toNat < 4 := by omega
    refine w_aald S hK hP (by omega) (by omega) dX6_clear_14 ?_
    refine w_getN (C := RX2) (T := TX2) (N := 15) S (fun _ h => List.mem_cons_of_mem _ (List.mem_append_left _ (List.mem_append_right _ h))) hK hP (5 + 21 * po.toInt.toNat) (by have := h4_7; omega) ((ceP0 h4_7) _) rfl 4 (by decide) (hN.1 _ (List.mem_of_getElem? (i := 23) rfl)) (v := .ref (g.1 (5 + 21 * po.toInt.toNat + 7))) rfl dX6_clear_15 ?_
    refine lv_iload_n S.1 S.2.1 dX6_clear_18 rfl (lv_at hl 2 rfl) ?_
    refine w_putN (C := RX1) (T := TX1) (N := 5) (F := FOut g (5 + 21 * po.toInt.toNat)) S (fun _ h => List.mem_cons_of_mem _ (List.mem_append_right _ h)) tyX1_ok nmX1 hK hg hP hS (5 + 21 * po.toInt.toNat + 7) (by have := h4_7; omega) (ceP7 h4_7) rfl 4 (by decide) (hN.1 _ (List.mem_of_getElem? (i := 17) rfl)) rfl (tz_narrow (z01 (by omega) (by omega))) (tz_fits (z01 (by omega) (by omega))) (fun _ => Nat.le_of_ble_eq_true rfl) (fun _ => rfl) dX6_clear_19 (fun x8 H locs ex8 hP hS => ?_)
    have hI9 : Inv x8 := by rw [ex8]; exact hI.upP (j := 7) h4_7 (by decide) (show (0 : Int) ≤ _ by omega) (show _ ≤ (1 : Int) by omega)
    have hT10 : Same (TC) x x8 := by rw [ex8]; exact hT.up (by unfold TC TrC; omega)
    refine w_iconst S dX6_clear_22 (by decide) (fun k11 hk11 => ?_)
    exact w_zret S hr0 hlk hP hS dX6_clear_23 (z01 (by omega) (by omega)) (⟨hI9, hT10, by omega, by omega⟩)
  · refine w_iconst S dX6_clear_7 (by decide) (fun k12 hk12 => ?_)
    exact w_zret S hr0 hlk hP hS dX6_clear_8 (z01 (by omega) (by omega)) (⟨hI, hT, by omega, by omega⟩)
set_option maxRecDepth 100000 in
set_option maxHeartbeats 4000000 in
theorem c_X6_open (l : Launch) (D : va_G) (g : GA) (hg : Inj g) (x : St) (hI : Inv x)  (a : Int32) (po : Int32) : Met l yX6_open wsX6_open ({ frames := 1, cells := 0, slots := 0, locals := 22 } : Room) (va_Pc [.ref (g.1 0), .int a, .int po] (WI D g x)) (va_Qi (fun r x2 => Inv x2 ∧ Same (TCo po.toInt.toNat) x x2 ∧ ((0 ≤ a.toInt ∧ a.toInt ≤ 7 ∧ 0 ≤ po.toInt ∧ po.toInt ≤ 3) → ((r.toInt = 0 ∧ x2 = x ∧ ((x (5 + 21 * po.toInt.toNat) 10).toInt = 0 ∨ ((x (5 + 21 * po.toInt.toNat + 19) a.toInt.toNat).toInt ≠ 0 ∧ (x (5 + 21 * po.toInt.toNat) 11).toInt = 0))) ∨ (r.toInt = 1 ∧ ((x (5 + 21 * po.toInt.toNat) 10).toInt ≠ 0 ∧ ((x (5 + 21 * po.toInt.toNat + 19) a.toInt.toNat).toInt = 0 ∨ (x (5 + 21 * po.toInt.toNat) 11).toInt ≠ 0)) ∧ (x2 (5 + 21 * po.toInt.toNat) 11).toInt = 0 ∧ ∀ k, k < 8 → (x2 (5 + 21 * po.toInt.toNat + 19) k) = if k = a.toInt.toNat then 1 else if (x (5 + 21 * po.toInt.toNat) 11).toInt = 0 then (x (5 + 21 * po.toInt.toNat + 19) k) else 0))) ∧ (¬ (0 ≤ a.toInt ∧ a.toInt ≤ 7 ∧ 0 ≤ po.toInt ∧ po.toInt ≤ 3) → r.toInt = 0 ∧ x2 = x)) (WO D g) (AQ g)) 0 0 (AQ g) := by
  refine w_met (cc := cX6_open) (maxL := 3) (ret := (some .boolean)) (own := RX6) (by decide) rfl rfl (Nat.le_of_ble_eq_true rfl) (fun p e s m below meth co S hr0 hlk hK hN hP hS ls hl => ?_)
  have hts := S.2.2.2.2
  have hl : lv_has ls 3 [(0, .ref (g.1 0)), (1, .int a), (2, .int po)] := hl
  have hT : Same (TCo po.toInt.toNat) x x := Same.rf
  refine lv_iload_n S.1 S.2.1 dX6_open_0 rfl (lv_at hl 1 rfl) ?_
  refine w_cSi (As := [.int a]) (rest := []) S hK hN hP hS hl (c_X6_isProcess l D g hg x hI a) (va_cwS 1 hts gX6_open_X6_isProcess rfl rfl rfl (by decide +kernel) ⟨Nat.le_of_ble_eq_true rfl, Nat.le_of_ble_eq_true rfl⟩) rfl rfl (Nat.le_of_ble_eq_true rfl) dX6_open_1 ⟨Nat.zero_le _, Nat.zero_le _⟩ (fun r2 x1 H locs hq3 hP hS => ?_)
  obtain ⟨ex4, hf5⟩ := hq3
  rw [ex4] at hP
  refine w_if_eq (tgt := 14) S dX6_open_4 (by decide) (fun hb6 => ?_) (fun hb6 => ?_)
  · refine w_iconst S dX6_open_14 (by decide) (fun k7 hk7 => ?_)
    exact w_zret S hr0 hlk hP hS dX6_open_15 (z01 (by omega) (by omega)) (⟨hI, hT, fun hv => absurd hv (by omega), fun _ => ⟨by omega, rfl⟩⟩)
  · refine lv_iload_n S.1 S.2.1 dX6_open_7 rfl (lv_at hl 2 rfl) ?_
    refine w_cSi (As := [.int po]) (rest := []) S hK hN hP hS hl (c_X6_isPort l D g hg x hI po) (va_cwS 1 hts gX6_open_X6_isPort rfl rfl rfl (by decide +kernel) ⟨Nat.le_of_ble_eq_true rfl, Nat.le_of_ble_eq_true rfl⟩) rfl rfl (Nat.le_of_ble_eq_true rfl) dX6_open_8 ⟨Nat.zero_le _, Nat.zero_le _⟩ (fun r9 x8 H locs hq10 hP hS => ?_)
    obtain ⟨ex11, hf12⟩ := hq10
    rw [ex11] at hP
    refine w_if_ne (tgt := 16) S dX6_open_11 (by decide) (fun hb13 => ?_) (fun hb13 => ?_)
    · refine lv_aload_n S.1 S.2.1 dX6_open_16 rfl (lv_at hl 0 rfl) ?_
      refine w_get (C := RX6) (T := TX6) (N := 2) S (fun _ h => List.mem_cons_of_mem _ (List.mem_append_left _ (List.mem_append_right _ h))) hK hP 0 (by decide) (ceK0 _) rfl 1 (by decide) (hts _ (List.mem_of_getElem? (i := 1) rfl)) (v := .ref (g.1 1)) rfl dX6_open_17 ?_
      refine lv_iload_n S.1 S.2.1 dX6_open_20 rfl (lv_at hl 2 rfl) ?_
      have h4_14 : po.toInt.toNat < 4 := by omega
      refine w_aald S hK hP (by omega) (by omega) dX6_open_21 ?_
      refine lv_iload_n S.1 S.2.1 dX6_open_22 rfl (lv_at hl 1 rfl) ?_
      refine w_cVi (As := [.int a]) (rest := []) S hK hN hP hS hl (5 + 21 * po.toInt.toNat) (by have := h4_14; omega) ((ceP0 h4_14) _) rfl (c_X2_openFor l D g hg x hI (po.toInt.toNat) h4_14 a (by omega)) (cwV 1 hts gX6_open_X2_openFor rfl rfl rfl (by decide +kernel) ⟨Nat.le_of_ble_eq_true rfl, Nat.le_of_ble_eq_true rfl⟩) rfl rfl (Nat.le_of_ble_eq_true rfl) dX6_open_23 ⟨Nat.zero_le _, Nat.zero_le _⟩ (fun r16 x15 H locs hq17 hP hS => ?_)
      obtain ⟨hI18, hT19, hf20⟩ := hq17
      have hT21 : Same (TCo po.toInt.toNat) x x15 := hT.tr hT19 (fun _ _ h => h)
      have hf26 := hf20
      have hg26 : 0 ≤ r16.toInt ∧ r16.toInt ≤ 1 := by rcases hf26 with ⟨h, _⟩ | ⟨h, _⟩ <;> omega
      exact w_zret S hr0 hlk hP hS dX6_open_26 (z01 (by omega) (by omega)) (⟨hI18, hT21, fun _ => hf26, fun hv => absurd hv (by omega)⟩)
    · refine w_iconst S dX6_open_14 (by decide) (fun k22 hk22 => ?_)
      exact w_zret S hr0 hlk hP hS dX6_open_15 (z01 (by omega) (by omega)) (⟨hI, hT, fun hv => absurd hv (by omega), fun _ => ⟨by omega, rfl⟩⟩)
set_option maxRecDepth 100000 in
set_option maxHeartbeats 4000000 in
theorem c_X6_close (l : Launch) (D : va_G) (g : GA) (hg : Inj g) (x : St) (hI : Inv x)  (a : Int32) (po : Int32) : Met l yX6_close wsX6_close ({ frames := 1, cells := 0, slots := 0, locals := 20 } : Room) (va_Pc [.ref (g.1 0), .int a, .int po] (WI D g x)) (va_Qi (fun r x2 => Inv x2 ∧ Same (TCp po.toInt.toNat) x x2 ∧ ((0 ≤ a.toInt ∧ a.toInt ≤ 7 ∧ 0 ≤ po.toInt ∧ po.toInt ≤ 3) → r = (x (5 + 21 * po.toInt.toNat + 19) a.toInt.toNat) ∧ ∀ k, (x2 (5 + 21 * po.toInt.toNat + 19) k) = if k = a.toInt.toNat then 0 else (x (5 + 21 * po.toInt.toNat + 19) k)) ∧ (¬ (0 ≤ a.toInt ∧ a.toInt ≤ 7 ∧ 0 ≤ po.toInt ∧ po.toInt ≤ 3) → r.toInt = 0 ∧ x2 = x)) (WO D g) (AQ g)) 0 0 (AQ g) := by
  refine w_met (cc := cX6_close) (maxL := 4) (ret := (some .boolean)) (own := RX6) (by decide) rfl rfl (Nat.le_of_ble_eq_true rfl) (fun p e s m below meth co S hr0 hlk hK hN hP hS ls hl => ?_)
  have hts := S.2.2.2.2
  have hl : lv_has ls 4 [(0, .ref (g.1 0)), (1, .int a), (2, .int po)] := hl
  have hT : Same (TCp po.toInt.toNat) x x := Same.rf
  refine lv_iload_n S.1 S.2.1 dX6_close_0 rfl (lv_at hl 1 rfl) ?_
  refine w_cSi (As := [.int a]) (rest := []) S hK hN hP hS hl (c_X6_isProcess l D g hg x hI a) (va_cwS 1 hts gX6_close_X6_isProcess rfl rfl rfl (by decide +kernel) ⟨Nat.le_of_ble_eq_true rfl, Nat.le_of_ble_eq_true rfl⟩) rfl rfl (Nat.le_of_ble_eq_true rfl) dX6_close_1 ⟨Nat.zero_le _, Nat.zero_le _⟩ (fun r2 x1 H locs hq3 hP hS => ?_)
  obtain ⟨ex4, hf5⟩ := hq3
  rw [ex4] at hP
  refine w_if_eq (tgt := 14) S dX6_close_4 (by decide) (fun hb6 => ?_) (fun hb6 => ?_)
  · refine w_iconst S dX6_close_14 (by decide) (fun k7 hk7 => ?_)
    exact w_zret S hr0 hlk hP hS dX6_close_15 (z01 (by omega) (by omega)) (⟨hI, hT, fun hv => absurd hv (by omega), fun _ => ⟨by omega, rfl⟩⟩)
  · refine lv_iload_n S.1 S.2.1 dX6_close_7 rfl (lv_at hl 2 rfl) ?_
    refine w_cSi (As := [.int po]) (rest := []) S hK hN hP hS hl (c_X6_isPort l D g hg x hI po) (va_cwS 1 hts gX6_close_X6_isPort rfl rfl rfl (by decide +kernel) ⟨Nat.le_of_ble_eq_true rfl, Nat.le_of_ble_eq_true rfl⟩) rfl rfl (Nat.le_of_ble_eq_true rfl) dX6_close_8 ⟨Nat.zero_le _, Nat.zero_le _⟩ (fun r9 x8 H locs hq10 hP hS => ?_)
    obtain ⟨ex11, hf12⟩ := hq10
    rw [ex11] at hP
    refine w_if_ne (tgt := 16) S dX6_close_11 (by decide) (fun hb13 => ?_) (fun hb13 => ?_)
    · refine lv_aload_n S.1 S.2.1 dX6_close_16 rfl (lv_at hl 0 rfl) ?_
      refine w_get (C := RX6) (T := TX6) (N := 2) S (fun _ h => List.mem_cons_of_mem _ (List.mem_append_left _ (List.mem_append_right _ h))) hK hP 0 (by decide) (ceK0 _) rfl 1 (by decide) (hts _ (List.mem_of_getElem? (i := 1) rfl)) (v := .ref (g.1 1)) rfl dX6_close_17 ?_
      refine lv_iload_n S.1 S.2.1 dX6_close_20 rfl (lv_at hl 2 rfl) ?_
      have h4_14 : po.toInt.toNat < 4 := by omega
      refine w_aald S hK hP (by omega) (by omega) dX6_close_21 ?_
      refine w_getN (C := RX2) (T := TX2) (N := 15) S (fun _ h => List.mem_cons_of_mem _ (List.mem_append_right _ h)) hK hP (5 + 21 * po.toInt.toNat) (by have := h4_14; omega) ((ceP0 h4_14) _) rfl 7 (by decide) (hN.1 _ (List.mem_of_getElem? (i := 25) rfl)) (v := .ref (g.1 (5 + 21 * po.toInt.toNat + 19))) rfl dX6_close_22 ?_
      refine lv_iload_n S.1 S.2.1 dX6_close_25 rfl (lv_at hl 1 rfl) ?_
      refine w_zald S hK hP (5 + 21 * po.toInt.toNat + 19) (by have := h4_14; omega) (ceP19 h4_14) (by omega) (by omega) dX6_close_26 (fun v15 ev15 => ?_)
      have wv15 : v15.toInt = (x (5 + 21 * po.toInt.toNat + 19) a.toInt.toNat).toInt := by rw [ev15]
      have rv15 : (0 : Int) ≤ v15.toInt ∧ v15.toInt ≤ (1 : Int) := by rw [ev15]; exact hI.atP (j := 19) (k := _) h4_14 (by decide)
      have he27 := ev15
      refine lv_istore_n (lv' := [(3, .int v15), (0, .ref (g.1 0)), (1, .int a), (2, .int po)]) S.1 S.2.1 dX6_close_27 rfl hl (by decide) rfl (fun ls hl => ?_)
      refine lv_aload_n S.1 S.2.1 dX6_close_28 rfl (lv_at hl 1 rfl) ?_
      refine w_get (C := RX6) (T := TX6) (N := 2) S (fun _ h => List.mem_cons_of_mem _ (List.mem_append_left _ (List.mem_append_right _ h))) hK hP 0 (by decide) (ceK0 _) rfl 1 (by decide) (hts _ (List.mem_of_getElem? (i := 1) rfl)) (v := .ref (g.1 1)) rfl dX6_close_29 ?_
      refine lv_iload_n S.1 S.2.1 dX6_close_32 rfl (lv_at hl 3 rfl) ?_
      have h4_16 : po.toInt.toNat < 4 := by omega
      refine w_aald S hK hP (by omega) (by omega) dX6_close_33 ?_
      refine w_getN (C := RX2) (T := TX2) (N := 15) S (fun _ h => List.mem_cons_of_mem _ (List.mem_append_right _ h)) hK hP (5 + 21 * po.toInt.toNat) (by have := h4_16; omega) ((ceP0 h4_16) _) rfl 7 (by decide) (hN.1 _ (List.mem_of_getElem? (i := 25) rfl)) (v := .ref (g.1 (5 + 21 * po.toInt.toNat + 19))) rfl dX6_close_34 ?_
      refine lv_iload_n S.1 S.2.1 dX6_close_37 rfl (lv_at hl 2 rfl) ?_
      refine w_iconst S dX6_close_38 (by decide) (fun k17 hk17 => ?_)
      have hv39 : k17 = 0 := t_eq.mpr (by rw [hk17]; rfl)
      refine w_zast S hK hg hP hS (5 + 21 * po.toInt.toNat + 19) (by have := h4_16; omega) (ceP19 h4_16) (z01 (by omega) (by omega)) (by omega) (by omega) dX6_close_39 (fun x18 H locs ex18 hP hS => ?_)
      have hI19 : Inv x18 := by rw [ex18]; exact hI.upP (j := 19) h4_16 (by decide) (show (0 : Int) ≤ _ by omega) (show _ ≤ (1 : Int) by omega)
      have hT20 : Same (TCp po.toInt.toNat) x x18 := by rw [ex18]; exact hT.up (by unfold TCp TC TrC; omega)
      have hp40 : ∀ k, (x18 (5 + 21 * po.toInt.toNat + 19) k) = if k = a.toInt.toNat then 0 else (x (5 + 21 * po.toInt.toNat + 19) k) := by
        intro k
        rw [ex18]
        by_cases hk1 : k = a.toInt.toNat
        · rw [if_pos hk1, hk1, up2_at]; exact hv39
        · rw [if_neg hk1, up2_ne _ _ (by omega)]
      refine lv_iload_n S.1 S.2.1 dX6_close_40 rfl (lv_at hl 0 rfl) ?_
      exact w_zret S hr0 hlk hP hS dX6_close_41 (z01 (by omega) (by omega)) (⟨hI19, hT20, fun _ => ⟨he27, hp40⟩, fun hv => absurd hv (by omega)⟩)
    · refine w_iconst S dX6_close_14 (by decide) (fun k21 hk21 => ?_)
      exact w_zret S hr0 hlk hP hS dX6_close_15 (z01 (by omega) (by omega)) (⟨hI, hT, fun hv => absurd hv (by omega), fun _ => ⟨by omega, rfl⟩⟩)
set_option maxRecDepth 100000 in
set_option maxHeartbeats 4000000 in
theorem c_X6_join (l : Launch) (D : va_G) (g : GA) (hg : Inj g) (x : St) (hI : Inv x)  (a : Int32) (gr : Int32) : Met l yX6_join wsX6_join ({ frames := 1, cells := 0, slots := 0, locals := 20 } : Room) (va_Pc [.ref (g.1 0), .int a, .int gr] (WI D g x)) (va_Qi (fun r x2 => Inv x2 ∧ Same (TC) x x2 ∧ ((0 ≤ a.toInt ∧ a.toInt ≤ 7 ∧ 0 ≤ gr.toInt ∧ gr.toInt ≤ 7) → r.toInt = 1) ∧ (¬ (0 ≤ a.toInt ∧ a.toInt ≤ 7 ∧ 0 ≤ gr.toInt ∧ gr.toInt ≤ 7) → r.toInt = 0)) (WO D g) (AQ g)) 0 0 (AQ g) := by
  refine w_met (cc := cX6_join) (maxL := 3) (ret := (some .boolean)) (own := RX6) (by decide) rfl rfl (Nat.le_of_ble_eq_true rfl) (fun p e s m below meth co S hr0 hlk hK hN hP hS ls hl => ?_)
  have hts := S.2.2.2.2
  have hl : lv_has ls 3 [(0, .ref (g.1 0)), (1, .int a), (2, .int gr)] := hl
  have hT : Same (TC) x x := Same.rf
  refine lv_iload_n S.1 S.2.1 dX6_join_0 rfl (lv_at hl 1 rfl) ?_
  refine w_cSi (As := [.int a]) (rest := []) S hK hN hP hS hl (c_X6_isProcess l D g hg x hI a) (va_cwS 1 hts gX6_join_X6_isProcess rfl rfl rfl (by decide +kernel) ⟨Nat.le_of_ble_eq_true rfl, Nat.le_of_ble_eq_true rfl⟩) rfl rfl (Nat.le_of_ble_eq_true rfl) dX6_join_1 ⟨Nat.zero_le _, Nat.zero_le _⟩ (fun r2 x1 H locs hq3 hP hS => ?_)
  obtain ⟨ex4, hf5⟩ := hq3
  rw [ex4] at hP
  refine w_if_eq (tgt := 14) S dX6_join_4 (by decide) (fun hb6 => ?_) (fun hb6 => ?_)
  · refine w_iconst S dX6_join_14 (by decide) (fun k7 hk7 => ?_)
    exact w_zret S hr0 hlk hP hS dX6_join_15 (z01 (by omega) (by omega)) (⟨hI, hT, by omega, by omega⟩)
  · refine lv_iload_n S.1 S.2.1 dX6_join_7 rfl (lv_at hl 2 rfl) ?_
    refine w_cSi (As := [.int gr]) (rest := []) S hK hN hP hS hl (c_X6_isGroup l D g hg x hI gr) (va_cwS 1 hts gX6_join_X6_isGroup rfl rfl rfl (by decide +kernel) ⟨Nat.le_of_ble_eq_true rfl, Nat.le_of_ble_eq_true rfl⟩) rfl rfl (Nat.le_of_ble_eq_true rfl) dX6_join_8 ⟨Nat.zero_le _, Nat.zero_le _⟩ (fun r9 x8 H locs hq10 hP hS => ?_)
    obtain ⟨ex11, hf12⟩ := hq10
    rw [ex11] at hP
    refine w_if_ne (tgt := 16) S dX6_join_11 (by decide) (fun hb13 => ?_) (fun hb13 => ?_)
    · refine lv_aload_n S.1 S.2.1 dX6_join_16 rfl (lv_at hl 0 rfl) ?_
      refine w_get (C := RX6) (T := TX6) (N := 2) S (fun _ h => List.mem_cons_of_mem _ (List.mem_append_left _ (List.mem_append_right _ h))) hK hP 0 (by decide) (ceK0 _) rfl 0 (by decide) (hts _ (List.mem_of_getElem? (i := 1) rfl)) (v := .ref (g.1 2)) rfl dX6_join_17 ?_
      refine w_getN (C := RX0) (T := TX0) (N := 2) S (fun _ h => List.mem_cons_of_mem _ (List.mem_append_right _ h)) hK hP 2 (by decide) (ceK2 _) rfl 0 (by decide) (hN.1 _ (List.mem_of_getElem? (i := 1) rfl)) (v := .ref (g.1 3)) rfl dX6_join_20 ?_
      refine lv_iload_n S.1 S.2.1 dX6_join_23 rfl (lv_at hl 1 rfl) ?_
      refine lv_iload_n S.1 S.2.1 dX6_join_24 rfl (lv_at hl 2 rfl) ?_
      refine w_iast S hK hg hP hS 3 (by decide) ceK3 (by omega) (by omega) dX6_join_25 (fun x14 H locs ex14 hP hS => ?_)
      have hI15 : Inv x14 := by rw [ex14]; exact hI.up (i_ge _) (i_le _)
      have hT16 : Same (TC) x x14 := by rw [ex14]; exact hT.up (by unfold TC TrC; omega)
      refine w_iconst S dX6_join_26 (by decide) (fun k17 hk17 => ?_)
      exact w_zret S hr0 hlk hP hS dX6_join_27 (z01 (by omega) (by omega)) (⟨hI15, hT16, by omega, by omega⟩)
    · refine w_iconst S dX6_join_14 (by decide) (fun k18 hk18 => ?_)
      exact w_zret S hr0 hlk hP hS dX6_join_15 (z01 (by omega) (by omega)) (⟨hI, hT, by omega, by omega⟩)
set_option maxRecDepth 100000 in
set_option maxHeartbeats 4000000 in
theorem c_X6_foreground (l : Launch) (D : va_G) (g : GA) (hg : Inj g) (x : St) (hI : Inv x)  (po : Int32) (gr : Int32) : Met l yX6_foreground wsX6_foreground ({ frames := 1, cells := 0, slots := 0, locals := 20 } : Room) (va_Pc [.ref (g.1 0), .int po, .int gr] (WI D g x)) (va_Qi (fun r x2 => Inv x2 ∧ Same (TC) x x2 ∧ ((0 ≤ po.toInt ∧ po.toInt ≤ 3 ∧ -1 ≤ gr.toInt ∧ gr.toInt ≤ 7) → r.toInt = 1) ∧ (¬ (0 ≤ po.toInt ∧ po.toInt ≤ 3 ∧ -1 ≤ gr.toInt ∧ gr.toInt ≤ 7) → r.toInt = 0)) (WO D g) (AQ g)) 0 0 (AQ g) := by
  refine w_met (cc := cX6_foreground) (maxL := 3) (ret := (some .boolean)) (own := RX6) (by decide) rfl rfl (Nat.le_of_ble_eq_true rfl) (fun p e s m below meth co S hr0 hlk hK hN hP hS ls hl => ?_)
  have hts := S.2.2.2.2
  have hl : lv_has ls 3 [(0, .ref (g.1 0)), (1, .int po), (2, .int gr)] := hl
  have hT : Same (TC) x x := Same.rf
  refine lv_iload_n S.1 S.2.1 dX6_foreground_0 rfl (lv_at hl 1 rfl) ?_
  refine w_cSi (As := [.int po]) (rest := []) S hK hN hP hS hl (c_X6_isPort l D g hg x hI po) (va_cwS 1 hts gX6_foreground_X6_isPort rfl rfl rfl (by decide +kernel) ⟨Nat.le_of_ble_eq_true rfl, Nat.le_of_ble_eq_true rfl⟩) rfl rfl (Nat.le_of_ble_eq_true rfl) dX6_foreground_1 ⟨Nat.zero_le _, Nat.zero_le _⟩ (fun r2 x1 H locs hq3 hP hS => ?_)
  obtain ⟨ex4, hf5⟩ := hq3
  rw [ex4] at hP
  refine w_if_eq (tgt := 19) S dX6_foreground_4 (by decide) (fun hb6 => ?_) (fun hb6 => ?_)
  · refine w_iconst S dX6_foreground_19 (by decide) (fun k7 hk7 => ?_)
    exact w_zret S hr0 hlk hP hS dX6_foreground_20 (z01 (by omega) (by omega)) (⟨hI, hT, by omega, by omega⟩)
  · refine lv_iload_n S.1 S.2.1 dX6_foreground_7 rfl (lv_at hl 2 rfl) ?_
    refine w_cSi (As := [.int gr]) (rest := []) S hK hN hP hS hl (c_X6_isGroup l D g hg x hI gr) (va_cwS 1 hts gX6_foreground_X6_isGroup rfl rfl rfl (by decide +kernel) ⟨Nat.le_of_ble_eq_true rfl, Nat.le_of_ble_eq_true rfl⟩) rfl rfl (Nat.le_of_ble_eq_true rfl) dX6_foreground_8 ⟨Nat.zero_le _, Nat.zero_le _⟩ (fun r9 x8 H locs hq10 hP hS => ?_)
    obtain ⟨ex11, hf12⟩ := hq10
    rw [ex11] at hP
    refine w_if_ne (tgt := 21) S dX6_foreground_11 (by decide) (fun hb13 => ?_) (fun hb13 => ?_)
    · refine lv_aload_n S.1 S.2.1 dX6_foreground_21 rfl (lv_at hl 0 rfl) ?_
      refine w_get (C := RX6) (T := TX6) (N := 2) S (fun _ h => List.mem_cons_of_mem _ (List.mem_append_left _ (List.mem_append_right _ h))) hK hP 0 (by decide) (ceK0 _) rfl 1 (by decide) (hts _ (List.mem_of_getElem? (i := 1) rfl)) (v := .ref (g.1 1)) rfl dX6_foreground_22 ?_
      refine lv_iload_n S.1 S.2.1 dX6_foreground_25 rfl (lv_at hl 1 rfl) ?_
      have h4_14 : po.toInt.toNat < 4 := by omega
      refine w_aald S hK hP (by omega) (by omega) dX6_foreground_26 ?_
      refine lv_iload_n S.1 S.2.1 dX6_foreground_27 rfl (lv_at hl 2 rfl) ?_
      refine w_putN (C := RX2) (T := TX2) (N := 15) (F := FPort g (5 + 21 * po.toInt.toNat)) S (fun _ h => List.mem_cons_of_mem _ (List.mem_append_right _ h)) tyX2_ok nmX2 hK hg hP hS (5 + 21 * po.toInt.toNat) (by have := h4_14; omega) (ceP0 h4_14) rfl 12 (by decide) (hN.1 _ (List.mem_of_getElem? (i := 29) rfl)) rfl rfl rfl (fun _ => Nat.le_of_ble_eq_true rfl) (fun _ => rfl) dX6_foreground_28 (fun x15 H locs ex15 hP hS => ?_)
      have hI16 : Inv x15 := by rw [ex15]; exact hI.upP0 h4_14 (i_ge _) (i_le _)
      have hT17 : Same (TC) x x15 := by rw [ex15]; exact hT.up (by unfold TC TrC; omega)
      refine w_iconst S dX6_foreground_31 (by decide) (fun k18 hk18 => ?_)
      exact w_zret S hr0 hlk hP hS dX6_foreground_32 (z01 (by omega) (by omega)) (⟨hI16, hT17, by omega, by omega⟩)
    · refine lv_iload_n S.1 S.2.1 dX6_foreground_14 rfl (lv_at hl 2 rfl) ?_
      refine w_iconst S dX6_foreground_15 (by decide) (fun k19 hk19 => ?_)
      refine w_icmp_eq (tgt := 21) S dX6_foreground_16 (by decide) (fun hb20 => ?_) (fun hb20 => ?_)
      · refine lv_aload_n S.1 S.2.1 dX6_foreground_21 rfl (lv_at hl 0 rfl) ?_
        refine w_get (C := RX6) (T := TX6) (N := 2) S (fun _ h => List.mem_cons_of_mem _ (List.mem_append_left _ (List.mem_append_right _ h))) hK hP 0 (by decide) (ceK0 _) rfl 1 (by decide) (hts _ (List.mem_of_getElem? (i := 1) rfl)) (v := .ref (g.1 1)) rfl dX6_foreground_22 ?_
        refine lv_iload_n S.1 S.2.1 dX6_foreground_25 rfl (lv_at hl 1 rfl) ?_
        have h4_21 : po.toInt.toNat < 4 := by omega
        refine w_aald S hK hP (by omega) (by omega) dX6_foreground_26 ?_
        refine lv_iload_n S.1 S.2.1 dX6_foreground_27 rfl (lv_at hl 2 rfl) ?_
        refine w_putN (C := RX2) (T := TX2) (N := 15) (F := FPort g (5 + 21 * po.toInt.toNat)) S (fun _ h => List.mem_cons_of_mem _ (List.mem_append_right _ h)) tyX2_ok nmX2 hK hg hP hS (5 + 21 * po.toInt.toNat) (by have := h4_21; omega) (ceP0 h4_21) rfl 12 (by decide) (hN.1 _ (List.mem_of_getElem? (i := 29) rfl)) rfl rfl rfl (fun _ => Nat.le_of_ble_eq_true rfl) (fun _ => rfl) dX6_foreground_28 (fun x22 H locs ex22 hP hS => ?_)
        have hI23 : Inv x22 := by rw [ex22]; exact hI.upP0 h4_21 (i_ge _) (i_le _)
        have hT24 : Same (TC) x x22 := by rw [ex22]; exact hT.up (by unfold TC TrC; omega)
        refine w_iconst S dX6_foreground_31 (by decide) (fun k25 hk25 => ?_)
        exact w_zret S hr0 hlk hP hS dX6_foreground_32 (z01 (by omega) (by omega)) (⟨hI23, hT24, by omega, by omega⟩)
      · refine w_iconst S dX6_foreground_19 (by decide) (fun k26 hk26 => ?_)
        exact w_zret S hr0 hlk hP hS dX6_foreground_20 (z01 (by omega) (by omega)) (⟨hI, hT, by omega, by omega⟩)
set_option maxRecDepth 100000 in
set_option maxHeartbeats 4000000 in
theorem c_X6_write (l : Launch) (D : va_G) (g : GA) (hg : Inj g) (x : St) (hI : Inv x)  (a : Int32) (po : Int32) (b : Int32) : Met l yX6_write wsX6_write ({ frames := 3, cells := 0, slots := 0, locals := 66 } : Room) (va_Pc [.ref (g.1 0), .int a, .int po, .int b] (WI D g x)) (va_Qi (fun r x2 => Inv x2 ∧ Same (TC) x x2 ∧ ((0 ≤ a.toInt ∧ a.toInt ≤ 7 ∧ 0 ≤ po.toInt ∧ po.toInt ≤ 3 ∧ 0 ≤ b.toInt ∧ b.toInt ≤ 255) → (x (5 + 21 * po.toInt.toNat + 19) a.toInt.toNat).toInt = 0 → r.toInt = -4) ∧ (¬ (0 ≤ a.toInt ∧ a.toInt ≤ 7 ∧ 0 ≤ po.toInt ∧ po.toInt ≤ 3 ∧ 0 ≤ b.toInt ∧ b.toInt ≤ 255) → r.toInt = -1)) (WO D g) (AQ g)) 0 0 (AQ g) := by
  refine w_met (cc := cX6_write) (maxL := 5) (ret := (some .int)) (own := RX6) (by decide) rfl rfl (Nat.le_of_ble_eq_true rfl) (fun p e s m below meth co S hr0 hlk hK hN hP hS ls hl => ?_)
  have hts := S.2.2.2.2
  have hl : lv_has ls 5 [(0, .ref (g.1 0)), (1, .int a), (2, .int po), (3, .int b)] := hl
  have hT : Same (TC) x x := Same.rf
  refine lv_iload_n S.1 S.2.1 dX6_write_0 rfl (lv_at hl 1 rfl) ?_
  refine w_cSi (As := [.int a]) (rest := []) S hK hN hP hS hl (c_X6_isProcess l D g hg x hI a) (va_cwS 1 hts gX6_write_X6_isProcess rfl rfl rfl (by decide +kernel) ⟨Nat.le_of_ble_eq_true rfl, Nat.le_of_ble_eq_true rfl⟩) rfl rfl (Nat.le_of_ble_eq_true rfl) dX6_write_1 ⟨Nat.zero_le _, Nat.zero_le _⟩ (fun r2 x1 H locs hq3 hP hS => ?_)
  obtain ⟨ex4, hf5⟩ := hq3
  rw [ex4] at hP
  refine w_if_eq (tgt := 21) S dX6_write_4 (by decide) (fun hb6 => ?_) (fun hb6 => ?_)
  · refine w_iconst S dX6_write_21 (by decide) (fun k7 hk7 => ?_)
    exact w_iret S hr0 hlk hP hS dX6_write_22 (⟨hI, hT, by omega, by omega⟩)
  · refine lv_iload_n S.1 S.2.1 dX6_write_7 rfl (lv_at hl 2 rfl) ?_
    refine w_cSi (As := [.int po]) (rest := []) S hK hN hP hS hl (c_X6_isPort l D g hg x hI po) (va_cwS 1 hts gX6_write_X6_isPort rfl rfl rfl (by decide +kernel) ⟨Nat.le_of_ble_eq_true rfl, Nat.le_of_ble_eq_true rfl⟩) rfl rfl (Nat.le_of_ble_eq_true rfl) dX6_write_8 ⟨Nat.zero_le _, Nat.zero_le _⟩ (fun r9 x8 H locs hq10 hP hS => ?_)
    obtain ⟨ex11, hf12⟩ := hq10
    rw [ex11] at hP
    refine w_if_eq (tgt := 21) S dX6_write_11 (by decide) (fun hb13 => ?_) (fun hb13 => ?_)
    · refine w_iconst S dX6_write_21 (by decide) (fun k14 hk14 => ?_)
      exact w_iret S hr0 hlk hP hS dX6_write_22 (⟨hI, hT, by omega, by omega⟩)
    · refine lv_iload_n S.1 S.2.1 dX6_write_14 rfl (lv_at hl 3 rfl) ?_
      refine w_cSi (As := [.int b]) (rest := []) S hK hN hP hS hl (c_X6_isByte l D g hg x hI b) (va_cwS 1 hts gX6_write_X6_isByte rfl rfl rfl (by decide +kernel) ⟨Nat.le_of_ble_eq_true rfl, Nat.le_of_ble_eq_true rfl⟩) rfl rfl (Nat.le_of_ble_eq_true rfl) dX6_write_15 ⟨Nat.zero_le _, Nat.zero_le _⟩ (fun r16 x15 H locs hq17 hP hS => ?_)
      obtain ⟨ex18, hf19⟩ := hq17
      rw [ex18] at hP
      refine w_if_ne (tgt := 23) S dX6_write_18 (by decide) (fun hb20 => ?_) (fun hb20 => ?_)
      · refine lv_aload_n S.1 S.2.1 dX6_write_23 rfl (lv_at hl 0 rfl) ?_
        refine w_get (C := RX6) (T := TX6) (N := 2) S (fun _ h => List.mem_cons_of_mem _ (List.mem_append_left _ (List.mem_append_left _ (List.mem_append_left _ (List.mem_append_left _ (List.mem_append_right _ h)))))) hK hP 0 (by decide) (ceK0 _) rfl 1 (by decide) (hts _ (List.mem_of_getElem? (i := 1) rfl)) (v := .ref (g.1 1)) rfl dX6_write_24 ?_
        refine lv_iload_n S.1 S.2.1 dX6_write_27 rfl (lv_at hl 2 rfl) ?_
        have h4_21 : po.toInt.toNat < 4 := by omega
        refine w_aald S hK hP (by omega) (by omega) dX6_write_28 ?_
        refine lv_astore (lv' := [(4, .ref (g.1 (5 + 21 * po.toInt.toNat))), (0, .ref (g.1 0)), (1, .int a), (2, .int po), (3, .int b)]) S.1 S.2.1 dX6_write_29 hl (by decide) rfl (fun ls hl => ?_)
        refine lv_aload S.1 S.2.1 dX6_write_31 (lv_at hl 0 rfl) ?_
        refine w_getN (C := RX2) (T := TX2) (N := 15) S (fun _ h => List.mem_cons_of_mem _ (List.mem_append_left _ (List.mem_append_left _ (List.mem_append_left _ (List.mem_append_right _ h))))) hK hP (5 + 21 * po.toInt.toNat) (by have := h4_21; omega) ((ceP0 h4_21) _) rfl 7 (by decide) (hN.1 _ (List.mem_of_getElem? (i := 25) rfl)) (v := .ref (g.1 (5 + 21 * po.toInt.toNat + 19))) rfl dX6_write_33 ?_
        refine lv_iload_n S.1 S.2.1 dX6_write_36 rfl (lv_at hl 2 rfl) ?_
        refine w_zald S hK hP (5 + 21 * po.toInt.toNat + 19) (by have := h4_21; omega) (ceP19 h4_21) (by omega) (by omega) dX6_write_37 (fun v22 ev22 => ?_)
        have wv22 : v22.toInt = (x (5 + 21 * po.toInt.toNat + 19) a.toInt.toNat).toInt := by rw [ev22]
        have rv22 : (0 : Int) ≤ v22.toInt ∧ v22.toInt ≤ (1 : Int) := by rw [ev22]; exact hI.atP (j := 19) (k := _) h4_21 (by decide)
        refine w_if_eq (tgt := 49) S dX6_write_38 (by decide) (fun hb23 => ?_) (fun hb23 => ?_)
        · refine w_bipush S dX6_write_49 (by decide) (fun k24 hk24 => ?_)
          exact w_iret S hr0 hlk hP hS dX6_write_51 (⟨hI, hT, by omega, by omega⟩)
        · refine lv_aload S.1 S.2.1 dX6_write_41 (lv_at hl 0 rfl) ?_
          refine w_getN (C := RX2) (T := TX2) (N := 15) S (fun _ h => List.mem_cons_of_mem _ (List.mem_append_left _ (List.mem_append_left _ (List.mem_append_left _ (List.mem_append_right _ h))))) hK hP (5 + 21 * po.toInt.toNat) (by have := h4_21; omega) ((ceP0 h4_21) _) rfl 11 (by decide) (hN.1 _ (List.mem_of_getElem? (i := 28) rfl)) (v := .int (x (5 + 21 * po.toInt.toNat) 11)) rfl dX6_write_43 ?_
          refine lv_topi (fun v25 ev25 => ?_)
          have wv25 : v25.toInt = (x (5 + 21 * po.toInt.toNat) 11).toInt := by rw [ev25]
          have rv25 : (0 : Int) ≤ v25.toInt ∧ v25.toInt ≤ (1 : Int) := by rw [ev25]; exact hI.atP0 (k := 11) h4_21
          refine w_if_eq (tgt := 52) S dX6_write_46 (by decide) (fun hb26 => ?_) (fun hb26 => ?_)
          · refine lv_aload S.1 S.2.1 dX6_write_52 (lv_at hl 0 rfl) ?_
            refine w_bipush S dX6_write_54 (by decide) (fun k27 hk27 => ?_)
            refine w_cVi (As := [.int k27]) (rest := []) S hK hN hP hS hl (5 + 21 * po.toInt.toNat) (by have := h4_21; omega) ((ceP0 h4_21) _) rfl (c_X2_isOn l D g hg x hI (po.toInt.toNat) h4_21 k27 (by omega)) (cwV 1 hts gX6_write_X2_isOn rfl rfl rfl (by decide +kernel) ⟨Nat.le_of_ble_eq_true rfl, Nat.le_of_ble_eq_true rfl⟩) rfl rfl (Nat.le_of_ble_eq_true rfl) dX6_write_56 ⟨Nat.zero_le _, Nat.zero_le _⟩ (fun r29 x28 H locs hq30 hP hS => ?_)
            obtain ⟨ex31, hf32⟩ := hq30
            rw [ex31] at hP
            refine w_if_eq (tgt := 92) S dX6_write_59 (by decide) (fun hb33 => ?_) (fun hb33 => ?_)
            · refine lv_aload S.1 S.2.1 dX6_write_92 (lv_at hl 0 rfl) ?_
              refine lv_iload_n S.1 S.2.1 dX6_write_94 rfl (lv_at hl 4 rfl) ?_
              refine w_cVv (As := [.int b]) (rest := []) S hK hN hP hS hl (5 + 21 * po.toInt.toNat) (by have := h4_21; omega) ((ceP0 h4_21) _) rfl (c_X2_expand l D g hg x hI (po.toInt.toNat) h4_21 b) (cwV 1 hts gX6_write_X2_expand rfl rfl rfl (by decide +kernel) ⟨Nat.le_of_ble_eq_true rfl, Nat.le_of_ble_eq_true rfl⟩) rfl rfl (Nat.le_of_ble_eq_true rfl) dX6_write_95 ⟨Nat.zero_le _, Nat.zero_le _⟩ (fun x34 H locs hq36 hP hS => ?_)
              obtain ⟨hI37, hT38, hf39⟩ := hq36
              have hT40 : Same (TC) x x34 := hT.tr hT38 (fun _ _ h => h)
              refine lv_aload S.1 S.2.1 dX6_write_98 (lv_at hl 0 rfl) ?_
              refine w_getN (C := RX2) (T := TX2) (N := 15) S (fun _ h => List.mem_cons_of_mem _ (List.mem_append_left _ (List.mem_append_left _ (List.mem_append_left _ (List.mem_append_right _ h))))) hK hP (5 + 21 * po.toInt.toNat) (by have := h4_21; omega) ((ceP0 h4_21) _) rfl 4 (by decide) (hN.1 _ (List.mem_of_getElem? (i := 23) rfl)) (v := .ref (g.1 (5 + 21 * po.toInt.toNat + 7))) rfl dX6_write_100 ?_
              refine lv_aload S.1 S.2.1 dX6_write_103 (lv_at hl 0 rfl) ?_
              refine w_getN (C := RX2) (T := TX2) (N := 15) S (fun _ h => List.mem_cons_of_mem _ (List.mem_append_left _ (List.mem_append_left _ (List.mem_append_left _ (List.mem_append_right _ h))))) hK hP (5 + 21 * po.toInt.toNat) (by have := h4_21; omega) ((ceP0 h4_21) _) rfl 6 (by decide) (hN.1 _ (List.mem_of_getElem? (i := 24) rfl)) (v := .ref (g.1 (5 + 21 * po.toInt.toNat + 17))) rfl dX6_write_105 ?_
              refine w_cVi (As := [.ref (g.1 (5 + 21 * po.toInt.toNat + 17))]) (rest := []) S hK hN hP hS hl (5 + 21 * po.toInt.toNat + 7) (by have := h4_21; omega) ((ceP7 h4_21) _) rfl (c_X1_accept l D g hg x34 hI37 (po.toInt.toNat) h4_21) (cwV 1 hts gX6_write_X1_accept rfl rfl rfl (by decide +kernel) ⟨Nat.le_of_ble_eq_true rfl, Nat.le_of_ble_eq_true rfl⟩) rfl rfl (Nat.le_of_ble_eq_true rfl) dX6_write_108 ⟨Nat.zero_le _, Nat.zero_le _⟩ (fun r42 x41 H locs hq43 hP hS => ?_)
              obtain ⟨hI44, hT45, hf46⟩ := hq43
              have hT47 : Same (TC) x x41 := hT40.tr hT45 (fun _ _ h => h)
              refine w_if_ne (tgt := 117) S dX6_write_111 (by decide) (fun hb48 => ?_) (fun hb48 => ?_)
              · refine lv_aload S.1 S.2.1 dX6_write_117 (lv_at hl 0 rfl) ?_
                refine w_getN (C := RX2) (T := TX2) (N := 15) S (fun _ h => List.mem_cons_of_mem _ (List.mem_append_left _ (List.mem_append_left _ (List.mem_append_left _ (List.mem_append_right _ h))))) hK hP (5 + 21 * po.toInt.toNat) (by have := h4_21; omega) ((ceP0 h4_21) _) rfl 4 (by decide) (hN.1 _ (List.mem_of_getElem? (i := 23) rfl)) (v := .ref (g.1 (5 + 21 * po.toInt.toNat + 7))) rfl dX6_write_119 ?_
                refine w_cVv (As := []) (rest := []) S hK hN hP hS hl (5 + 21 * po.toInt.toNat + 7) (by have := h4_21; omega) ((ceP7 h4_21) _) rfl (c_X1_push l D g hg x41 hI44 (po.toInt.toNat) h4_21) (cwV 0 hts gX6_write_X1_push rfl rfl rfl (by decide +kernel) ⟨Nat.le_of_ble_eq_true rfl, Nat.le_of_ble_eq_true rfl⟩) rfl rfl (Nat.le_of_ble_eq_true rfl) dX6_write_122 ⟨Nat.zero_le _, Nat.zero_le _⟩ (fun x49 H locs hq51 hP hS => ?_)
                obtain ⟨hI52, hT53, hf54⟩ := hq51
                have hT55 : Same (TC) x x49 := hT47.tr hT53 (fun _ _ h => h)
                refine w_iconst S dX6_write_125 (by decide) (fun k56 hk56 => ?_)
                exact w_iret S hr0 hlk hP hS dX6_write_126 (⟨hI52, hT55, by omega, by omega⟩)
              · refine w_bipush S dX6_write_114 (by decide) (fun k57 hk57 => ?_)
                exact w_iret S hr0 hlk hP hS dX6_write_116 (⟨hI44, hT47, by omega, by omega⟩)
            · refine lv_aload S.1 S.2.1 dX6_write_62 (lv_at hl 0 rfl) ?_
              refine lv_iload_n S.1 S.2.1 dX6_write_64 rfl (lv_at hl 2 rfl) ?_
              refine w_cVi (As := [.int a]) (rest := []) S hK hN hP hS hl (5 + 21 * po.toInt.toNat) (by have := h4_21; omega) ((ceP0 h4_21) _) rfl (c_X2_isBackground l D g hg x hI (po.toInt.toNat) h4_21 a (by omega)) (cwV 1 hts gX6_write_X2_isBackground rfl rfl rfl (by decide +kernel) ⟨Nat.le_of_ble_eq_true rfl, Nat.le_of_ble_eq_true rfl⟩) rfl rfl (Nat.le_of_ble_eq_true rfl) dX6_write_65 ⟨Nat.zero_le _, Nat.zero_le _⟩ (fun r59 x58 H locs hq60 hP hS => ?_)
              obtain ⟨ex61, hf62⟩ := hq60
              rw [ex61] at hP
              refine w_if_eq (tgt := 92) S dX6_write_68 (by decide) (fun hb63 => ?_) (fun hb63 => ?_)
              · refine lv_aload S.1 S.2.1 dX6_write_92 (lv_at hl 0 rfl) ?_
                refine lv_iload_n S.1 S.2.1 dX6_write_94 rfl (lv_at hl 4 rfl) ?_
                refine w_cVv (As := [.int b]) (rest := []) S hK hN hP hS hl (5 + 21 * po.toInt.toNat) (by have := h4_21; omega) ((ceP0 h4_21) _) rfl (c_X2_expand l D g hg x hI (po.toInt.toNat) h4_21 b) (cwV 1 hts gX6_write_X2_expand rfl rfl rfl (by decide +kernel) ⟨Nat.le_of_ble_eq_true rfl, Nat.le_of_ble_eq_true rfl⟩) rfl rfl (Nat.le_of_ble_eq_true rfl) dX6_write_95 ⟨Nat.zero_le _, Nat.zero_le _⟩ (fun x64 H locs hq66 hP hS => ?_)
                obtain ⟨hI67, hT68, hf69⟩ := hq66
                have hT70 : Same (TC) x x64 := hT.tr hT68 (fun _ _ h => h)
                refine lv_aload S.1 S.2.1 dX6_write_98 (lv_at hl 0 rfl) ?_
                refine w_getN (C := RX2) (T := TX2) (N := 15) S (fun _ h => List.mem_cons_of_mem _ (List.mem_append_left _ (List.mem_append_left _ (List.mem_append_left _ (List.mem_append_right _ h))))) hK hP (5 + 21 * po.toInt.toNat) (by have := h4_21; omega) ((ceP0 h4_21) _) rfl 4 (by decide) (hN.1 _ (List.mem_of_getElem? (i := 23) rfl)) (v := .ref (g.1 (5 + 21 * po.toInt.toNat + 7))) rfl dX6_write_100 ?_
                refine lv_aload S.1 S.2.1 dX6_write_103 (lv_at hl 0 rfl) ?_
                refine w_getN (C := RX2) (T := TX2) (N := 15) S (fun _ h => List.mem_cons_of_mem _ (List.mem_append_left _ (List.mem_append_left _ (List.mem_append_left _ (List.mem_append_right _ h))))) hK hP (5 + 21 * po.toInt.toNat) (by have := h4_21; omega) ((ceP0 h4_21) _) rfl 6 (by decide) (hN.1 _ (List.mem_of_getElem? (i := 24) rfl)) (v := .ref (g.1 (5 + 21 * po.toInt.toNat + 17))) rfl dX6_write_105 ?_
                refine w_cVi (As := [.ref (g.1 (5 + 21 * po.toInt.toNat + 17))]) (rest := []) S hK hN hP hS hl (5 + 21 * po.toInt.toNat + 7) (by have := h4_21; omega) ((ceP7 h4_21) _) rfl (c_X1_accept l D g hg x64 hI67 (po.toInt.toNat) h4_21) (cwV 1 hts gX6_write_X1_accept rfl rfl rfl (by decide +kernel) ⟨Nat.le_of_ble_eq_true rfl, Nat.le_of_ble_eq_true rfl⟩) rfl rfl (Nat.le_of_ble_eq_true rfl) dX6_write_108 ⟨Nat.zero_le _, Nat.zero_le _⟩ (fun r72 x71 H locs hq73 hP hS => ?_)
                obtain ⟨hI74, hT75, hf76⟩ := hq73
                have hT77 : Same (TC) x x71 := hT70.tr hT75 (fun _ _ h => h)
                refine w_if_ne (tgt := 117) S dX6_write_111 (by decide) (fun hb78 => ?_) (fun hb78 => ?_)
                · refine lv_aload S.1 S.2.1 dX6_write_117 (lv_at hl 0 rfl) ?_
                  refine w_getN (C := RX2) (T := TX2) (N := 15) S (fun _ h => List.mem_cons_of_mem _ (List.mem_append_left _ (List.mem_append_left _ (List.mem_append_left _ (List.mem_append_right _ h))))) hK hP (5 + 21 * po.toInt.toNat) (by have := h4_21; omega) ((ceP0 h4_21) _) rfl 4 (by decide) (hN.1 _ (List.mem_of_getElem? (i := 23) rfl)) (v := .ref (g.1 (5 + 21 * po.toInt.toNat + 7))) rfl dX6_write_119 ?_
                  refine w_cVv (As := []) (rest := []) S hK hN hP hS hl (5 + 21 * po.toInt.toNat + 7) (by have := h4_21; omega) ((ceP7 h4_21) _) rfl (c_X1_push l D g hg x71 hI74 (po.toInt.toNat) h4_21) (cwV 0 hts gX6_write_X1_push rfl rfl rfl (by decide +kernel) ⟨Nat.le_of_ble_eq_true rfl, Nat.le_of_ble_eq_true rfl⟩) rfl rfl (Nat.le_of_ble_eq_true rfl) dX6_write_122 ⟨Nat.zero_le _, Nat.zero_le _⟩ (fun x79 H locs hq81 hP hS => ?_)
                  obtain ⟨hI82, hT83, hf84⟩ := hq81
                  have hT85 : Same (TC) x x79 := hT77.tr hT83 (fun _ _ h => h)
                  refine w_iconst S dX6_write_125 (by decide) (fun k86 hk86 => ?_)
                  exact w_iret S hr0 hlk hP hS dX6_write_126 (⟨hI82, hT85, by omega, by omega⟩)
                · refine w_bipush S dX6_write_114 (by decide) (fun k87 hk87 => ?_)
                  exact w_iret S hr0 hlk hP hS dX6_write_116 (⟨hI74, hT77, by omega, by omega⟩)
              · refine lv_aload_n S.1 S.2.1 dX6_write_71 rfl (lv_at hl 1 rfl) ?_
                refine w_get (C := RX6) (T := TX6) (N := 2) S (fun _ h => List.mem_cons_of_mem _ (List.mem_append_left _ (List.mem_append_left _ (List.mem_append_left _ (List.mem_append_left _ (List.mem_append_right _ h)))))) hK hP 0 (by decide) (ceK0 _) rfl 0 (by decide) (hts _ (List.mem_of_getElem? (i := 2) rfl)) (v := .ref (g.1 2)) rfl dX6_write_72 ?_
                refine lv_aload_n S.1 S.2.1 dX6_write_75 rfl (lv_at hl 1 rfl) ?_
                refine w_get (C := RX6) (T := TX6) (N := 2) S (fun _ h => List.mem_cons_of_mem _ (List.mem_append_left _ (List.mem_append_left _ (List.mem_append_left _ (List.mem_append_left _ (List.mem_append_right _ h)))))) hK hP 0 (by decide) (ceK0 _) rfl 0 (by decide) (hts _ (List.mem_of_getElem? (i := 2) rfl)) (v := .ref (g.1 2)) rfl dX6_write_76 ?_
                refine w_getN (C := RX0) (T := TX0) (N := 2) S (fun _ h => List.mem_cons_of_mem _ (List.mem_append_left _ (List.mem_append_left _ (List.mem_append_right _ h)))) hK hP 2 (by decide) (ceK2 _) rfl 0 (by decide) (hN.1 _ (List.mem_of_getElem? (i := 1) rfl)) (v := .ref (g.1 3)) rfl dX6_write_79 ?_
                refine lv_iload_n S.1 S.2.1 dX6_write_82 rfl (lv_at hl 2 rfl) ?_
                refine w_iald S hK hP 3 (by decide) ceK3 (by omega) (by omega) dX6_write_83 (fun v88 ev88 => ?_)
                have wv88 : v88.toInt = (x 3 a.toInt.toNat).toInt := by rw [ev88]
                refine w_bipush S dX6_write_84 (by decide) (fun k89 hk89 => ?_)
                refine w_cVv (As := [.int v88, .int k89]) (rest := []) S hK hN hP hS hl 2 (by decide) (ceK2 _) rfl (c_X0_raise l D g hg x hI v88 k89) (cwV 2 hts gX6_write_X0_raise rfl rfl rfl (by decide +kernel) ⟨Nat.le_of_ble_eq_true rfl, Nat.le_of_ble_eq_true rfl⟩) rfl rfl (Nat.le_of_ble_eq_true rfl) dX6_write_86 ⟨Nat.zero_le _, Nat.zero_le _⟩ (fun x90 H locs hq92 hP hS => ?_)
                obtain ⟨hI93, hT94, hf95⟩ := hq92
                have hT96 : Same (TC) x x90 := hT.tr hT94 (fun _ _ h => h)
                refine w_bipush S dX6_write_89 (by decide) (fun k97 hk97 => ?_)
                exact w_iret S hr0 hlk hP hS dX6_write_91 (⟨hI93, hT96, by omega, by omega⟩)
          · refine w_bipush S dX6_write_49 (by decide) (fun k98 hk98 => ?_)
            exact w_iret S hr0 hlk hP hS dX6_write_51 (⟨hI, hT, by omega, by omega⟩)
      · refine w_iconst S dX6_write_21 (by decide) (fun k99 hk99 => ?_)
        exact w_iret S hr0 hlk hP hS dX6_write_22 (⟨hI, hT, by omega, by omega⟩)
set_option maxRecDepth 100000 in
set_option maxHeartbeats 4000000 in
theorem c_X6_read (l : Launch) (D : va_G) (g : GA) (hg : Inj g) (x : St) (hI : Inv x)  (a : Int32) (po : Int32) : Met l yX6_read wsX6_read ({ frames := 6, cells := 0, slots := 0, locals := 134 } : Room) (va_Pc [.ref (g.1 0), .int a, .int po] (WI D g x)) (va_Qi (fun r x2 => Inv x2 ∧ Same (TCr po.toInt.toNat) x x2 ∧ ((0 ≤ a.toInt ∧ a.toInt ≤ 7 ∧ 0 ≤ po.toInt ∧ po.toInt ≤ 3) → (x2 (5 + 21 * po.toInt.toNat + 2) 2).toInt = 0 ∧ ((x (5 + 21 * po.toInt.toNat + 19) a.toInt.toNat).toInt = 0 → r.toInt = -4)) ∧ (¬ (0 ≤ a.toInt ∧ a.toInt ≤ 7 ∧ 0 ≤ po.toInt ∧ po.toInt ≤ 3) → r.toInt = -1 ∧ x2 = x)) (WO D g) (AQ g)) 0 0 (AQ g) := by
  refine w_met (cc := cX6_read) (maxL := 4) (ret := (some .int)) (own := RX6) (by decide) rfl rfl (Nat.le_of_ble_eq_true rfl) (fun p e s m below meth co S hr0 hlk hK hN hP hS ls hl => ?_)
  have hts := S.2.2.2.2
  have hl : lv_has ls 4 [(0, .ref (g.1 0)), (1, .int a), (2, .int po)] := hl
  have hT : Same (TCr po.toInt.toNat) x x := Same.rf
  refine lv_iload_n S.1 S.2.1 dX6_read_0 rfl (lv_at hl 1 rfl) ?_
  refine w_cSi (As := [.int a]) (rest := []) S hK hN hP hS hl (c_X6_isProcess l D g hg x hI a) (va_cwS 1 hts gX6_read_X6_isProcess rfl rfl rfl (by decide +kernel) ⟨Nat.le_of_ble_eq_true rfl, Nat.le_of_ble_eq_true rfl⟩) rfl rfl (Nat.le_of_ble_eq_true rfl) dX6_read_1 ⟨Nat.zero_le _, Nat.zero_le _⟩ (fun r2 x1 H locs hq3 hP hS => ?_)
  obtain ⟨ex4, hf5⟩ := hq3
  rw [ex4] at hP
  refine w_if_eq (tgt := 14) S dX6_read_4 (by decide) (fun hb6 => ?_) (fun hb6 => ?_)
  · refine w_iconst S dX6_read_14 (by decide) (fun k7 hk7 => ?_)
    exact w_iret S hr0 hlk hP hS dX6_read_15 (⟨hI, hT, fun hv => absurd hv (by omega), fun _ => ⟨by omega, rfl⟩⟩)
  · refine lv_iload_n S.1 S.2.1 dX6_read_7 rfl (lv_at hl 2 rfl) ?_
    refine w_cSi (As := [.int po]) (rest := []) S hK hN hP hS hl (c_X6_isPort l D g hg x hI po) (va_cwS 1 hts gX6_read_X6_isPort rfl rfl rfl (by decide +kernel) ⟨Nat.le_of_ble_eq_true rfl, Nat.le_of_ble_eq_true rfl⟩) rfl rfl (Nat.le_of_ble_eq_true rfl) dX6_read_8 ⟨Nat.zero_le _, Nat.zero_le _⟩ (fun r9 x8 H locs hq10 hP hS => ?_)
    obtain ⟨ex11, hf12⟩ := hq10
    rw [ex11] at hP
    refine w_if_ne (tgt := 16) S dX6_read_11 (by decide) (fun hb13 => ?_) (fun hb13 => ?_)
    · refine lv_aload_n S.1 S.2.1 dX6_read_16 rfl (lv_at hl 0 rfl) ?_
      refine w_get (C := RX6) (T := TX6) (N := 2) S (fun _ h => List.mem_cons_of_mem _ (List.mem_append_left _ (List.mem_append_left _ (List.mem_append_left _ (List.mem_append_left _ (List.mem_append_left _ (List.mem_append_left _ (List.mem_append_right _ h)))))))) hK hP 0 (by decide) (ceK0 _) rfl 1 (by decide) (hts _ (List.mem_of_getElem? (i := 1) rfl)) (v := .ref (g.1 1)) rfl dX6_read_17 ?_
      refine lv_iload_n S.1 S.2.1 dX6_read_20 rfl (lv_at hl 2 rfl) ?_
      have h4_14 : po.toInt.toNat < 4 := by omega
      refine w_aald S hK hP (by omega) (by omega) dX6_read_21 ?_
      refine lv_astore_n (lv' := [(3, .ref (g.1 (5 + 21 * po.toInt.toNat))), (0, .ref (g.1 0)), (1, .int a), (2, .int po)]) S.1 S.2.1 dX6_read_22 rfl hl (by decide) rfl (fun ls hl => ?_)
      refine lv_aload_n S.1 S.2.1 dX6_read_23 rfl (lv_at hl 0 rfl) ?_
      refine w_cVv (As := []) (rest := []) S hK hN hP hS hl (5 + 21 * po.toInt.toNat) (by have := h4_14; omega) ((ceP0 h4_14) _) rfl (c_X2_pass l D g hg x hI (po.toInt.toNat) h4_14) (cwV 0 hts gX6_read_X2_pass rfl rfl rfl (by decide +kernel) ⟨Nat.le_of_ble_eq_true rfl, Nat.le_of_ble_eq_true rfl⟩) rfl rfl (Nat.le_of_ble_eq_true rfl) dX6_read_24 ⟨Nat.zero_le _, Nat.zero_le _⟩ (fun x15 H locs hq17 hP hS => ?_)
      obtain ⟨hI18, hT19, hf20⟩ := hq17
      have hT21 : Same (TCr po.toInt.toNat) x x15 := hT.tr hT19 (fun _ _ h => h)
      have hu24 : (x15 (5 + 21 * po.toInt.toNat + 19) a.toInt.toNat).toInt = (x (5 + 21 * po.toInt.toNat + 19) a.toInt.toNat).toInt := by rw [hT19 _ _ ⟨by unfold TC TrC; omega, by omega⟩]
      have hs24 := hf20.1
      refine lv_aload_n S.1 S.2.1 dX6_read_27 rfl (lv_at hl 0 rfl) ?_
      refine w_getN (C := RX2) (T := TX2) (N := 15) S (fun _ h => List.mem_cons_of_mem _ (List.mem_append_left _ (List.mem_append_left _ (List.mem_append_left _ (List.mem_append_left _ (List.mem_append_left _ (List.mem_append_right _ h))))))) hK hP (5 + 21 * po.toInt.toNat) (by have := h4_14; omega) ((ceP0 h4_14) _) rfl 7 (by decide) (hN.1 _ (List.mem_of_getElem? (i := 25) rfl)) (v := .ref (g.1 (5 + 21 * po.toInt.toNat + 19))) rfl dX6_read_28 ?_
      refine lv_iload_n S.1 S.2.1 dX6_read_31 rfl (lv_at hl 2 rfl) ?_
      refine w_zald S hK hP (5 + 21 * po.toInt.toNat + 19) (by have := h4_14; omega) (ceP19 h4_14) (by omega) (by omega) dX6_read_32 (fun v22 ev22 => ?_)
      have wv22 : v22.toInt = (x15 (5 + 21 * po.toInt.toNat + 19) a.toInt.toNat).toInt := by rw [ev22]
      have rv22 : (0 : Int) ≤ v22.toInt ∧ v22.toInt ≤ (1 : Int) := by rw [ev22]; exact hI18.atP (j := 19) (k := _) h4_14 (by decide)
      refine w_if_ne (tgt := 39) S dX6_read_33 (by decide) (fun hb23 => ?_) (fun hb23 => ?_)
      · refine lv_aload_n S.1 S.2.1 dX6_read_39 rfl (lv_at hl 0 rfl) ?_
        refine lv_iload_n S.1 S.2.1 dX6_read_40 rfl (lv_at hl 2 rfl) ?_
        refine w_cVi (As := [.int a]) (rest := []) S hK hN hP hS hl (5 + 21 * po.toInt.toNat) (by have := h4_14; omega) ((ceP0 h4_14) _) rfl (c_X2_isBackground l D g hg x15 hI18 (po.toInt.toNat) h4_14 a (by omega)) (cwV 1 hts gX6_read_X2_isBackground rfl rfl rfl (by decide +kernel) ⟨Nat.le_of_ble_eq_true rfl, Nat.le_of_ble_eq_true rfl⟩) rfl rfl (Nat.le_of_ble_eq_true rfl) dX6_read_41 ⟨Nat.zero_le _, Nat.zero_le _⟩ (fun r25 x24 H locs hq26 hP hS => ?_)
        obtain ⟨ex27, hf28⟩ := hq26
        rw [ex27] at hP
        refine w_if_eq (tgt := 68) S dX6_read_44 (by decide) (fun hb29 => ?_) (fun hb29 => ?_)
        · refine lv_aload_n S.1 S.2.1 dX6_read_68 rfl (lv_at hl 0 rfl) ?_
          refine w_getN (C := RX2) (T := TX2) (N := 15) S (fun _ h => List.mem_cons_of_mem _ (List.mem_append_left _ (List.mem_append_left _ (List.mem_append_left _ (List.mem_append_left _ (List.mem_append_left _ (List.mem_append_right _ h))))))) hK hP (5 + 21 * po.toInt.toNat) (by have := h4_14; omega) ((ceP0 h4_14) _) rfl 3 (by decide) (hN.1 _ (List.mem_of_getElem? (i := 22) rfl)) (v := .ref (g.1 (5 + 21 * po.toInt.toNat + 4))) rfl dX6_read_69 ?_
          refine w_getN (C := RX4) (T := TX4) (N := 3) S (fun _ h => List.mem_cons_of_mem _ (List.mem_append_left _ (List.mem_append_left _ (List.mem_append_left _ (List.mem_append_right _ h))))) hK hP (5 + 21 * po.toInt.toNat + 4) (by have := h4_14; omega) ((ceP4 h4_14) _) rfl 1 (by decide) (hN.1 _ (List.mem_of_getElem? (i := 9) rfl)) (v := .int (x15 (5 + 21 * po.toInt.toNat + 4) 1)) rfl dX6_read_72 ?_
          refine lv_topi (fun v30 ev30 => ?_)
          have wv30 : v30.toInt = (x15 (5 + 21 * po.toInt.toNat + 4) 1).toInt := by rw [ev30]
          refine w_if_le (tgt := 83) S dX6_read_75 (by decide) (fun hb31 => ?_) (fun hb31 => ?_)
          · refine lv_aload_n S.1 S.2.1 dX6_read_83 rfl (lv_at hl 0 rfl) ?_
            refine w_getN (C := RX2) (T := TX2) (N := 15) S (fun _ h => List.mem_cons_of_mem _ (List.mem_append_left _ (List.mem_append_left _ (List.mem_append_left _ (List.mem_append_left _ (List.mem_append_left _ (List.mem_append_right _ h))))))) hK hP (5 + 21 * po.toInt.toNat) (by have := h4_14; omega) ((ceP0 h4_14) _) rfl 11 (by decide) (hN.1 _ (List.mem_of_getElem? (i := 28) rfl)) (v := .int (x15 (5 + 21 * po.toInt.toNat) 11)) rfl dX6_read_84 ?_
            refine lv_topi (fun v32 ev32 => ?_)
            have wv32 : v32.toInt = (x15 (5 + 21 * po.toInt.toNat) 11).toInt := by rw [ev32]
            have rv32 : (0 : Int) ≤ v32.toInt ∧ v32.toInt ≤ (1 : Int) := by rw [ev32]; exact hI18.atP0 (k := 11) h4_14
            refine w_if_eq (tgt := 95) S dX6_read_87 (by decide) (fun hb33 => ?_) (fun hb33 => ?_)
            · refine w_bipush S dX6_read_95 (by decide) (fun k34 hk34 => ?_)
              exact w_iret S hr0 hlk hP hS dX6_read_97 (⟨hI18, hT21, fun _ => ⟨by omega, by omega⟩, fun hv => absurd hv (by omega)⟩)
            · refine w_bipush S dX6_read_90 (by decide) (fun k35 hk35 => ?_)
              refine lv_goto (tgt := 97) S.1 S.2.1 dX6_read_92 (by decide) ?_
              exact w_iret S hr0 hlk hP hS dX6_read_97 (⟨hI18, hT21, fun _ => ⟨by omega, by omega⟩, fun hv => absurd hv (by omega)⟩)
          · refine lv_aload_n S.1 S.2.1 dX6_read_78 rfl (lv_at hl 0 rfl) ?_
            refine w_cVi (As := []) (rest := []) S hK hN hP hS hl (5 + 21 * po.toInt.toNat) (by have := h4_14; omega) ((ceP0 h4_14) _) rfl (c_X2_takeEntry l D g hg x15 hI18 (po.toInt.toNat) h4_14) (cwV 0 hts gX6_read_X2_takeEntry rfl rfl rfl (by decide +kernel) ⟨Nat.le_of_ble_eq_true rfl, Nat.le_of_ble_eq_true rfl⟩) rfl rfl (Nat.le_of_ble_eq_true rfl) dX6_read_79 ⟨Nat.zero_le _, Nat.zero_le _⟩ (fun r37 x36 H locs hq38 hP hS => ?_)
            obtain ⟨hI39, hT40, hf41⟩ := hq38
            have hT42 : Same (TCr po.toInt.toNat) x x36 := hT21.tr hT40 (fun _ _ h => h.1)
            have u43 : (x36 (5 + 21 * po.toInt.toNat + 2) 2).toInt = (x15 (5 + 21 * po.toInt.toNat + 2) 2).toInt := by rw [hT40 (5 + 21 * po.toInt.toNat + 2) 2 (by unfold TC TrC; omega)]
            exact w_iret S hr0 hlk hP hS dX6_read_82 (⟨hI39, hT42, fun _ => ⟨by omega, by omega⟩, fun hv => absurd hv (by omega)⟩)
        · refine lv_aload_n S.1 S.2.1 dX6_read_47 rfl (lv_at hl 1 rfl) ?_
          refine w_get (C := RX6) (T := TX6) (N := 2) S (fun _ h => List.mem_cons_of_mem _ (List.mem_append_left _ (List.mem_append_left _ (List.mem_append_left _ (List.mem_append_left _ (List.mem_append_left _ (List.mem_append_left _ (List.mem_append_right _ h)))))))) hK hP 0 (by decide) (ceK0 _) rfl 0 (by decide) (hts _ (List.mem_of_getElem? (i := 2) rfl)) (v := .ref (g.1 2)) rfl dX6_read_48 ?_
          refine lv_aload_n S.1 S.2.1 dX6_read_51 rfl (lv_at hl 1 rfl) ?_
          refine w_get (C := RX6) (T := TX6) (N := 2) S (fun _ h => List.mem_cons_of_mem _ (List.mem_append_left _ (List.mem_append_left _ (List.mem_append_left _ (List.mem_append_left _ (List.mem_append_left _ (List.mem_append_left _ (List.mem_append_right _ h)))))))) hK hP 0 (by decide) (ceK0 _) rfl 0 (by decide) (hts _ (List.mem_of_getElem? (i := 2) rfl)) (v := .ref (g.1 2)) rfl dX6_read_52 ?_
          refine w_getN (C := RX0) (T := TX0) (N := 2) S (fun _ h => List.mem_cons_of_mem _ (List.mem_append_left _ (List.mem_append_left _ (List.mem_append_left _ (List.mem_append_left _ (List.mem_append_right _ h)))))) hK hP 2 (by decide) (ceK2 _) rfl 0 (by decide) (hN.1 _ (List.mem_of_getElem? (i := 1) rfl)) (v := .ref (g.1 3)) rfl dX6_read_55 ?_
          refine lv_iload_n S.1 S.2.1 dX6_read_58 rfl (lv_at hl 2 rfl) ?_
          refine w_iald S hK hP 3 (by decide) ceK3 (by omega) (by omega) dX6_read_59 (fun v44 ev44 => ?_)
          have wv44 : v44.toInt = (x15 3 a.toInt.toNat).toInt := by rw [ev44]
          refine w_bipush S dX6_read_60 (by decide) (fun k45 hk45 => ?_)
          refine w_cVv (As := [.int v44, .int k45]) (rest := []) S hK hN hP hS hl 2 (by decide) (ceK2 _) rfl (c_X0_raise l D g hg x15 hI18 v44 k45) (cwV 2 hts gX6_read_X0_raise rfl rfl rfl (by decide +kernel) ⟨Nat.le_of_ble_eq_true rfl, Nat.le_of_ble_eq_true rfl⟩) rfl rfl (Nat.le_of_ble_eq_true rfl) dX6_read_62 ⟨Nat.zero_le _, Nat.zero_le _⟩ (fun x46 H locs hq48 hP hS => ?_)
          obtain ⟨hI49, hT50, hf51⟩ := hq48
          have hT52 : Same (TCr po.toInt.toNat) x x46 := hT21.tr hT50 (fun _ _ h => h.1)
          have u53 : (x46 (5 + 21 * po.toInt.toNat + 2) 2).toInt = (x15 (5 + 21 * po.toInt.toNat + 2) 2).toInt := by rw [hT50 (5 + 21 * po.toInt.toNat + 2) 2 (by unfold TC TrC; omega)]
          refine w_bipush S dX6_read_65 (by decide) (fun k54 hk54 => ?_)
          exact w_iret S hr0 hlk hP hS dX6_read_67 (⟨hI49, hT52, fun _ => ⟨by omega, by omega⟩, fun hv => absurd hv (by omega)⟩)
      · refine w_bipush S dX6_read_36 (by decide) (fun k55 hk55 => ?_)
        exact w_iret S hr0 hlk hP hS dX6_read_38 (⟨hI18, hT21, fun _ => ⟨by omega, by omega⟩, fun hv => absurd hv (by omega)⟩)
    · refine w_iconst S dX6_read_14 (by decide) (fun k56 hk56 => ?_)
      exact w_iret S hr0 hlk hP hS dX6_read_15 (⟨hI, hT, fun hv => absurd hv (by omega), fun _ => ⟨by omega, rfl⟩⟩)
set_option maxRecDepth 100000 in
set_option maxHeartbeats 4000000 in
theorem c_X6_mode (l : Launch) (D : va_G) (g : GA) (hg : Inj g) (x : St) (hI : Inv x)  (po : Int32) (wh : Int32) (vl : Int32) (wn : Int32) : Met l yX6_mode wsX6_mode ({ frames := 5, cells := 0, slots := 0, locals := 111 } : Room) (va_Pc [.ref (g.1 0), .int po, .int wh, .int vl, .int wn] (WI D g x)) (va_Qi (fun r x2 => Inv x2 ∧ Same (TC) x x2 ∧ ((0 ≤ po.toInt ∧ po.toInt ≤ 3 ∧ 0 ≤ wh.toInt ∧ wh.toInt ≤ 24 ∧ 0 ≤ vl.toInt ∧ (wh.toInt < 12 → vl.toInt ≤ 1) ∧ (wh.toInt = 12 → vl.toInt ≤ 32) ∧ (wh.toInt = 13 → vl.toInt ≤ 20) ∧ (13 < wh.toInt → vl.toInt ≤ 256) ∧ 0 ≤ wn.toInt ∧ wn.toInt ≤ 2) → (x (5 + 21 * po.toInt.toNat + 12) 4).toInt < 3 → r.toInt = 1) ∧ (¬ (0 ≤ po.toInt ∧ po.toInt ≤ 3 ∧ 0 ≤ wh.toInt ∧ wh.toInt ≤ 24 ∧ 0 ≤ vl.toInt ∧ (wh.toInt < 12 → vl.toInt ≤ 1) ∧ (wh.toInt = 12 → vl.toInt ≤ 32) ∧ (wh.toInt = 13 → vl.toInt ≤ 20) ∧ (13 < wh.toInt → vl.toInt ≤ 256) ∧ 0 ≤ wn.toInt ∧ wn.toInt ≤ 2) → r.toInt = 0)) (WO D g) (AQ g)) 0 0 (AQ g) := by
  refine w_met (cc := cX6_mode) (maxL := 5) (ret := (some .boolean)) (own := RX6) (by decide) rfl rfl (Nat.le_of_ble_eq_true rfl) (fun p e s m below meth co S hr0 hlk hK hN hP hS ls hl => ?_)
  have hts := S.2.2.2.2
  have hl : lv_has ls 5 [(0, .ref (g.1 0)), (1, .int po), (2, .int wh), (3, .int vl), (4, .int wn)] := hl
  have hT : Same (TC) x x := Same.rf
  refine lv_iload_n S.1 S.2.1 dX6_mode_0 rfl (lv_at hl 1 rfl) ?_
  refine w_cSi (As := [.int po]) (rest := []) S hK hN hP hS hl (c_X6_isPort l D g hg x hI po) (va_cwS 1 hts gX6_mode_X6_isPort rfl rfl rfl (by decide +kernel) ⟨Nat.le_of_ble_eq_true rfl, Nat.le_of_ble_eq_true rfl⟩) rfl rfl (Nat.le_of_ble_eq_true rfl) dX6_mode_1 ⟨Nat.zero_le _, Nat.zero_le _⟩ (fun r2 x1 H locs hq3 hP hS => ?_)
  obtain ⟨ex4, hf5⟩ := hq3
  rw [ex4] at hP
  refine w_if_eq (tgt := 37) S dX6_mode_4 (by decide) (fun hb6 => ?_) (fun hb6 => ?_)
  · refine w_iconst S dX6_mode_37 (by decide) (fun k7 hk7 => ?_)
    exact w_zret S hr0 hlk hP hS dX6_mode_38 (z01 (by omega) (by omega)) (⟨hI, hT, by omega, by omega⟩)
  · refine lv_iload_n S.1 S.2.1 dX6_mode_7 rfl (lv_at hl 2 rfl) ?_
    refine w_cSi (As := [.int wh]) (rest := []) S hK hN hP hS hl (c_X6_isMode l D g hg x hI wh) (va_cwS 1 hts gX6_mode_X6_isMode rfl rfl rfl (by decide +kernel) ⟨Nat.le_of_ble_eq_true rfl, Nat.le_of_ble_eq_true rfl⟩) rfl rfl (Nat.le_of_ble_eq_true rfl) dX6_mode_8 ⟨Nat.zero_le _, Nat.zero_le _⟩ (fun r9 x8 H locs hq10 hP hS => ?_)
    obtain ⟨ex11, hf12⟩ := hq10
    rw [ex11] at hP
    refine w_if_eq (tgt := 37) S dX6_mode_11 (by decide) (fun hb13 => ?_) (fun hb13 => ?_)
    · refine w_iconst S dX6_mode_37 (by decide) (fun k14 hk14 => ?_)
      exact w_zret S hr0 hlk hP hS dX6_mode_38 (z01 (by omega) (by omega)) (⟨hI, hT, by omega, by omega⟩)
    · refine lv_iload_n S.1 S.2.1 dX6_mode_14 rfl (lv_at hl 3 rfl) ?_
      refine w_if_lt (tgt := 37) S dX6_mode_15 (by decide) (fun hb15 => ?_) (fun hb15 => ?_)
      · refine w_iconst S dX6_mode_37 (by decide) (fun k16 hk16 => ?_)
        exact w_zret S hr0 hlk hP hS dX6_mode_38 (z01 (by omega) (by omega)) (⟨hI, hT, by omega, by omega⟩)
      · refine lv_iload_n S.1 S.2.1 dX6_mode_18 rfl (lv_at hl 3 rfl) ?_
        refine lv_iload_n S.1 S.2.1 dX6_mode_19 rfl (lv_at hl 2 rfl) ?_
        refine w_cSi (As := [.int wh]) (rest := [.int vl]) S hK hN hP hS hl (c_X6_mostOf l D g hg x hI wh) (va_cwS 1 hts gX6_mode_X6_mostOf rfl rfl rfl (by decide +kernel) ⟨Nat.le_of_ble_eq_true rfl, Nat.le_of_ble_eq_true rfl⟩) rfl rfl (Nat.le_of_ble_eq_true rfl) dX6_mode_20 ⟨Nat.zero_le _, Nat.zero_le _⟩ (fun r18 x17 H locs hq19 hP hS => ?_)
        obtain ⟨ex20, hf21⟩ := hq19
        rw [ex20] at hP
        refine w_icmp_gt (tgt := 37) S dX6_mode_23 (by decide) (fun hb22 => ?_) (fun hb22 => ?_)
        · refine w_iconst S dX6_mode_37 (by decide) (fun k23 hk23 => ?_)
          exact w_zret S hr0 hlk hP hS dX6_mode_38 (z01 (by omega) (by omega)) (⟨hI, hT, by omega, by omega⟩)
        · refine lv_iload S.1 S.2.1 dX6_mode_26 (lv_at hl 4 rfl) ?_
          refine w_if_lt (tgt := 37) S dX6_mode_28 (by decide) (fun hb24 => ?_) (fun hb24 => ?_)
          · refine w_iconst S dX6_mode_37 (by decide) (fun k25 hk25 => ?_)
            exact w_zret S hr0 hlk hP hS dX6_mode_38 (z01 (by omega) (by omega)) (⟨hI, hT, by omega, by omega⟩)
          · refine lv_iload S.1 S.2.1 dX6_mode_31 (lv_at hl 4 rfl) ?_
            refine w_iconst S dX6_mode_33 (by decide) (fun k26 hk26 => ?_)
            refine w_icmp_le (tgt := 39) S dX6_mode_34 (by decide) (fun hb27 => ?_) (fun hb27 => ?_)
            · refine lv_iload S.1 S.2.1 dX6_mode_39 (lv_at hl 4 rfl) ?_
              refine w_if_ne (tgt := 57) S dX6_mode_41 (by decide) (fun hb28 => ?_) (fun hb28 => ?_)
              · refine lv_aload_n S.1 S.2.1 dX6_mode_57 rfl (lv_at hl 0 rfl) ?_
                refine w_get (C := RX6) (T := TX6) (N := 2) S (fun _ h => List.mem_cons_of_mem _ (List.mem_append_left _ (List.mem_append_left _ (List.mem_append_left _ (List.mem_append_left _ (List.mem_append_left _ (List.mem_append_right _ h))))))) hK hP 0 (by decide) (ceK0 _) rfl 1 (by decide) (hts _ (List.mem_of_getElem? (i := 1) rfl)) (v := .ref (g.1 1)) rfl dX6_mode_58 ?_
                refine lv_iload_n S.1 S.2.1 dX6_mode_61 rfl (lv_at hl 1 rfl) ?_
                have h4_29 : po.toInt.toNat < 4 := by omega
                refine w_aald S hK hP (by omega) (by omega) dX6_mode_62 ?_
                refine lv_iload_n S.1 S.2.1 dX6_mode_63 rfl (lv_at hl 2 rfl) ?_
                refine lv_iload_n S.1 S.2.1 dX6_mode_64 rfl (lv_at hl 3 rfl) ?_
                refine lv_iload S.1 S.2.1 dX6_mode_65 (lv_at hl 4 rfl) ?_
                refine w_iconst S dX6_mode_67 (by decide) (fun k30 hk30 => ?_)
                refine w_icmp_ne (tgt := 75) S dX6_mode_68 (by decide) (fun hb31 => ?_) (fun hb31 => ?_)
                · refine w_iconst S dX6_mode_75 (by decide) (fun k32 hk32 => ?_)
                  refine w_cVi (As := [.int wh, .int vl, .int k32]) (rest := []) S hK hN hP hS hl (5 + 21 * po.toInt.toNat) (by have := h4_29; omega) ((ceP0 h4_29) _) rfl (c_X2_changeLater l D g hg x hI (po.toInt.toNat) h4_29 wh vl k32 (by omega) (by omega)) (cwV 3 hts gX6_mode_X2_changeLater rfl rfl rfl (by decide +kernel) ⟨Nat.le_of_ble_eq_true rfl, Nat.le_of_ble_eq_true rfl⟩) rfl rfl (Nat.le_of_ble_eq_true rfl) dX6_mode_76 ⟨Nat.zero_le _, Nat.zero_le _⟩ (fun r34 x33 H locs hq35 hP hS => ?_)
                  obtain ⟨hI36, hT37, hf38⟩ := hq35
                  have hT39 : Same (TC) x x33 := hT.tr hT37 (fun _ _ h => h)
                  exact w_zret S hr0 hlk hP hS dX6_mode_79 (z01 (by omega) (by omega)) (⟨hI36, hT39, by omega, by omega⟩)
                · refine w_iconst S dX6_mode_71 (by decide) (fun k40 hk40 => ?_)
                  refine lv_goto (tgt := 76) S.1 S.2.1 dX6_mode_72 (by decide) ?_
                  refine w_cVi (As := [.int wh, .int vl, .int k40]) (rest := []) S hK hN hP hS hl (5 + 21 * po.toInt.toNat) (by have := h4_29; omega) ((ceP0 h4_29) _) rfl (c_X2_changeLater l D g hg x hI (po.toInt.toNat) h4_29 wh vl k40 (by omega) (by omega)) (cwV 3 hts gX6_mode_X2_changeLater rfl rfl rfl (by decide +kernel) ⟨Nat.le_of_ble_eq_true rfl, Nat.le_of_ble_eq_true rfl⟩) rfl rfl (Nat.le_of_ble_eq_true rfl) dX6_mode_76 ⟨Nat.zero_le _, Nat.zero_le _⟩ (fun r42 x41 H locs hq43 hP hS => ?_)
                  obtain ⟨hI44, hT45, hf46⟩ := hq43
                  have hT47 : Same (TC) x x41 := hT.tr hT45 (fun _ _ h => h)
                  exact w_zret S hr0 hlk hP hS dX6_mode_79 (z01 (by omega) (by omega)) (⟨hI44, hT47, by omega, by omega⟩)
              · refine lv_aload_n S.1 S.2.1 dX6_mode_44 rfl (lv_at hl 0 rfl) ?_
                refine w_get (C := RX6) (T := TX6) (N := 2) S (fun _ h => List.mem_cons_of_mem _ (List.mem_append_left _ (List.mem_append_left _ (List.mem_append_left _ (List.mem_append_left _ (List.mem_append_left _ (List.mem_append_right _ h))))))) hK hP 0 (by decide) (ceK0 _) rfl 1 (by decide) (hts _ (List.mem_of_getElem? (i := 1) rfl)) (v := .ref (g.1 1)) rfl dX6_mode_45 ?_
                refine lv_iload_n S.1 S.2.1 dX6_mode_48 rfl (lv_at hl 1 rfl) ?_
                have h4_48 : po.toInt.toNat < 4 := by omega
                refine w_aald S hK hP (by omega) (by omega) dX6_mode_49 ?_
                refine lv_iload_n S.1 S.2.1 dX6_mode_50 rfl (lv_at hl 2 rfl) ?_
                refine lv_iload_n S.1 S.2.1 dX6_mode_51 rfl (lv_at hl 3 rfl) ?_
                refine w_cVv (As := [.int wh, .int vl]) (rest := []) S hK hN hP hS hl (5 + 21 * po.toInt.toNat) (by have := h4_48; omega) ((ceP0 h4_48) _) rfl (c_X2_setMode l D g hg x hI (po.toInt.toNat) h4_48 wh vl (by omega)) (cwV 2 hts gX6_mode_X2_setMode rfl rfl rfl (by decide +kernel) ⟨Nat.le_of_ble_eq_true rfl, Nat.le_of_ble_eq_true rfl⟩) rfl rfl (Nat.le_of_ble_eq_true rfl) dX6_mode_52 ⟨Nat.zero_le _, Nat.zero_le _⟩ (fun x49 H locs hq51 hP hS => ?_)
                obtain ⟨hI52, hT53, hf54⟩ := hq51
                have hT55 : Same (TC) x x49 := hT.tr hT53 (fun _ _ h => h)
                refine w_iconst S dX6_mode_55 (by decide) (fun k56 hk56 => ?_)
                exact w_zret S hr0 hlk hP hS dX6_mode_56 (z01 (by omega) (by omega)) (⟨hI52, hT55, by omega, by omega⟩)
            · refine w_iconst S dX6_mode_37 (by decide) (fun k57 hk57 => ?_)
              exact w_zret S hr0 hlk hP hS dX6_mode_38 (z01 (by omega) (by omega)) (⟨hI, hT, by omega, by omega⟩)
set_option maxRecDepth 100000 in
set_option maxHeartbeats 4000000 in
theorem c_X6_modeOf (l : Launch) (D : va_G) (g : GA) (hg : Inj g) (x : St) (hI : Inv x)  (po : Int32) (wh : Int32) : Met l yX6_modeOf wsX6_modeOf ({ frames := 1, cells := 0, slots := 0, locals := 20 } : Room) (va_Pc [.ref (g.1 0), .int po, .int wh] (WI D g x)) (va_Qi (fun r x2 => x2 = x ∧ ((0 ≤ po.toInt ∧ po.toInt ≤ 3 ∧ 0 ≤ wh.toInt ∧ wh.toInt ≤ 24) → r.toInt = (x (5 + 21 * po.toInt.toNat + 1) wh.toInt.toNat).toInt) ∧ (¬ (0 ≤ po.toInt ∧ po.toInt ≤ 3 ∧ 0 ≤ wh.toInt ∧ wh.toInt ≤ 24) → r.toInt = -1)) (WO D g) (AQ g)) 0 0 (AQ g) := by
  refine w_met (cc := cX6_modeOf) (maxL := 3) (ret := (some .int)) (own := RX6) (by decide) rfl rfl (Nat.le_of_ble_eq_true rfl) (fun p e s m below meth co S hr0 hlk hK hN hP hS ls hl => ?_)
  have hts := S.2.2.2.2
  have hl : lv_has ls 3 [(0, .ref (g.1 0)), (1, .int po), (2, .int wh)] := hl
  refine lv_iload_n S.1 S.2.1 dX6_modeOf_0 rfl (lv_at hl 1 rfl) ?_
  refine w_cSi (As := [.int po]) (rest := []) S hK hN hP hS hl (c_X6_isPort l D g hg x hI po) (va_cwS 1 hts gX6_modeOf_X6_isPort rfl rfl rfl (by decide +kernel) ⟨Nat.le_of_ble_eq_true rfl, Nat.le_of_ble_eq_true rfl⟩) rfl rfl (Nat.le_of_ble_eq_true rfl) dX6_modeOf_1 ⟨Nat.zero_le _, Nat.zero_le _⟩ (fun r2 x1 H locs hq3 hP hS => ?_)
  obtain ⟨ex4, hf5⟩ := hq3
  rw [ex4] at hP
  refine w_if_eq (tgt := 28) S dX6_modeOf_4 (by decide) (fun hb6 => ?_) (fun hb6 => ?_)
  · refine w_iconst S dX6_modeOf_28 (by decide) (fun k7 hk7 => ?_)
    exact w_iret S hr0 hlk hP hS dX6_modeOf_29 (⟨rfl, by omega, by omega⟩)
  · refine lv_iload_n S.1 S.2.1 dX6_modeOf_7 rfl (lv_at hl 2 rfl) ?_
    refine w_cSi (As := [.int wh]) (rest := []) S hK hN hP hS hl (c_X6_isMode l D g hg x hI wh) (va_cwS 1 hts gX6_modeOf_X6_isMode rfl rfl rfl (by decide +kernel) ⟨Nat.le_of_ble_eq_true rfl, Nat.le_of_ble_eq_true rfl⟩) rfl rfl (Nat.le_of_ble_eq_true rfl) dX6_modeOf_8 ⟨Nat.zero_le _, Nat.zero_le _⟩ (fun r9 x8 H locs hq10 hP hS => ?_)
    obtain ⟨ex11, hf12⟩ := hq10
    rw [ex11] at hP
    refine w_if_eq (tgt := 28) S dX6_modeOf_11 (by decide) (fun hb13 => ?_) (fun hb13 => ?_)
    · refine w_iconst S dX6_modeOf_28 (by decide) (fun k14 hk14 => ?_)
      exact w_iret S hr0 hlk hP hS dX6_modeOf_29 (⟨rfl, by omega, by omega⟩)
    · refine lv_aload_n S.1 S.2.1 dX6_modeOf_14 rfl (lv_at hl 0 rfl) ?_
      refine w_get (C := RX6) (T := TX6) (N := 2) S (fun _ h => List.mem_cons_of_mem _ (List.mem_append_left _ (List.mem_append_right _ h))) hK hP 0 (by decide) (ceK0 _) rfl 1 (by decide) (hts _ (List.mem_of_getElem? (i := 1) rfl)) (v := .ref (g.1 1)) rfl dX6_modeOf_15 ?_
      refine lv_iload_n S.1 S.2.1 dX6_modeOf_18 rfl (lv_at hl 1 rfl) ?_
      have h4_15 : po.toInt.toNat < 4 := by omega
      refine w_aald S hK hP (by omega) (by omega) dX6_modeOf_19 ?_
      refine w_getN (C := RX2) (T := TX2) (N := 15) S (fun _ h => List.mem_cons_of_mem _ (List.mem_append_right _ h)) hK hP (5 + 21 * po.toInt.toNat) (by have := h4_15; omega) ((ceP0 h4_15) _) rfl 1 (by decide) (hN.1 _ (List.mem_of_getElem? (i := 21) rfl)) (v := .ref (g.1 (5 + 21 * po.toInt.toNat + 1))) rfl dX6_modeOf_20 ?_
      refine lv_iload_n S.1 S.2.1 dX6_modeOf_23 rfl (lv_at hl 2 rfl) ?_
      refine w_iald S hK hP (5 + 21 * po.toInt.toNat + 1) (by have := h4_15; omega) (ceP1 h4_15) (by omega) (by omega) dX6_modeOf_24 (fun v16 ev16 => ?_)
      have wv16 : v16.toInt = (x (5 + 21 * po.toInt.toNat + 1) wh.toInt.toNat).toInt := by rw [ev16]
      refine lv_goto (tgt := 29) S.1 S.2.1 dX6_modeOf_25 (by decide) ?_
      exact w_iret S hr0 hlk hP hS dX6_modeOf_29 (⟨rfl, by omega, by omega⟩)
set_option maxRecDepth 100000 in
set_option maxHeartbeats 4000000 in
theorem c_X6_poll (l : Launch) (D : va_G) (g : GA) (hg : Inj g) (x : St) (hI : Inv x)  (a : Int32) (po : Int32) : Met l yX6_poll wsX6_poll ({ frames := 6, cells := 0, slots := 0, locals := 134 } : Room) (va_Pc [.ref (g.1 0), .int a, .int po] (WI D g x)) (va_Qi (fun r x2 => Inv x2 ∧ Same (TCr po.toInt.toNat) x x2 ∧ ((0 ≤ a.toInt ∧ a.toInt ≤ 7 ∧ 0 ≤ po.toInt ∧ po.toInt ≤ 3) → (x2 (5 + 21 * po.toInt.toNat + 2) 2).toInt = 0 ∧ ((x (5 + 21 * po.toInt.toNat + 2) 2).toInt = 0 → (x (5 + 21 * po.toInt.toNat + 19) a.toInt.toNat).toInt = 0 → (x (5 + 21 * po.toInt.toNat + 8) 2).toInt = 0 → (x (5 + 21 * po.toInt.toNat) 11).toInt = 0 → r.toInt = 3)) ∧ (¬ (0 ≤ a.toInt ∧ a.toInt ≤ 7 ∧ 0 ≤ po.toInt ∧ po.toInt ≤ 3) → r.toInt = -1 ∧ x2 = x)) (WO D g) (AQ g)) 0 0 (AQ g) := by
  refine w_met (cc := cX6_poll) (maxL := 5) (ret := (some .int)) (own := RX6) (by decide) rfl rfl (Nat.le_of_ble_eq_true rfl) (fun p e s m below meth co S hr0 hlk hK hN hP hS ls hl => ?_)
  have hts := S.2.2.2.2
  have hl : lv_has ls 5 [(0, .ref (g.1 0)), (1, .int a), (2, .int po)] := hl
  have hT : Same (TCr po.toInt.toNat) x x := Same.rf
  refine lv_iload_n S.1 S.2.1 dX6_poll_0 rfl (lv_at hl 1 rfl) ?_
  refine w_cSi (As := [.int a]) (rest := []) S hK hN hP hS hl (c_X6_isProcess l D g hg x hI a) (va_cwS 1 hts gX6_poll_X6_isProcess rfl rfl rfl (by decide +kernel) ⟨Nat.le_of_ble_eq_true rfl, Nat.le_of_ble_eq_true rfl⟩) rfl rfl (Nat.le_of_ble_eq_true rfl) dX6_poll_1 ⟨Nat.zero_le _, Nat.zero_le _⟩ (fun r2 x1 H locs hq3 hP hS => ?_)
  obtain ⟨ex4, hf5⟩ := hq3
  rw [ex4] at hP
  refine w_if_eq (tgt := 14) S dX6_poll_4 (by decide) (fun hb6 => ?_) (fun hb6 => ?_)
  · refine w_iconst S dX6_poll_14 (by decide) (fun k7 hk7 => ?_)
    exact w_iret S hr0 hlk hP hS dX6_poll_15 (⟨hI, hT, fun hv => absurd hv (by omega), fun _ => ⟨by omega, rfl⟩⟩)
  · refine lv_iload_n S.1 S.2.1 dX6_poll_7 rfl (lv_at hl 2 rfl) ?_
    refine w_cSi (As := [.int po]) (rest := []) S hK hN hP hS hl (c_X6_isPort l D g hg x hI po) (va_cwS 1 hts gX6_poll_X6_isPort rfl rfl rfl (by decide +kernel) ⟨Nat.le_of_ble_eq_true rfl, Nat.le_of_ble_eq_true rfl⟩) rfl rfl (Nat.le_of_ble_eq_true rfl) dX6_poll_8 ⟨Nat.zero_le _, Nat.zero_le _⟩ (fun r9 x8 H locs hq10 hP hS => ?_)
    obtain ⟨ex11, hf12⟩ := hq10
    rw [ex11] at hP
    refine w_if_ne (tgt := 16) S dX6_poll_11 (by decide) (fun hb13 => ?_) (fun hb13 => ?_)
    · refine lv_aload_n S.1 S.2.1 dX6_poll_16 rfl (lv_at hl 0 rfl) ?_
      refine w_get (C := RX6) (T := TX6) (N := 2) S (fun _ h => List.mem_cons_of_mem _ (List.mem_append_left _ (List.mem_append_left _ (List.mem_append_left _ (List.mem_append_left _ (List.mem_append_left _ (List.mem_append_left _ (List.mem_append_right _ h)))))))) hK hP 0 (by decide) (ceK0 _) rfl 1 (by decide) (hts _ (List.mem_of_getElem? (i := 1) rfl)) (v := .ref (g.1 1)) rfl dX6_poll_17 ?_
      refine lv_iload_n S.1 S.2.1 dX6_poll_20 rfl (lv_at hl 2 rfl) ?_
      have h4_14 : po.toInt.toNat < 4 := by omega
      refine w_aald S hK hP (by omega) (by omega) dX6_poll_21 ?_
      refine lv_astore_n (lv' := [(3, .ref (g.1 (5 + 21 * po.toInt.toNat))), (0, .ref (g.1 0)), (1, .int a), (2, .int po)]) S.1 S.2.1 dX6_poll_22 rfl hl (by decide) rfl (fun ls hl => ?_)
      refine lv_aload_n S.1 S.2.1 dX6_poll_23 rfl (lv_at hl 0 rfl) ?_
      refine w_cVv (As := []) (rest := []) S hK hN hP hS hl (5 + 21 * po.toInt.toNat) (by have := h4_14; omega) ((ceP0 h4_14) _) rfl (c_X2_pass l D g hg x hI (po.toInt.toNat) h4_14) (cwV 0 hts gX6_poll_X2_pass rfl rfl rfl (by decide +kernel) ⟨Nat.le_of_ble_eq_true rfl, Nat.le_of_ble_eq_true rfl⟩) rfl rfl (Nat.le_of_ble_eq_true rfl) dX6_poll_24 ⟨Nat.zero_le _, Nat.zero_le _⟩ (fun x15 H locs hq17 hP hS => ?_)
      obtain ⟨hI18, hT19, hf20⟩ := hq17
      have hT21 : Same (TCr po.toInt.toNat) x x15 := hT.tr hT19 (fun _ _ h => h)
      have hs24 := hf20.1
      have hc1 : (x (5 + 21 * po.toInt.toNat + 2) 2).toInt = 0 → (x15 (5 + 21 * po.toInt.toNat + 8) 2).toInt = (x (5 + 21 * po.toInt.toNat + 8) 2).toInt := fun h => by rw [hf20.2 h]
      have hc2 : (x (5 + 21 * po.toInt.toNat + 2) 2).toInt = 0 → (x15 (5 + 21 * po.toInt.toNat) 11).toInt = (x (5 + 21 * po.toInt.toNat) 11).toInt := fun h => by rw [hf20.2 h]
      have hc3 : (x (5 + 21 * po.toInt.toNat + 2) 2).toInt = 0 → (x15 (5 + 21 * po.toInt.toNat + 19) a.toInt.toNat).toInt = (x (5 + 21 * po.toInt.toNat + 19) a.toInt.toNat).toInt := fun h => by rw [hf20.2 h]
      refine lv_aload_n S.1 S.2.1 dX6_poll_27 rfl (lv_at hl 0 rfl) ?_
      refine lv_iload_n S.1 S.2.1 dX6_poll_28 rfl (lv_at hl 2 rfl) ?_
      refine w_cVi (As := [.int a]) (rest := []) S hK hN hP hS hl (5 + 21 * po.toInt.toNat) (by have := h4_14; omega) ((ceP0 h4_14) _) rfl (c_X2_readingWaits l D g hg x15 hI18 (po.toInt.toNat) h4_14 a (by omega)) (cwV 1 hts gX6_poll_X2_readingWaits rfl rfl rfl (by decide +kernel) ⟨Nat.le_of_ble_eq_true rfl, Nat.le_of_ble_eq_true rfl⟩) rfl rfl (Nat.le_of_ble_eq_true rfl) dX6_poll_29 ⟨Nat.zero_le _, Nat.zero_le _⟩ (fun r23 x22 H locs hq24 hP hS => ?_)
      obtain ⟨ex25, hf26⟩ := hq24
      rw [ex25] at hP
      refine w_if_eq (tgt := 39) S dX6_poll_32 (by decide) (fun hb27 => ?_) (fun hb27 => ?_)
      · refine w_iconst S dX6_poll_39 (by decide) (fun k28 hk28 => ?_)
        refine lv_istore (lv' := [(4, .int k28), (3, .ref (g.1 (5 + 21 * po.toInt.toNat))), (0, .ref (g.1 0)), (1, .int a), (2, .int po)]) S.1 S.2.1 dX6_poll_40 hl (by decide) rfl (fun ls hl => ?_)
        refine lv_iload S.1 S.2.1 dX6_poll_42 (lv_at hl 0 rfl) ?_
        refine lv_aload_n S.1 S.2.1 dX6_poll_44 rfl (lv_at hl 1 rfl) ?_
        refine w_getN (C := RX2) (T := TX2) (N := 15) S (fun _ h => List.mem_cons_of_mem _ (List.mem_append_left _ (List.mem_append_left _ (List.mem_append_left _ (List.mem_append_left _ (List.mem_append_left _ (List.mem_append_right _ h))))))) hK hP (5 + 21 * po.toInt.toNat) (by have := h4_14; omega) ((ceP0 h4_14) _) rfl 4 (by decide) (hN.1 _ (List.mem_of_getElem? (i := 23) rfl)) (v := .ref (g.1 (5 + 21 * po.toInt.toNat + 7))) rfl dX6_poll_45 ?_
        refine w_getN (C := RX1) (T := TX1) (N := 5) S (fun _ h => List.mem_cons_of_mem _ (List.mem_append_left _ (List.mem_append_left _ (List.mem_append_left _ (List.mem_append_left _ (List.mem_append_right _ h)))))) hK hP (5 + 21 * po.toInt.toNat + 7) (by have := h4_14; omega) ((ceP7 h4_14) _) rfl 0 (by decide) (hN.1 _ (List.mem_of_getElem? (i := 12) rfl)) (v := .ref (g.1 (5 + 21 * po.toInt.toNat + 8))) rfl dX6_poll_48 ?_
        refine w_bipush S dX6_poll_51 (by decide) (fun k29 hk29 => ?_)
        refine w_cVi (As := [.int k29]) (rest := [.int k28]) S hK hN hP hS hl (5 + 21 * po.toInt.toNat + 8) (by have := h4_14; omega) ((ceP8 h4_14) _) rfl (c_X3_fits l D g hg x15 hI18 (5 + 21 * po.toInt.toNat + 8) 64 (isRow8 h4_14) k29) (cwV 1 hts gX6_poll_X3_fits rfl rfl rfl (by decide +kernel) ⟨Nat.le_of_ble_eq_true rfl, Nat.le_of_ble_eq_true rfl⟩) rfl rfl (Nat.le_of_ble_eq_true rfl) dX6_poll_53 ⟨Nat.zero_le _, Nat.zero_le _⟩ (fun r31 x30 H locs hq32 hP hS => ?_)
        obtain ⟨ex33, hf34⟩ := hq32
        rw [ex33] at hP
        refine w_if_eq (tgt := 63) S dX6_poll_56 (by decide) (fun hb35 => ?_) (fun hb35 => ?_)
        · refine w_iconst S dX6_poll_63 (by decide) (fun k36 hk36 => ?_)
          refine w_iadd S dX6_poll_64 (by omega) (by omega) (fun v37 hv37 => ?_)
          refine lv_istore (lv' := [(4, .int v37), (3, .ref (g.1 (5 + 21 * po.toInt.toNat))), (0, .ref (g.1 0)), (1, .int a), (2, .int po)]) S.1 S.2.1 dX6_poll_65 hl (by decide) rfl (fun ls hl => ?_)
          refine lv_iload S.1 S.2.1 dX6_poll_67 (lv_at hl 0 rfl) ?_
          refine lv_aload_n S.1 S.2.1 dX6_poll_69 rfl (lv_at hl 1 rfl) ?_
          refine w_getN (C := RX2) (T := TX2) (N := 15) S (fun _ h => List.mem_cons_of_mem _ (List.mem_append_left _ (List.mem_append_left _ (List.mem_append_left _ (List.mem_append_left _ (List.mem_append_left _ (List.mem_append_right _ h))))))) hK hP (5 + 21 * po.toInt.toNat) (by have := h4_14; omega) ((ceP0 h4_14) _) rfl 11 (by decide) (hN.1 _ (List.mem_of_getElem? (i := 28) rfl)) (v := .int (x15 (5 + 21 * po.toInt.toNat) 11)) rfl dX6_poll_70 ?_
          refine lv_topi (fun v38 ev38 => ?_)
          have wv38 : v38.toInt = (x15 (5 + 21 * po.toInt.toNat) 11).toInt := by rw [ev38]
          have rv38 : (0 : Int) ≤ v38.toInt ∧ v38.toInt ≤ (1 : Int) := by rw [ev38]; exact hI18.atP0 (k := 11) h4_14
          refine w_if_eq (tgt := 80) S dX6_poll_73 (by decide) (fun hb39 => ?_) (fun hb39 => ?_)
          · refine w_iconst S dX6_poll_80 (by decide) (fun k40 hk40 => ?_)
            refine w_iadd S dX6_poll_81 (by omega) (by omega) (fun v41 hv41 => ?_)
            exact w_iret S hr0 hlk hP hS dX6_poll_82 (⟨hI18, hT21, fun _ => ⟨by omega, by omega⟩, fun hv => absurd hv (by omega)⟩)
          · refine w_iconst S dX6_poll_76 (by decide) (fun k42 hk42 => ?_)
            refine lv_goto (tgt := 81) S.1 S.2.1 dX6_poll_77 (by decide) ?_
            refine w_iadd S dX6_poll_81 (by omega) (by omega) (fun v43 hv43 => ?_)
            exact w_iret S hr0 hlk hP hS dX6_poll_82 (⟨hI18, hT21, fun _ => ⟨by omega, by omega⟩, fun hv => absurd hv (by omega)⟩)
        · refine w_iconst S dX6_poll_59 (by decide) (fun k44 hk44 => ?_)
          refine lv_goto (tgt := 64) S.1 S.2.1 dX6_poll_60 (by decide) ?_
          refine w_iadd S dX6_poll_64 (by omega) (by omega) (fun v45 hv45 => ?_)
          refine lv_istore (lv' := [(4, .int v45), (3, .ref (g.1 (5 + 21 * po.toInt.toNat))), (0, .ref (g.1 0)), (1, .int a), (2, .int po)]) S.1 S.2.1 dX6_poll_65 hl (by decide) rfl (fun ls hl => ?_)
          refine lv_iload S.1 S.2.1 dX6_poll_67 (lv_at hl 0 rfl) ?_
          refine lv_aload_n S.1 S.2.1 dX6_poll_69 rfl (lv_at hl 1 rfl) ?_
          refine w_getN (C := RX2) (T := TX2) (N := 15) S (fun _ h => List.mem_cons_of_mem _ (List.mem_append_left _ (List.mem_append_left _ (List.mem_append_left _ (List.mem_append_left _ (List.mem_append_left _ (List.mem_append_right _ h))))))) hK hP (5 + 21 * po.toInt.toNat) (by have := h4_14; omega) ((ceP0 h4_14) _) rfl 11 (by decide) (hN.1 _ (List.mem_of_getElem? (i := 28) rfl)) (v := .int (x15 (5 + 21 * po.toInt.toNat) 11)) rfl dX6_poll_70 ?_
          refine lv_topi (fun v46 ev46 => ?_)
          have wv46 : v46.toInt = (x15 (5 + 21 * po.toInt.toNat) 11).toInt := by rw [ev46]
          have rv46 : (0 : Int) ≤ v46.toInt ∧ v46.toInt ≤ (1 : Int) := by rw [ev46]; exact hI18.atP0 (k := 11) h4_14
          refine w_if_eq (tgt := 80) S dX6_poll_73 (by decide) (fun hb47 => ?_) (fun hb47 => ?_)
          · refine w_iconst S dX6_poll_80 (by decide) (fun k48 hk48 => ?_)
            refine w_iadd S dX6_poll_81 (by omega) (by omega) (fun v49 hv49 => ?_)
            exact w_iret S hr0 hlk hP hS dX6_poll_82 (⟨hI18, hT21, fun _ => ⟨by omega, by omega⟩, fun hv => absurd hv (by omega)⟩)
          · refine w_iconst S dX6_poll_76 (by decide) (fun k50 hk50 => ?_)
            refine lv_goto (tgt := 81) S.1 S.2.1 dX6_poll_77 (by decide) ?_
            refine w_iadd S dX6_poll_81 (by omega) (by omega) (fun v51 hv51 => ?_)
            exact w_iret S hr0 hlk hP hS dX6_poll_82 (⟨hI18, hT21, fun _ => ⟨by omega, by omega⟩, fun hv => absurd hv (by omega)⟩)
      · refine w_iconst S dX6_poll_35 (by decide) (fun k52 hk52 => ?_)
        refine lv_goto (tgt := 40) S.1 S.2.1 dX6_poll_36 (by decide) ?_
        refine lv_istore (lv' := [(4, .int k52), (3, .ref (g.1 (5 + 21 * po.toInt.toNat))), (0, .ref (g.1 0)), (1, .int a), (2, .int po)]) S.1 S.2.1 dX6_poll_40 hl (by decide) rfl (fun ls hl => ?_)
        refine lv_iload S.1 S.2.1 dX6_poll_42 (lv_at hl 0 rfl) ?_
        refine lv_aload_n S.1 S.2.1 dX6_poll_44 rfl (lv_at hl 1 rfl) ?_
        refine w_getN (C := RX2) (T := TX2) (N := 15) S (fun _ h => List.mem_cons_of_mem _ (List.mem_append_left _ (List.mem_append_left _ (List.mem_append_left _ (List.mem_append_left _ (List.mem_append_left _ (List.mem_append_right _ h))))))) hK hP (5 + 21 * po.toInt.toNat) (by have := h4_14; omega) ((ceP0 h4_14) _) rfl 4 (by decide) (hN.1 _ (List.mem_of_getElem? (i := 23) rfl)) (v := .ref (g.1 (5 + 21 * po.toInt.toNat + 7))) rfl dX6_poll_45 ?_
        refine w_getN (C := RX1) (T := TX1) (N := 5) S (fun _ h => List.mem_cons_of_mem _ (List.mem_append_left _ (List.mem_append_left _ (List.mem_append_left _ (List.mem_append_left _ (List.mem_append_right _ h)))))) hK hP (5 + 21 * po.toInt.toNat + 7) (by have := h4_14; omega) ((ceP7 h4_14) _) rfl 0 (by decide) (hN.1 _ (List.mem_of_getElem? (i := 12) rfl)) (v := .ref (g.1 (5 + 21 * po.toInt.toNat + 8))) rfl dX6_poll_48 ?_
        refine w_bipush S dX6_poll_51 (by decide) (fun k53 hk53 => ?_)
        refine w_cVi (As := [.int k53]) (rest := [.int k52]) S hK hN hP hS hl (5 + 21 * po.toInt.toNat + 8) (by have := h4_14; omega) ((ceP8 h4_14) _) rfl (c_X3_fits l D g hg x15 hI18 (5 + 21 * po.toInt.toNat + 8) 64 (isRow8 h4_14) k53) (cwV 1 hts gX6_poll_X3_fits rfl rfl rfl (by decide +kernel) ⟨Nat.le_of_ble_eq_true rfl, Nat.le_of_ble_eq_true rfl⟩) rfl rfl (Nat.le_of_ble_eq_true rfl) dX6_poll_53 ⟨Nat.zero_le _, Nat.zero_le _⟩ (fun r55 x54 H locs hq56 hP hS => ?_)
        obtain ⟨ex57, hf58⟩ := hq56
        rw [ex57] at hP
        refine w_if_eq (tgt := 63) S dX6_poll_56 (by decide) (fun hb59 => ?_) (fun hb59 => ?_)
        · refine w_iconst S dX6_poll_63 (by decide) (fun k60 hk60 => ?_)
          refine w_iadd S dX6_poll_64 (by omega) (by omega) (fun v61 hv61 => ?_)
          refine lv_istore (lv' := [(4, .int v61), (3, .ref (g.1 (5 + 21 * po.toInt.toNat))), (0, .ref (g.1 0)), (1, .int a), (2, .int po)]) S.1 S.2.1 dX6_poll_65 hl (by decide) rfl (fun ls hl => ?_)
          refine lv_iload S.1 S.2.1 dX6_poll_67 (lv_at hl 0 rfl) ?_
          refine lv_aload_n S.1 S.2.1 dX6_poll_69 rfl (lv_at hl 1 rfl) ?_
          refine w_getN (C := RX2) (T := TX2) (N := 15) S (fun _ h => List.mem_cons_of_mem _ (List.mem_append_left _ (List.mem_append_left _ (List.mem_append_left _ (List.mem_append_left _ (List.mem_append_left _ (List.mem_append_right _ h))))))) hK hP (5 + 21 * po.toInt.toNat) (by have := h4_14; omega) ((ceP0 h4_14) _) rfl 11 (by decide) (hN.1 _ (List.mem_of_getElem? (i := 28) rfl)) (v := .int (x15 (5 + 21 * po.toInt.toNat) 11)) rfl dX6_poll_70 ?_
          refine lv_topi (fun v62 ev62 => ?_)
          have wv62 : v62.toInt = (x15 (5 + 21 * po.toInt.toNat) 11).toInt := by rw [ev62]
          have rv62 : (0 : Int) ≤ v62.toInt ∧ v62.toInt ≤ (1 : Int) := by rw [ev62]; exact hI18.atP0 (k := 11) h4_14
          refine w_if_eq (tgt := 80) S dX6_poll_73 (by decide) (fun hb63 => ?_) (fun hb63 => ?_)
          · refine w_iconst S dX6_poll_80 (by decide) (fun k64 hk64 => ?_)
            refine w_iadd S dX6_poll_81 (by omega) (by omega) (fun v65 hv65 => ?_)
            exact w_iret S hr0 hlk hP hS dX6_poll_82 (⟨hI18, hT21, fun _ => ⟨by omega, by omega⟩, fun hv => absurd hv (by omega)⟩)
          · refine w_iconst S dX6_poll_76 (by decide) (fun k66 hk66 => ?_)
            refine lv_goto (tgt := 81) S.1 S.2.1 dX6_poll_77 (by decide) ?_
            refine w_iadd S dX6_poll_81 (by omega) (by omega) (fun v67 hv67 => ?_)
            exact w_iret S hr0 hlk hP hS dX6_poll_82 (⟨hI18, hT21, fun _ => ⟨by omega, by omega⟩, fun hv => absurd hv (by omega)⟩)
        · refine w_iconst S dX6_poll_59 (by decide) (fun k68 hk68 => ?_)
          refine lv_goto (tgt := 64) S.1 S.2.1 dX6_poll_60 (by decide) ?_
          refine w_iadd S dX6_poll_64 (by omega) (by omega) (fun v69 hv69 => ?_)
          refine lv_istore (lv' := [(4, .int v69), (3, .ref (g.1 (5 + 21 * po.toInt.toNat))), (0, .ref (g.1 0)), (1, .int a), (2, .int po)]) S.1 S.2.1 dX6_poll_65 hl (by decide) rfl (fun ls hl => ?_)
          refine lv_iload S.1 S.2.1 dX6_poll_67 (lv_at hl 0 rfl) ?_
          refine lv_aload_n S.1 S.2.1 dX6_poll_69 rfl (lv_at hl 1 rfl) ?_
          refine w_getN (C := RX2) (T := TX2) (N := 15) S (fun _ h => List.mem_cons_of_mem _ (List.mem_append_left _ (List.mem_append_left _ (List.mem_append_left _ (List.mem_append_left _ (List.mem_append_left _ (List.mem_append_right _ h))))))) hK hP (5 + 21 * po.toInt.toNat) (by have := h4_14; omega) ((ceP0 h4_14) _) rfl 11 (by decide) (hN.1 _ (List.mem_of_getElem? (i := 28) rfl)) (v := .int (x15 (5 + 21 * po.toInt.toNat) 11)) rfl dX6_poll_70 ?_
          refine lv_topi (fun v70 ev70 => ?_)
          have wv70 : v70.toInt = (x15 (5 + 21 * po.toInt.toNat) 11).toInt := by rw [ev70]
          have rv70 : (0 : Int) ≤ v70.toInt ∧ v70.toInt ≤ (1 : Int) := by rw [ev70]; exact hI18.atP0 (k := 11) h4_14
          refine w_if_eq (tgt := 80) S dX6_poll_73 (by decide) (fun hb71 => ?_) (fun hb71 => ?_)
          · refine w_iconst S dX6_poll_80 (by decide) (fun k72 hk72 => ?_)
            refine w_iadd S dX6_poll_81 (by omega) (by omega) (fun v73 hv73 => ?_)
            exact w_iret S hr0 hlk hP hS dX6_poll_82 (⟨hI18, hT21, fun _ => ⟨by omega, by omega⟩, fun hv => absurd hv (by omega)⟩)
          · refine w_iconst S dX6_poll_76 (by decide) (fun k74 hk74 => ?_)
            refine lv_goto (tgt := 81) S.1 S.2.1 dX6_poll_77 (by decide) ?_
            refine w_iadd S dX6_poll_81 (by omega) (by omega) (fun v75 hv75 => ?_)
            exact w_iret S hr0 hlk hP hS dX6_poll_82 (⟨hI18, hT21, fun _ => ⟨by omega, by omega⟩, fun hv => absurd hv (by omega)⟩)
    · refine w_iconst S dX6_poll_14 (by decide) (fun k76 hk76 => ?_)
      exact w_iret S hr0 hlk hP hS dX6_poll_15 (⟨hI, hT, fun hv => absurd hv (by omega), fun _ => ⟨by omega, rfl⟩⟩)
set_option maxRecDepth 100000 in
set_option maxHeartbeats 4000000 in
theorem c_X6_signals (l : Launch) (D : va_G) (g : GA) (hg : Inj g) (x : St) (hI : Inv x)  (a : Int32) : Met l yX6_signals wsX6_signals ({ frames := 1, cells := 0, slots := 0, locals := 20 } : Room) (va_Pc [.ref (g.1 0), .int a] (WI D g x)) (va_Qi (fun r x2 => Inv x2 ∧ Same (TC) x x2 ∧ ((0 ≤ a.toInt ∧ a.toInt ≤ 7) → r.toInt = (x 4 a.toInt.toNat).toInt) ∧ (¬ (0 ≤ a.toInt ∧ a.toInt ≤ 7) → r.toInt = -1)) (WO D g) (AQ g)) 0 0 (AQ g) := by
  refine w_met (cc := cX6_signals) (maxL := 3) (ret := (some .int)) (own := RX6) (by decide) rfl rfl (Nat.le_of_ble_eq_true rfl) (fun p e s m below meth co S hr0 hlk hK hN hP hS ls hl => ?_)
  have hts := S.2.2.2.2
  have hl : lv_has ls 3 [(0, .ref (g.1 0)), (1, .int a)] := hl
  have hT : Same (TC) x x := Same.rf
  refine lv_iload_n S.1 S.2.1 dX6_signals_0 rfl (lv_at hl 1 rfl) ?_
  refine w_cSi (As := [.int a]) (rest := []) S hK hN hP hS hl (c_X6_isProcess l D g hg x hI a) (va_cwS 1 hts gX6_signals_X6_isProcess rfl rfl rfl (by decide +kernel) ⟨Nat.le_of_ble_eq_true rfl, Nat.le_of_ble_eq_true rfl⟩) rfl rfl (Nat.le_of_ble_eq_true rfl) dX6_signals_1 ⟨Nat.zero_le _, Nat.zero_le _⟩ (fun r2 x1 H locs hq3 hP hS => ?_)
  obtain ⟨ex4, hf5⟩ := hq3
  rw [ex4] at hP
  refine w_if_ne (tgt := 9) S dX6_signals_4 (by decide) (fun hb6 => ?_) (fun hb6 => ?_)
  · refine lv_aload_n S.1 S.2.1 dX6_signals_9 rfl (lv_at hl 0 rfl) ?_
    refine w_get (C := RX6) (T := TX6) (N := 2) S (fun _ h => List.mem_cons_of_mem _ (List.mem_append_left _ (List.mem_append_right _ h))) hK hP 0 (by decide) (ceK0 _) rfl 0 (by decide) (hts _ (List.mem_of_getElem? (i := 1) rfl)) (v := .ref (g.1 2)) rfl dX6_signals_10 ?_
    refine w_getN (C := RX0) (T := TX0) (N := 2) S (fun _ h => List.mem_cons_of_mem _ (List.mem_append_right _ h)) hK hP 2 (by decide) (ceK2 _) rfl 1 (by decide) (hN.1 _ (List.mem_of_getElem? (i := 2) rfl)) (v := .ref (g.1 4)) rfl dX6_signals_13 ?_
    refine lv_iload_n S.1 S.2.1 dX6_signals_16 rfl (lv_at hl 1 rfl) ?_
    refine w_iald S hK hP 4 (by decide) ceK4 (by omega) (by omega) dX6_signals_17 (fun v7 ev7 => ?_)
    have wv7 : v7.toInt = (x 4 a.toInt.toNat).toInt := by rw [ev7]
    refine lv_istore_n (lv' := [(2, .int v7), (0, .ref (g.1 0)), (1, .int a)]) S.1 S.2.1 dX6_signals_18 rfl hl (by decide) rfl (fun ls hl => ?_)
    refine lv_aload_n S.1 S.2.1 dX6_signals_19 rfl (lv_at hl 1 rfl) ?_
    refine w_get (C := RX6) (T := TX6) (N := 2) S (fun _ h => List.mem_cons_of_mem _ (List.mem_append_left _ (List.mem_append_right _ h))) hK hP 0 (by decide) (ceK0 _) rfl 0 (by decide) (hts _ (List.mem_of_getElem? (i := 1) rfl)) (v := .ref (g.1 2)) rfl dX6_signals_20 ?_
    refine w_getN (C := RX0) (T := TX0) (N := 2) S (fun _ h => List.mem_cons_of_mem _ (List.mem_append_right _ h)) hK hP 2 (by decide) (ceK2 _) rfl 1 (by decide) (hN.1 _ (List.mem_of_getElem? (i := 2) rfl)) (v := .ref (g.1 4)) rfl dX6_signals_23 ?_
    refine lv_iload_n S.1 S.2.1 dX6_signals_26 rfl (lv_at hl 2 rfl) ?_
    refine w_iconst S dX6_signals_27 (by decide) (fun k8 hk8 => ?_)
    refine w_iast S hK hg hP hS 4 (by decide) ceK4 (by omega) (by omega) dX6_signals_28 (fun x9 H locs ex9 hP hS => ?_)
    have hI10 : Inv x9 := by rw [ex9]; exact hI.up (i_ge _) (i_le _)
    have hT11 : Same (TC) x x9 := by rw [ex9]; exact hT.up (by unfold TC TrC; omega)
    refine lv_iload_n S.1 S.2.1 dX6_signals_29 rfl (lv_at hl 0 rfl) ?_
    exact w_iret S hr0 hlk hP hS dX6_signals_30 (⟨hI10, hT11, by omega, by omega⟩)
  · refine w_iconst S dX6_signals_7 (by decide) (fun k12 hk12 => ?_)
    exact w_iret S hr0 hlk hP hS dX6_signals_8 (⟨hI, hT, by omega, by omega⟩)
set_option maxRecDepth 100000 in
set_option maxHeartbeats 4000000 in
theorem c_X6_count (l : Launch) (D : va_G) (g : GA) (hg : Inj g) (x : St) (hI : Inv x)  (po : Int32) (wh : Int32) : Met l yX6_count wsX6_count ({ frames := 1, cells := 0, slots := 0, locals := 20 } : Room) (va_Pc [.ref (g.1 0), .int po, .int wh] (WI D g x)) (va_Qi (fun r x2 => x2 = x ∧ ((0 ≤ po.toInt ∧ po.toInt ≤ 3 ∧ 0 ≤ wh.toInt ∧ wh.toInt ≤ 4) → r.toInt = (x (5 + 21 * po.toInt.toNat + 20) wh.toInt.toNat).toInt) ∧ (¬ (0 ≤ po.toInt ∧ po.toInt ≤ 3 ∧ 0 ≤ wh.toInt ∧ wh.toInt ≤ 4) → r.toInt = -1)) (WO D g) (AQ g)) 0 0 (AQ g) := by
  refine w_met (cc := cX6_count) (maxL := 3) (ret := (some .int)) (own := RX6) (by decide) rfl rfl (Nat.le_of_ble_eq_true rfl) (fun p e s m below meth co S hr0 hlk hK hN hP hS ls hl => ?_)
  have hts := S.2.2.2.2
  have hl : lv_has ls 3 [(0, .ref (g.1 0)), (1, .int po), (2, .int wh)] := hl
  refine lv_iload_n S.1 S.2.1 dX6_count_0 rfl (lv_at hl 1 rfl) ?_
  refine w_cSi (As := [.int po]) (rest := []) S hK hN hP hS hl (c_X6_isPort l D g hg x hI po) (va_cwS 1 hts gX6_count_X6_isPort rfl rfl rfl (by decide +kernel) ⟨Nat.le_of_ble_eq_true rfl, Nat.le_of_ble_eq_true rfl⟩) rfl rfl (Nat.le_of_ble_eq_true rfl) dX6_count_1 ⟨Nat.zero_le _, Nat.zero_le _⟩ (fun r2 x1 H locs hq3 hP hS => ?_)
  obtain ⟨ex4, hf5⟩ := hq3
  rw [ex4] at hP
  refine w_if_eq (tgt := 30) S dX6_count_4 (by decide) (fun hb6 => ?_) (fun hb6 => ?_)
  · refine w_iconst S dX6_count_30 (by decide) (fun k7 hk7 => ?_)
    exact w_iret S hr0 hlk hP hS dX6_count_31 (⟨rfl, by omega, by omega⟩)
  · refine lv_iload_n S.1 S.2.1 dX6_count_7 rfl (lv_at hl 2 rfl) ?_
    refine w_if_lt (tgt := 30) S dX6_count_8 (by decide) (fun hb8 => ?_) (fun hb8 => ?_)
    · refine w_iconst S dX6_count_30 (by decide) (fun k9 hk9 => ?_)
      exact w_iret S hr0 hlk hP hS dX6_count_31 (⟨rfl, by omega, by omega⟩)
    · refine lv_iload_n S.1 S.2.1 dX6_count_11 rfl (lv_at hl 2 rfl) ?_
      refine w_iconst S dX6_count_12 (by decide) (fun k10 hk10 => ?_)
      refine w_icmp_ge (tgt := 30) S dX6_count_13 (by decide) (fun hb11 => ?_) (fun hb11 => ?_)
      · refine w_iconst S dX6_count_30 (by decide) (fun k12 hk12 => ?_)
        exact w_iret S hr0 hlk hP hS dX6_count_31 (⟨rfl, by omega, by omega⟩)
      · refine lv_aload_n S.1 S.2.1 dX6_count_16 rfl (lv_at hl 0 rfl) ?_
        refine w_get (C := RX6) (T := TX6) (N := 2) S (fun _ h => List.mem_cons_of_mem _ (List.mem_append_left _ (List.mem_append_right _ h))) hK hP 0 (by decide) (ceK0 _) rfl 1 (by decide) (hts _ (List.mem_of_getElem? (i := 1) rfl)) (v := .ref (g.1 1)) rfl dX6_count_17 ?_
        refine lv_iload_n S.1 S.2.1 dX6_count_20 rfl (lv_at hl 1 rfl) ?_
        have h4_13 : po.toInt.toNat < 4 := by omega
        refine w_aald S hK hP (by omega) (by omega) dX6_count_21 ?_
        refine w_getN (C := RX2) (T := TX2) (N := 15) S (fun _ h => List.mem_cons_of_mem _ (List.mem_append_right _ h)) hK hP (5 + 21 * po.toInt.toNat) (by have := h4_13; omega) ((ceP0 h4_13) _) rfl 8 (by decide) (hN.1 _ (List.mem_of_getElem? (i := 26) rfl)) (v := .ref (g.1 (5 + 21 * po.toInt.toNat + 20))) rfl dX6_count_22 ?_
        refine lv_iload_n S.1 S.2.1 dX6_count_25 rfl (lv_at hl 2 rfl) ?_
        refine w_iald S hK hP (5 + 21 * po.toInt.toNat + 20) (by have := h4_13; omega) (ceP20 h4_13) (by omega) (by omega) dX6_count_26 (fun v14 ev14 => ?_)
        have wv14 : v14.toInt = (x (5 + 21 * po.toInt.toNat + 20) wh.toInt.toNat).toInt := by rw [ev14]
        refine lv_goto (tgt := 31) S.1 S.2.1 dX6_count_27 (by decide) ?_
        exact w_iret S hr0 hlk hP hS dX6_count_31 (⟨rfl, by omega, by omega⟩)
set_option maxRecDepth 100000 in
set_option maxHeartbeats 4000000 in
theorem c_X6_column (l : Launch) (D : va_G) (g : GA) (hg : Inj g) (x : St) (hI : Inv x)  (po : Int32) : Met l yX6_column wsX6_column ({ frames := 1, cells := 0, slots := 0, locals := 20 } : Room) (va_Pc [.ref (g.1 0), .int po] (WI D g x)) (va_Qi (fun r x2 => x2 = x ∧ ((0 ≤ po.toInt ∧ po.toInt ≤ 3) → r.toInt = (x (5 + 21 * po.toInt.toNat + 7) 2).toInt) ∧ (¬ (0 ≤ po.toInt ∧ po.toInt ≤ 3) → r.toInt = -1)) (WO D g) (AQ g)) 0 0 (AQ g) := by
  refine w_met (cc := cX6_column) (maxL := 2) (ret := (some .int)) (own := RX6) (by decide) rfl rfl (Nat.le_of_ble_eq_true rfl) (fun p e s m below meth co S hr0 hlk hK hN hP hS ls hl => ?_)
  have hts := S.2.2.2.2
  have hl : lv_has ls 2 [(0, .ref (g.1 0)), (1, .int po)] := hl
  refine lv_iload_n S.1 S.2.1 dX6_column_0 rfl (lv_at hl 1 rfl) ?_
  refine w_cSi (As := [.int po]) (rest := []) S hK hN hP hS hl (c_X6_isPort l D g hg x hI po) (va_cwS 1 hts gX6_column_X6_isPort rfl rfl rfl (by decide +kernel) ⟨Nat.le_of_ble_eq_true rfl, Nat.le_of_ble_eq_true rfl⟩) rfl rfl (Nat.le_of_ble_eq_true rfl) dX6_column_1 ⟨Nat.zero_le _, Nat.zero_le _⟩ (fun r2 x1 H locs hq3 hP hS => ?_)
  obtain ⟨ex4, hf5⟩ := hq3
  rw [ex4] at hP
  refine w_if_eq (tgt := 22) S dX6_column_4 (by decide) (fun hb6 => ?_) (fun hb6 => ?_)
  · refine w_iconst S dX6_column_22 (by decide) (fun k7 hk7 => ?_)
    exact w_iret S hr0 hlk hP hS dX6_column_23 (⟨rfl, by omega, by omega⟩)
  · refine lv_aload_n S.1 S.2.1 dX6_column_7 rfl (lv_at hl 0 rfl) ?_
    refine w_get (C := RX6) (T := TX6) (N := 2) S (fun _ h => List.mem_cons_of_mem _ (List.mem_append_left _ (List.mem_append_left _ (List.mem_append_right _ h)))) hK hP 0 (by decide) (ceK0 _) rfl 1 (by decide) (hts _ (List.mem_of_getElem? (i := 1) rfl)) (v := .ref (g.1 1)) rfl dX6_column_8 ?_
    refine lv_iload_n S.1 S.2.1 dX6_column_11 rfl (lv_at hl 1 rfl) ?_
    have h4_8 : po.toInt.toNat < 4 := by omega
    refine w_aald S hK hP (by omega) (by omega) dX6_column_12 ?_
    refine w_getN (C := RX2) (T := TX2) (N := 15) S (fun _ h => List.mem_cons_of_mem _ (List.mem_append_left _ (List.mem_append_right _ h))) hK hP (5 + 21 * po.toInt.toNat) (by have := h4_8; omega) ((ceP0 h4_8) _) rfl 4 (by decide) (hN.1 _ (List.mem_of_getElem? (i := 23) rfl)) (v := .ref (g.1 (5 + 21 * po.toInt.toNat + 7))) rfl dX6_column_13 ?_
    refine w_getN (C := RX1) (T := TX1) (N := 5) S (fun _ h => List.mem_cons_of_mem _ (List.mem_append_right _ h)) hK hP (5 + 21 * po.toInt.toNat + 7) (by have := h4_8; omega) ((ceP7 h4_8) _) rfl 2 (by decide) (hN.1 _ (List.mem_of_getElem? (i := 14) rfl)) (v := .int (x (5 + 21 * po.toInt.toNat + 7) 2)) rfl dX6_column_16 ?_
    refine lv_topi (fun v9 ev9 => ?_)
    have wv9 : v9.toInt = (x (5 + 21 * po.toInt.toNat + 7) 2).toInt := by rw [ev9]
    refine lv_goto (tgt := 23) S.1 S.2.1 dX6_column_19 (by decide) ?_
    exact w_iret S hr0 hlk hP hS dX6_column_23 (⟨rfl, by omega, by omega⟩)
set_option maxRecDepth 100000 in
set_option maxHeartbeats 4000000 in
theorem c_X6_ready (l : Launch) (D : va_G) (g : GA) (hg : Inj g) (x : St) (hI : Inv x)  (po : Int32) : Met l yX6_ready wsX6_ready ({ frames := 1, cells := 0, slots := 0, locals := 20 } : Room) (va_Pc [.ref (g.1 0), .int po] (WI D g x)) (va_Qi (fun r x2 => x2 = x ∧ ((0 ≤ po.toInt ∧ po.toInt ≤ 3) → r.toInt = (x (5 + 21 * po.toInt.toNat + 4) 1).toInt) ∧ (¬ (0 ≤ po.toInt ∧ po.toInt ≤ 3) → r.toInt = -1)) (WO D g) (AQ g)) 0 0 (AQ g) := by
  refine w_met (cc := cX6_ready) (maxL := 2) (ret := (some .int)) (own := RX6) (by decide) rfl rfl (Nat.le_of_ble_eq_true rfl) (fun p e s m below meth co S hr0 hlk hK hN hP hS ls hl => ?_)
  have hts := S.2.2.2.2
  have hl : lv_has ls 2 [(0, .ref (g.1 0)), (1, .int po)] := hl
  refine lv_iload_n S.1 S.2.1 dX6_ready_0 rfl (lv_at hl 1 rfl) ?_
  refine w_cSi (As := [.int po]) (rest := []) S hK hN hP hS hl (c_X6_isPort l D g hg x hI po) (va_cwS 1 hts gX6_ready_X6_isPort rfl rfl rfl (by decide +kernel) ⟨Nat.le_of_ble_eq_true rfl, Nat.le_of_ble_eq_true rfl⟩) rfl rfl (Nat.le_of_ble_eq_true rfl) dX6_ready_1 ⟨Nat.zero_le _, Nat.zero_le _⟩ (fun r2 x1 H locs hq3 hP hS => ?_)
  obtain ⟨ex4, hf5⟩ := hq3
  rw [ex4] at hP
  refine w_if_eq (tgt := 22) S dX6_ready_4 (by decide) (fun hb6 => ?_) (fun hb6 => ?_)
  · refine w_iconst S dX6_ready_22 (by decide) (fun k7 hk7 => ?_)
    exact w_iret S hr0 hlk hP hS dX6_ready_23 (⟨rfl, by omega, by omega⟩)
  · refine lv_aload_n S.1 S.2.1 dX6_ready_7 rfl (lv_at hl 0 rfl) ?_
    refine w_get (C := RX6) (T := TX6) (N := 2) S (fun _ h => List.mem_cons_of_mem _ (List.mem_append_left _ (List.mem_append_left _ (List.mem_append_right _ h)))) hK hP 0 (by decide) (ceK0 _) rfl 1 (by decide) (hts _ (List.mem_of_getElem? (i := 1) rfl)) (v := .ref (g.1 1)) rfl dX6_ready_8 ?_
    refine lv_iload_n S.1 S.2.1 dX6_ready_11 rfl (lv_at hl 1 rfl) ?_
    have h4_8 : po.toInt.toNat < 4 := by omega
    refine w_aald S hK hP (by omega) (by omega) dX6_ready_12 ?_
    refine w_getN (C := RX2) (T := TX2) (N := 15) S (fun _ h => List.mem_cons_of_mem _ (List.mem_append_left _ (List.mem_append_right _ h))) hK hP (5 + 21 * po.toInt.toNat) (by have := h4_8; omega) ((ceP0 h4_8) _) rfl 3 (by decide) (hN.1 _ (List.mem_of_getElem? (i := 22) rfl)) (v := .ref (g.1 (5 + 21 * po.toInt.toNat + 4))) rfl dX6_ready_13 ?_
    refine w_getN (C := RX4) (T := TX4) (N := 3) S (fun _ h => List.mem_cons_of_mem _ (List.mem_append_right _ h)) hK hP (5 + 21 * po.toInt.toNat + 4) (by have := h4_8; omega) ((ceP4 h4_8) _) rfl 1 (by decide) (hN.1 _ (List.mem_of_getElem? (i := 9) rfl)) (v := .int (x (5 + 21 * po.toInt.toNat + 4) 1)) rfl dX6_ready_16 ?_
    refine lv_topi (fun v9 ev9 => ?_)
    have wv9 : v9.toInt = (x (5 + 21 * po.toInt.toNat + 4) 1).toInt := by rw [ev9]
    refine lv_goto (tgt := 23) S.1 S.2.1 dX6_ready_19 (by decide) ?_
    exact w_iret S hr0 hlk hP hS dX6_ready_23 (⟨rfl, by omega, by omega⟩)
set_option maxRecDepth 100000 in
set_option maxHeartbeats 4000000 in
theorem c_X6_flush (l : Launch) (D : va_G) (g : GA) (hg : Inj g) (x : St) (hI : Inv x)  (po : Int32) (wh : Int32) : Met l yX6_flush wsX6_flush ({ frames := 5, cells := 0, slots := 0, locals := 108 } : Room) (va_Pc [.ref (g.1 0), .int po, .int wh] (WI D g x)) (va_Qi (fun r x2 => Inv x2 ∧ Same (TC) x x2 ∧ ((0 ≤ po.toInt ∧ po.toInt ≤ 3 ∧ 0 ≤ wh.toInt ∧ wh.toInt ≤ 2) → r.toInt = 1) ∧ (¬ (0 ≤ po.toInt ∧ po.toInt ≤ 3 ∧ 0 ≤ wh.toInt ∧ wh.toInt ≤ 2) → r.toInt = 0)) (WO D g) (AQ g)) 0 0 (AQ g) := by
  refine w_met (cc := cX6_flush) (maxL := 3) (ret := (some .boolean)) (own := RX6) (by decide) rfl rfl (Nat.le_of_ble_eq_true rfl) (fun p e s m below meth co S hr0 hlk hK hN hP hS ls hl => ?_)
  have hts := S.2.2.2.2
  have hl : lv_has ls 3 [(0, .ref (g.1 0)), (1, .int po), (2, .int wh)] := hl
  have hT : Same (TC) x x := Same.rf
  refine lv_iload_n S.1 S.2.1 dX6_flush_0 rfl (lv_at hl 1 rfl) ?_
  refine w_cSi (As := [.int po]) (rest := []) S hK hN hP hS hl (c_X6_isPort l D g hg x hI po) (va_cwS 1 hts gX6_flush_X6_isPort rfl rfl rfl (by decide +kernel) ⟨Nat.le_of_ble_eq_true rfl, Nat.le_of_ble_eq_true rfl⟩) rfl rfl (Nat.le_of_ble_eq_true rfl) dX6_flush_1 ⟨Nat.zero_le _, Nat.zero_le _⟩ (fun r2 x1 H locs hq3 hP hS => ?_)
  obtain ⟨ex4, hf5⟩ := hq3
  rw [ex4] at hP
  refine w_if_eq (tgt := 16) S dX6_flush_4 (by decide) (fun hb6 => ?_) (fun hb6 => ?_)
  · refine w_iconst S dX6_flush_16 (by decide) (fun k7 hk7 => ?_)
    exact w_zret S hr0 hlk hP hS dX6_flush_17 (z01 (by omega) (by omega)) (⟨hI, hT, by omega, by omega⟩)
  · refine lv_iload_n S.1 S.2.1 dX6_flush_7 rfl (lv_at hl 2 rfl) ?_
    refine w_if_lt (tgt := 16) S dX6_flush_8 (by decide) (fun hb8 => ?_) (fun hb8 => ?_)
    · refine w_iconst S dX6_flush_16 (by decide) (fun k9 hk9 => ?_)
      exact w_zret S hr0 hlk hP hS dX6_flush_17 (z01 (by omega) (by omega)) (⟨hI, hT, by omega, by omega⟩)
    · refine lv_iload_n S.1 S.2.1 dX6_flush_11 rfl (lv_at hl 2 rfl) ?_
      refine w_iconst S dX6_flush_12 (by decide) (fun k10 hk10 => ?_)
      refine w_icmp_le (tgt := 18) S dX6_flush_13 (by decide) (fun hb11 => ?_) (fun hb11 => ?_)
      · refine lv_iload_n S.1 S.2.1 dX6_flush_18 rfl (lv_at hl 2 rfl) ?_
        refine w_iconst S dX6_flush_19 (by decide) (fun k12 hk12 => ?_)
        refine w_icmp_eq (tgt := 32) S dX6_flush_20 (by decide) (fun hb13 => ?_) (fun hb13 => ?_)
        · refine lv_iload_n S.1 S.2.1 dX6_flush_32 rfl (lv_at hl 2 rfl) ?_
          refine w_if_eq (tgt := 45) S dX6_flush_33 (by decide) (fun hb14 => ?_) (fun hb14 => ?_)
          · refine w_iconst S dX6_flush_45 (by decide) (fun k15 hk15 => ?_)
            exact w_zret S hr0 hlk hP hS dX6_flush_46 (z01 (by omega) (by omega)) (⟨hI, hT, by omega, by omega⟩)
          · refine lv_aload_n S.1 S.2.1 dX6_flush_36 rfl (lv_at hl 0 rfl) ?_
            refine w_get (C := RX6) (T := TX6) (N := 2) S (fun _ h => List.mem_cons_of_mem _ (List.mem_append_left _ (List.mem_append_left _ (List.mem_append_left _ (List.mem_append_left _ (List.mem_append_left _ (List.mem_append_right _ h))))))) hK hP 0 (by decide) (ceK0 _) rfl 1 (by decide) (hts _ (List.mem_of_getElem? (i := 1) rfl)) (v := .ref (g.1 1)) rfl dX6_flush_37 ?_
            refine lv_iload_n S.1 S.2.1 dX6_flush_40 rfl (lv_at hl 1 rfl) ?_
            have h4_16 : po.toInt.toNat < 4 := by omega
            refine w_aald S hK hP (by omega) (by omega) dX6_flush_41 ?_
            refine w_cVv (As := []) (rest := []) S hK hN hP hS hl (5 + 21 * po.toInt.toNat) (by have := h4_16; omega) ((ceP0 h4_16) _) rfl (c_X2_emptyOutput l D g hg x hI (po.toInt.toNat) h4_16) (cwV 0 hts gX6_flush_X2_emptyOutput rfl rfl rfl (by decide +kernel) ⟨Nat.le_of_ble_eq_true rfl, Nat.le_of_ble_eq_true rfl⟩) rfl rfl (Nat.le_of_ble_eq_true rfl) dX6_flush_42 ⟨Nat.zero_le _, Nat.zero_le _⟩ (fun x17 H locs hq19 hP hS => ?_)
            obtain ⟨hI20, hT21, hf22⟩ := hq19
            have hT23 : Same (TC) x x17 := hT.tr hT21 (fun _ _ h => h)
            refine w_iconst S dX6_flush_45 (by decide) (fun k24 hk24 => ?_)
            exact w_zret S hr0 hlk hP hS dX6_flush_46 (z01 (by omega) (by omega)) (⟨hI20, hT23, by omega, by omega⟩)
        · refine lv_aload_n S.1 S.2.1 dX6_flush_23 rfl (lv_at hl 0 rfl) ?_
          refine w_get (C := RX6) (T := TX6) (N := 2) S (fun _ h => List.mem_cons_of_mem _ (List.mem_append_left _ (List.mem_append_left _ (List.mem_append_left _ (List.mem_append_left _ (List.mem_append_left _ (List.mem_append_right _ h))))))) hK hP 0 (by decide) (ceK0 _) rfl 1 (by decide) (hts _ (List.mem_of_getElem? (i := 1) rfl)) (v := .ref (g.1 1)) rfl dX6_flush_24 ?_
          refine lv_iload_n S.1 S.2.1 dX6_flush_27 rfl (lv_at hl 1 rfl) ?_
          have h4_25 : po.toInt.toNat < 4 := by omega
          refine w_aald S hK hP (by omega) (by omega) dX6_flush_28 ?_
          refine w_cVv (As := []) (rest := []) S hK hN hP hS hl (5 + 21 * po.toInt.toNat) (by have := h4_25; omega) ((ceP0 h4_25) _) rfl (c_X2_emptyStore l D g hg x hI (po.toInt.toNat) h4_25) (cwV 0 hts gX6_flush_X2_emptyStore rfl rfl rfl (by decide +kernel) ⟨Nat.le_of_ble_eq_true rfl, Nat.le_of_ble_eq_true rfl⟩) rfl rfl (Nat.le_of_ble_eq_true rfl) dX6_flush_29 ⟨Nat.zero_le _, Nat.zero_le _⟩ (fun x26 H locs hq28 hP hS => ?_)
          obtain ⟨hI29, hT30, hf31⟩ := hq28
          have hT32 : Same (TC) x x26 := hT.tr hT30 (fun _ _ h => h)
          refine lv_iload_n S.1 S.2.1 dX6_flush_32 rfl (lv_at hl 2 rfl) ?_
          refine w_if_eq (tgt := 45) S dX6_flush_33 (by decide) (fun hb33 => ?_) (fun hb33 => ?_)
          · refine w_iconst S dX6_flush_45 (by decide) (fun k34 hk34 => ?_)
            exact w_zret S hr0 hlk hP hS dX6_flush_46 (z01 (by omega) (by omega)) (⟨hI29, hT32, by omega, by omega⟩)
          · refine lv_aload_n S.1 S.2.1 dX6_flush_36 rfl (lv_at hl 0 rfl) ?_
            refine w_get (C := RX6) (T := TX6) (N := 2) S (fun _ h => List.mem_cons_of_mem _ (List.mem_append_left _ (List.mem_append_left _ (List.mem_append_left _ (List.mem_append_left _ (List.mem_append_left _ (List.mem_append_right _ h))))))) hK hP 0 (by decide) (ceK0 _) rfl 1 (by decide) (hts _ (List.mem_of_getElem? (i := 1) rfl)) (v := .ref (g.1 1)) rfl dX6_flush_37 ?_
            refine lv_iload_n S.1 S.2.1 dX6_flush_40 rfl (lv_at hl 1 rfl) ?_
            have h4_35 : po.toInt.toNat < 4 := by omega
            refine w_aald S hK hP (by omega) (by omega) dX6_flush_41 ?_
            refine w_cVv (As := []) (rest := []) S hK hN hP hS hl (5 + 21 * po.toInt.toNat) (by have := h4_35; omega) ((ceP0 h4_35) _) rfl (c_X2_emptyOutput l D g hg x26 hI29 (po.toInt.toNat) h4_35) (cwV 0 hts gX6_flush_X2_emptyOutput rfl rfl rfl (by decide +kernel) ⟨Nat.le_of_ble_eq_true rfl, Nat.le_of_ble_eq_true rfl⟩) rfl rfl (Nat.le_of_ble_eq_true rfl) dX6_flush_42 ⟨Nat.zero_le _, Nat.zero_le _⟩ (fun x36 H locs hq38 hP hS => ?_)
            obtain ⟨hI39, hT40, hf41⟩ := hq38
            have hT42 : Same (TC) x x36 := hT32.tr hT40 (fun _ _ h => h)
            refine w_iconst S dX6_flush_45 (by decide) (fun k43 hk43 => ?_)
            exact w_zret S hr0 hlk hP hS dX6_flush_46 (z01 (by omega) (by omega)) (⟨hI39, hT42, by omega, by omega⟩)
      · refine w_iconst S dX6_flush_16 (by decide) (fun k44 hk44 => ?_)
        exact w_zret S hr0 hlk hP hS dX6_flush_17 (z01 (by omega) (by omega)) (⟨hI, hT, by omega, by omega⟩)
set_option maxRecDepth 100000 in
set_option maxHeartbeats 4000000 in
theorem c_X6_tick (l : Launch) (D : va_G) (g : GA) (hg : Inj g) (x : St) (hI : Inv x)  : Met l yX6_tick wsX6_tick ({ frames := 6, cells := 0, slots := 0, locals := 134 } : Room) (va_Pc [.ref (g.1 0)] (WI D g x)) (va_Qv (fun x2 => Inv x2 ∧ Same (TCt) x x2 ∧ ∀ j, j < 4 → (x2 (5 + 21 * j + 2) 2).toInt = 0) (WO D g) (AQ g)) 0 0 (AQ g) := by
  refine w_met (cc := cX6_tick) (maxL := 2) (ret := none) (own := RX6) (by decide) rfl rfl (Nat.le_of_ble_eq_true rfl) (fun p e s m below meth co S hr0 hlk hK hN hP hS ls hl => ?_)
  have hts := S.2.2.2.2
  have hl : lv_has ls 2 [(0, .ref (g.1 0))] := hl
  have hT : Same (TCt) x x := Same.rf
  have J2 : ∀ (n0 : Nat) (x_2 : St) (H : Heap) (locs : List Loc) (ls : Array Slot) (y2_1 : Int32), Inv x_2 → Same (TCt) x x_2 → (0 ≤ y2_1.toInt) → (y2_1.toInt ≤ 4) → (∀ j : Nat, j < 4 → (j : Int) < y2_1.toInt → (x_2 (5 + 21 * j + 2) 2).toInt = 0) → (4 - y2_1.toInt).toNat < n0 → va_P D vwCl (WL g x_2) H → va_S (AQ g) s.heap H locs → lv_has ls 2 [(0, .ref (g.1 0)), (1, .int y2_1)] → W p l e ({ frames := 6, cells := 0, slots := 0, locals := 134 } : Room) s m ([.ref (g.1 0)] : List Value).toArray below meth co H locs 0 0 (MQ below (va_Qv (fun x2 => Inv x2 ∧ Same (TCt) x x2 ∧ ∀ j, j < 4 → (x2 (5 + 21 * j + 2) 2).toInt = 0) (WO D g) (AQ g)) ([.ref (g.1 0)] : List Value).toArray s 0 0 (AQ g)) (F0 m 2 ls []) := by
    intro n0
    induction n0 with
    | zero => intro x_2 H locs ls y2_1 hI_2 hT_2 hf2_0 hf2_1 hf2_2 hm_2 hP hS hl; exact absurd hm_2 (Nat.not_lt_zero _)
    | succ n0 ih2 =>
      intro x_2 H locs ls y2_1 hI_2 hT_2 hf2_0 hf2_1 hf2_2 hm_2 hP hS hl
      refine lv_iload_n S.1 S.2.1 dX6_tick_2 rfl (lv_at hl 1 rfl) ?_
      refine w_iconst S dX6_tick_3 (by decide) (fun k1 hk1 => ?_)
      refine w_icmp_ge (tgt := 40) S dX6_tick_4 (by decide) (fun hb2 => ?_) (fun hb2 => ?_)
      · exact w_vret S hr0 hlk hP hS dX6_tick_40 (⟨hI_2, hT_2, fun j hj => hf2_2 j hj (by omega)⟩)
      · refine lv_aload_n S.1 S.2.1 dX6_tick_7 rfl (lv_at hl 0 rfl) ?_
        refine w_get (C := RX6) (T := TX6) (N := 2) S (fun _ h => List.mem_cons_of_mem _ (List.mem_append_left _ (List.mem_append_left _ (List.mem_append_left _ (List.mem_append_left _ (List.mem_append_left _ (List.mem_append_left _ (List.mem_append_right _ h)))))))) hK hP 0 (by decide) (ceK0 _) rfl 1 (by decide) (hts _ (List.mem_of_getElem? (i := 1) rfl)) (v := .ref (g.1 1)) rfl dX6_tick_8 ?_
        refine lv_iload_n S.1 S.2.1 dX6_tick_11 rfl (lv_at hl 1 rfl) ?_
        have h4_3 : y2_1.toInt.toNat < 4 := by omega
        refine w_aald S hK hP (by omega) (by omega) dX6_tick_12 ?_
        refine w_cVv (As := []) (rest := []) S hK hN hP hS hl (5 + 21 * y2_1.toInt.toNat) (by have := h4_3; omega) ((ceP0 h4_3) _) rfl (c_X2_pass l D g hg x_2 hI_2 (y2_1.toInt.toNat) h4_3) (cwV 0 hts gX6_tick_X2_pass rfl rfl rfl (by decide +kernel) ⟨Nat.le_of_ble_eq_true rfl, Nat.le_of_ble_eq_true rfl⟩) rfl rfl (Nat.le_of_ble_eq_true rfl) dX6_tick_13 ⟨Nat.zero_le _, Nat.zero_le _⟩ (fun x4 H locs hq6 hP hS => ?_)
        obtain ⟨hI7, hT8, hf9⟩ := hq6
        have hT10 : Same (TCt) x x4 := hT_2.tr hT8 (fun c0 k0 h => ⟨h.1, fun e => h.2 (by omega)⟩)
        have hz13 : ∀ j : Nat, j < 4 → (j : Int) < y2_1.toInt + 1 → (x4 (5 + 21 * j + 2) 2).toInt = 0 := by
          intro j hj hj2
          by_cases hj3 : j = y2_1.toInt.toNat
          · rw [hj3]; exact hf9.1
          · rw [hT8 _ _ ⟨by unfold TC TrC; omega, by omega⟩]; exact hf2_2 j hj (by omega)
        refine lv_aload_n S.1 S.2.1 dX6_tick_16 rfl (lv_at hl 0 rfl) ?_
        refine w_get (C := RX6) (T := TX6) (N := 2) S (fun _ h => List.mem_cons_of_mem _ (List.mem_append_left _ (List.mem_append_left _ (List.mem_append_left _ (List.mem_append_left _ (List.mem_append_left _ (List.mem_append_left _ (List.mem_append_right _ h)))))))) hK hP 0 (by decide) (ceK0 _) rfl 1 (by decide) (hts _ (List.mem_of_getElem? (i := 1) rfl)) (v := .ref (g.1 1)) rfl dX6_tick_17 ?_
        refine lv_iload_n S.1 S.2.1 dX6_tick_20 rfl (lv_at hl 1 rfl) ?_
        have h4_11 : y2_1.toInt.toNat < 4 := by omega
        refine w_aald S hK hP (by omega) (by omega) dX6_tick_21 ?_
        refine w_cVv (As := []) (rest := []) S hK hN hP hS hl (5 + 21 * y2_1.toInt.toNat) (by have := h4_11; omega) ((ceP0 h4_11) _) rfl (c_X2_letTimePass l D g hg x4 hI7 (y2_1.toInt.toNat) h4_11) (cwV 0 hts gX6_tick_X2_letTimePass rfl rfl rfl (by decide +kernel) ⟨Nat.le_of_ble_eq_true rfl, Nat.le_of_ble_eq_true rfl⟩) rfl rfl (Nat.le_of_ble_eq_true rfl) dX6_tick_22 ⟨Nat.zero_le _, Nat.zero_le _⟩ (fun x12 H locs hq14 hP hS => ?_)
        obtain ⟨hI15, hT16, hf17⟩ := hq14
        have hT18 : Same (TCt) x x12 := hT10.tr hT16 (fun _ _ h => h.1)
        have hz22 : ∀ j : Nat, j < 4 → (j : Int) < y2_1.toInt + 1 → (x12 (5 + 21 * j + 2) 2).toInt = 0 := fun j hj hj2 => by rw [hT16 _ _ (by unfold TC TrC; omega)]; exact hz13 j hj hj2
        refine lv_aload_n S.1 S.2.1 dX6_tick_25 rfl (lv_at hl 0 rfl) ?_
        refine w_get (C := RX6) (T := TX6) (N := 2) S (fun _ h => List.mem_cons_of_mem _ (List.mem_append_left _ (List.mem_append_left _ (List.mem_append_left _ (List.mem_append_left _ (List.mem_append_left _ (List.mem_append_left _ (List.mem_append_right _ h)))))))) hK hP 0 (by decide) (ceK0 _) rfl 1 (by decide) (hts _ (List.mem_of_getElem? (i := 1) rfl)) (v := .ref (g.1 1)) rfl dX6_tick_26 ?_
        refine lv_iload_n S.1 S.2.1 dX6_tick_29 rfl (lv_at hl 1 rfl) ?_
        have h4_19 : y2_1.toInt.toNat < 4 := by omega
        refine w_aald S hK hP (by omega) (by omega) dX6_tick_30 ?_
        refine w_cVv (As := []) (rest := []) S hK hN hP hS hl (5 + 21 * y2_1.toInt.toNat) (by have := h4_19; omega) ((ceP0 h4_19) _) rfl (c_X2_settle l D g hg x12 hI15 (y2_1.toInt.toNat) h4_19) (cwV 0 hts gX6_tick_X2_settle rfl rfl rfl (by decide +kernel) ⟨Nat.le_of_ble_eq_true rfl, Nat.le_of_ble_eq_true rfl⟩) rfl rfl (Nat.le_of_ble_eq_true rfl) dX6_tick_31 ⟨Nat.zero_le _, Nat.zero_le _⟩ (fun x20 H locs hq22 hP hS => ?_)
        obtain ⟨hI23, hT24, hf25⟩ := hq22
        have hT26 : Same (TCt) x x20 := hT18.tr hT24 (fun _ _ h => h.1)
        have hz31 : ∀ j : Nat, j < 4 → (j : Int) < y2_1.toInt + 1 → (x20 (5 + 21 * j + 2) 2).toInt = 0 := fun j hj hj2 => by rw [hT24 _ _ (by unfold TC TrC; omega)]; exact hz22 j hj hj2
        refine w_iinc (lv' := [(0, .ref (g.1 0))]) S dX6_tick_34 hl (k := 1) rfl (by decide) (by decide) (by omega) (by omega) (fun _ => rfl) (fun v27 ls hv27 hl => ?_)
        refine lv_goto (tgt := 2) S.1 S.2.1 dX6_tick_37 (by decide) ?_
        exact ih2 _ _ _ _ v27 hI23 hT26 (by omega) (by omega) (by intro j hj hj2; first | (exfalso; omega) | exact hz31 j hj (by omega)) (by omega) hP hS (lv_sub hl [1, 0] rfl)
  refine w_iconst S dX6_tick_0 (by decide) (fun k28 hk28 => ?_)
  refine lv_istore_n (lv' := [(1, .int k28), (0, .ref (g.1 0))]) S.1 S.2.1 dX6_tick_1 rfl hl (by decide) rfl (fun ls hl => ?_)
  exact J2 _ _ _ _ _ k28 hI hT (by omega) (by omega) (by intro j hj hj2; first | (exfalso; omega) | exact hz31 j hj (by omega)) (Nat.lt_succ_self _) hP hS (lv_sub hl [1, 0] rfl)
