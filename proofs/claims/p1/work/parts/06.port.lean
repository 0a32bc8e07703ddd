set_option maxRecDepth 100000 in
set_option maxHeartbeats 4000000 in
theorem c_X2_isPlain (l : Launch) (D : va_G) (g : GA) (hg : Inj g) (x : St) (hI : Inv x) (a : Int32) : Met l yX2_isPlain wsX2_isPlain ({ frames := 0, cells := 0, slots := 0, locals := 0 } : Room) (va_Pc [.int a] (WI D g x)) (va_Qi (fun r x2 => x2 = x ∧ (0 ≤ r.toInt ∧ r.toInt ≤ 1)) (WO D g) (AQ g)) 0 0 (AQ g) := by
  refine w_met (cc := cX2_isPlain) (maxL := 1) (ret := (some .boolean)) (own := RX2) (by decide) rfl rfl (Nat.le_of_ble_eq_true rfl) (fun p e s m below meth co S hr0 hlk hK hN hP hS ls hl => ?_)
  have hts := S.2.2.2.2
  have hl : lv_has ls 1 [(0, .int a)] := hl
  refine lv_iload_n S.1 S.2.1 dX2_isPlain_0 rfl (lv_at hl 0 rfl) ?_
  refine w_bipush S dX2_isPlain_1 (by decide) (fun k1 hk1 => ?_)
  refine w_icmp_lt (tgt := 16) S dX2_isPlain_3 (by decide) (fun hb2 => ?_) (fun hb2 => ?_)
  · refine w_iconst S dX2_isPlain_16 (by decide) (fun k3 hk3 => ?_)
    exact w_zret S hr0 hlk hP hS dX2_isPlain_17 (z01 (by omega) (by omega)) (⟨rfl, by omega⟩)
  · refine lv_iload_n S.1 S.2.1 dX2_isPlain_6 rfl (lv_at hl 0 rfl) ?_
    refine w_bipush S dX2_isPlain_7 (by decide) (fun k4 hk4 => ?_)
    refine w_icmp_eq (tgt := 16) S dX2_isPlain_9 (by decide) (fun hb5 => ?_) (fun hb5 => ?_)
    · refine w_iconst S dX2_isPlain_16 (by decide) (fun k6 hk6 => ?_)
      exact w_zret S hr0 hlk hP hS dX2_isPlain_17 (z01 (by omega) (by omega)) (⟨rfl, by omega⟩)
    · refine w_iconst S dX2_isPlain_12 (by decide) (fun k7 hk7 => ?_)
      refine lv_goto (tgt := 17) S.1 S.2.1 dX2_isPlain_13 (by decide) ?_
      exact w_zret S hr0 hlk hP hS dX2_isPlain_17 (z01 (by omega) (by omega)) (⟨rfl, by omega⟩)
set_option maxRecDepth 100000 in
set_option maxHeartbeats 4000000 in
theorem c_X2_isOn (l : Launch) (D : va_G) (g : GA) (hg : Inj g) (x : St) (hI : Inv x) (i : Nat) (h4 : i < 4) (a : Int32) (ha : 0 ≤ a.toInt ∧ a.toInt < 25) : Met l yX2_isOn wsX2_isOn ({ frames := 0, cells := 0, slots := 0, locals := 0 } : Room) (va_Pc [.ref (g.1 (5 + 21 * i)), .int a] (WI D g x)) (va_Qi (fun r x2 => x2 = x ∧ (0 ≤ r.toInt ∧ r.toInt ≤ 1)) (WO D g) (AQ g)) 0 0 (AQ g) := by
  refine w_met (cc := cX2_isOn) (maxL := 2) (ret := (some .boolean)) (own := RX2) (by decide) rfl rfl (Nat.le_of_ble_eq_true rfl) (fun p e s m below meth co S hr0 hlk hK hN hP hS ls hl => ?_)
  have hts := S.2.2.2.2
  have hl : lv_has ls 2 [(0, .ref (g.1 (5 + 21 * i))), (1, .int a)] := hl
  refine lv_aload_n S.1 S.2.1 dX2_isOn_0 rfl (lv_at hl 0 rfl) ?_
  refine w_get (C := RX2) (T := TX2) (N := 15) S (fun _ h => List.mem_cons_of_mem _ (List.mem_append_right _ h)) hK hP (5 + 21 * i) (by have := h4; omega) ((ceP0 h4) _) rfl 1 (by decide) (hts _ (List.mem_of_getElem? (i := 1) rfl)) (v := .ref (g.1 (5 + 21 * i + 1))) rfl dX2_isOn_1 ?_
  refine lv_iload_n S.1 S.2.1 dX2_isOn_4 rfl (lv_at hl 1 rfl) ?_
  refine w_iald S hK hP (5 + 21 * i + 1) (by have := h4; omega) (ceP1 h4) (by omega) (by omega) dX2_isOn_5 (fun v1 ev1 => ?_)
  have wv1 : v1.toInt = (x (5 + 21 * i + 1) a.toInt.toNat).toInt := by rw [ev1]
  refine w_iconst S dX2_isOn_6 (by decide) (fun k2 hk2 => ?_)
  refine w_icmp_ne (tgt := 14) S dX2_isOn_7 (by decide) (fun hb3 => ?_) (fun hb3 => ?_)
  · refine w_iconst S dX2_isOn_14 (by decide) (fun k4 hk4 => ?_)
    exact w_zret S hr0 hlk hP hS dX2_isOn_15 (z01 (by omega) (by omega)) (⟨rfl, by omega⟩)
  · refine w_iconst S dX2_isOn_10 (by decide) (fun k5 hk5 => ?_)
    refine lv_goto (tgt := 15) S.1 S.2.1 dX2_isOn_11 (by decide) ?_
    exact w_zret S hr0 hlk hP hS dX2_isOn_15 (z01 (by omega) (by omega)) (⟨rfl, by omega⟩)
set_option maxRecDepth 100000 in
set_option maxHeartbeats 4000000 in
theorem c_X2_urgentByte (l : Launch) (D : va_G) (g : GA) (hg : Inj g) (x : St) (hI : Inv x) (i : Nat) (h4 : i < 4) : Met l yX2_urgentByte wsX2_urgentByte ({ frames := 0, cells := 0, slots := 0, locals := 0 } : Room) (va_Pc [.ref (g.1 (5 + 21 * i))] (WI D g x)) (va_Qi (fun r x2 => x2 = x ∧ ((x (5 + 21 * i) 14).toInt = -1 → r.toInt = 256)) (WO D g) (AQ g)) 0 0 (AQ g) := by
  refine w_met (cc := cX2_urgentByte) (maxL := 1) (ret := (some .int)) (own := RX2) (by decide) rfl rfl (Nat.le_of_ble_eq_true rfl) (fun p e s m below meth co S hr0 hlk hK hN hP hS ls hl => ?_)
  have hts := S.2.2.2.2
  have hl : lv_has ls 1 [(0, .ref (g.1 (5 + 21 * i)))] := hl
  refine lv_aload_n S.1 S.2.1 dX2_urgentByte_0 rfl (lv_at hl 0 rfl) ?_
  refine w_get (C := RX2) (T := TX2) (N := 15) S (fun _ h => List.mem_cons_of_mem _ (List.mem_append_right _ h)) hK hP (5 + 21 * i) (by have := h4; omega) ((ceP0 h4) _) rfl 14 (by decide) (hts _ (List.mem_of_getElem? (i := 1) rfl)) (v := .int (x (5 + 21 * i) 14)) rfl dX2_urgentByte_1 ?_
  refine lv_topi (fun v1 ev1 => ?_)
  have wv1 : v1.toInt = (x (5 + 21 * i) 14).toInt := by rw [ev1]
  have rv1 : (-1 : Int) ≤ v1.toInt ∧ v1.toInt ≤ (24 : Int) := by rw [ev1]; exact hI.atP0 (k := 14) h4
  refine w_iconst S dX2_urgentByte_4 (by decide) (fun k2 hk2 => ?_)
  refine w_icmp_ne (tgt := 14) S dX2_urgentByte_5 (by decide) (fun hb3 => ?_) (fun hb3 => ?_)
  · refine lv_aload_n S.1 S.2.1 dX2_urgentByte_14 rfl (lv_at hl 0 rfl) ?_
    refine w_get (C := RX2) (T := TX2) (N := 15) S (fun _ h => List.mem_cons_of_mem _ (List.mem_append_right _ h)) hK hP (5 + 21 * i) (by have := h4; omega) ((ceP0 h4) _) rfl 1 (by decide) (hts _ (List.mem_of_getElem? (i := 2) rfl)) (v := .ref (g.1 (5 + 21 * i + 1))) rfl dX2_urgentByte_15 ?_
    refine lv_aload_n S.1 S.2.1 dX2_urgentByte_18 rfl (lv_at hl 0 rfl) ?_
    refine w_get (C := RX2) (T := TX2) (N := 15) S (fun _ h => List.mem_cons_of_mem _ (List.mem_append_right _ h)) hK hP (5 + 21 * i) (by have := h4; omega) ((ceP0 h4) _) rfl 14 (by decide) (hts _ (List.mem_of_getElem? (i := 1) rfl)) (v := .int (x (5 + 21 * i) 14)) rfl dX2_urgentByte_19 ?_
    refine lv_topi (fun v4 ev4 => ?_)
    have wv4 : v4.toInt = (x (5 + 21 * i) 14).toInt := by rw [ev4]
    have rv4 : (-1 : Int) ≤ v4.toInt ∧ v4.toInt ≤ (24 : Int) := by rw [ev4]; exact hI.atP0 (k := 14) h4
    refine w_iald S hK hP (5 + 21 * i + 1) (by have := h4; omega) (ceP1 h4) (by omega) (by omega) dX2_urgentByte_22 (fun v5 ev5 => ?_)
    have wv5 : v5.toInt = (x (5 + 21 * i + 1) v4.toInt.toNat).toInt := by rw [ev5]
    exact w_iret S hr0 hlk hP hS dX2_urgentByte_23 (⟨rfl, by omega⟩)
  · refine w_sipush S dX2_urgentByte_8 (by decide) (fun k6 hk6 => ?_)
    refine lv_goto (tgt := 23) S.1 S.2.1 dX2_urgentByte_11 (by decide) ?_
    exact w_iret S hr0 hlk hP hS dX2_urgentByte_23 (⟨rfl, by omega⟩)
set_option maxRecDepth 100000 in
set_option maxHeartbeats 4000000 in
theorem c_X2_isBackground (l : Launch) (D : va_G) (g : GA) (hg : Inj g) (x : St) (hI : Inv x) (i : Nat) (h4 : i < 4) (a : Int32) (ha : 0 ≤ a.toInt ∧ a.toInt < 8) : Met l yX2_isBackground wsX2_isBackground ({ frames := 0, cells := 0, slots := 0, locals := 0 } : Room) (va_Pc [.ref (g.1 (5 + 21 * i)), .int a] (WI D g x)) (va_Qi (fun r x2 => x2 = x ∧ (0 ≤ r.toInt ∧ r.toInt ≤ 1)) (WO D g) (AQ g)) 0 0 (AQ g) := by
  refine w_met (cc := cX2_isBackground) (maxL := 2) (ret := (some .boolean)) (own := RX2) (by decide) rfl rfl (Nat.le_of_ble_eq_true rfl) (fun p e s m below meth co S hr0 hlk hK hN hP hS ls hl => ?_)
  have hts := S.2.2.2.2
  have hl : lv_has ls 2 [(0, .ref (g.1 (5 + 21 * i))), (1, .int a)] := hl
  refine lv_aload_n S.1 S.2.1 dX2_isBackground_0 rfl (lv_at hl 0 rfl) ?_
  refine w_get (C := RX2) (T := TX2) (N := 15) S (fun _ h => List.mem_cons_of_mem _ (List.mem_append_left _ (List.mem_append_right _ h))) hK hP (5 + 21 * i) (by have := h4; omega) ((ceP0 h4) _) rfl 12 (by decide) (hts _ (List.mem_of_getElem? (i := 1) rfl)) (v := .int (x (5 + 21 * i) 12)) rfl dX2_isBackground_1 ?_
  refine lv_topi (fun v1 ev1 => ?_)
  have wv1 : v1.toInt = (x (5 + 21 * i) 12).toInt := by rw [ev1]
  refine w_iconst S dX2_isBackground_4 (by decide) (fun k2 hk2 => ?_)
  refine w_icmp_eq (tgt := 28) S dX2_isBackground_5 (by decide) (fun hb3 => ?_) (fun hb3 => ?_)
  · refine w_iconst S dX2_isBackground_28 (by decide) (fun k4 hk4 => ?_)
    exact w_zret S hr0 hlk hP hS dX2_isBackground_29 (z01 (by omega) (by omega)) (⟨rfl, by omega⟩)
  · refine lv_aload_n S.1 S.2.1 dX2_isBackground_8 rfl (lv_at hl 0 rfl) ?_
    refine w_get (C := RX2) (T := TX2) (N := 15) S (fun _ h => List.mem_cons_of_mem _ (List.mem_append_left _ (List.mem_append_right _ h))) hK hP (5 + 21 * i) (by have := h4; omega) ((ceP0 h4) _) rfl 0 (by decide) (hts _ (List.mem_of_getElem? (i := 2) rfl)) (v := .ref (g.1 2)) rfl dX2_isBackground_9 ?_
    refine w_getN (C := RX0) (T := TX0) (N := 2) S (fun _ h => List.mem_cons_of_mem _ (List.mem_append_right _ h)) hK hP 2 (by decide) (ceK2 _) rfl 0 (by decide) (hN.1 _ (List.mem_of_getElem? (i := 0) rfl)) (v := .ref (g.1 3)) rfl dX2_isBackground_12 ?_
    refine lv_iload_n S.1 S.2.1 dX2_isBackground_15 rfl (lv_at hl 1 rfl) ?_
    refine w_iald S hK hP 3 (by decide) ceK3 (by omega) (by omega) dX2_isBackground_16 (fun v5 ev5 => ?_)
    have wv5 : v5.toInt = (x 3 a.toInt.toNat).toInt := by rw [ev5]
    refine lv_aload_n S.1 S.2.1 dX2_isBackground_17 rfl (lv_at hl 0 rfl) ?_
    refine w_get (C := RX2) (T := TX2) (N := 15) S (fun _ h => List.mem_cons_of_mem _ (List.mem_append_left _ (List.mem_append_right _ h))) hK hP (5 + 21 * i) (by have := h4; omega) ((ceP0 h4) _) rfl 12 (by decide) (hts _ (List.mem_of_getElem? (i := 1) rfl)) (v := .int (x (5 + 21 * i) 12)) rfl dX2_isBackground_18 ?_
    refine lv_topi (fun v6 ev6 => ?_)
    have wv6 : v6.toInt = (x (5 + 21 * i) 12).toInt := by rw [ev6]
    refine w_icmp_eq (tgt := 28) S dX2_isBackground_21 (by decide) (fun hb7 => ?_) (fun hb7 => ?_)
    · refine w_iconst S dX2_isBackground_28 (by decide) (fun k8 hk8 => ?_)
      exact w_zret S hr0 hlk hP hS dX2_isBackground_29 (z01 (by omega) (by omega)) (⟨rfl, by omega⟩)
    · refine w_iconst S dX2_isBackground_24 (by decide) (fun k9 hk9 => ?_)
      refine lv_goto (tgt := 29) S.1 S.2.1 dX2_isBackground_25 (by decide) ?_
      exact w_zret S hr0 hlk hP hS dX2_isBackground_29 (z01 (by omega) (by omega)) (⟨rfl, by omega⟩)
set_option maxRecDepth 100000 in
set_option maxHeartbeats 4000000 in
theorem c_X2_readingWaits (l : Launch) (D : va_G) (g : GA) (hg : Inj g) (x : St) (hI : Inv x) (i : Nat) (h4 : i < 4) (a : Int32) (ha : 0 ≤ a.toInt ∧ a.toInt < 8) : Met l yX2_readingWaits wsX2_readingWaits ({ frames := 1, cells := 0, slots := 0, locals := 21 } : Room) (va_Pc [.ref (g.1 (5 + 21 * i)), .int a] (WI D g x)) (va_Qi (fun r x2 => x2 = x ∧ ((x (5 + 21 * i + 19) a.toInt.toNat).toInt = 0 → r.toInt = 0) ∧ 0 ≤ r.toInt ∧ r.toInt ≤ 1) (WO D g) (AQ g)) 0 0 (AQ g) := by
  refine w_met (cc := cX2_readingWaits) (maxL := 2) (ret := (some .boolean)) (own := RX2) (by decide) rfl rfl (Nat.le_of_ble_eq_true rfl) (fun p e s m below meth co S hr0 hlk hK hN hP hS ls hl => ?_)
  have hts := S.2.2.2.2
  have hl : lv_has ls 2 [(0, .ref (g.1 (5 + 21 * i))), (1, .int a)] := hl
  refine lv_aload_n S.1 S.2.1 dX2_readingWaits_0 rfl (lv_at hl 0 rfl) ?_
  refine w_get (C := RX2) (T := TX2) (N := 15) S (fun _ h => List.mem_cons_of_mem _ (List.mem_append_left _ (List.mem_append_left _ (List.mem_append_right _ h)))) hK hP (5 + 21 * i) (by have := h4; omega) ((ceP0 h4) _) rfl 7 (by decide) (hts _ (List.mem_of_getElem? (i := 1) rfl)) (v := .ref (g.1 (5 + 21 * i + 19))) rfl dX2_readingWaits_1 ?_
  refine lv_iload_n S.1 S.2.1 dX2_readingWaits_4 rfl (lv_at hl 1 rfl) ?_
  refine w_zald S hK hP (5 + 21 * i + 19) (by have := h4; omega) (ceP19 h4) (by omega) (by omega) dX2_readingWaits_5 (fun v1 ev1 => ?_)
  have wv1 : v1.toInt = (x (5 + 21 * i + 19) a.toInt.toNat).toInt := by rw [ev1]
  have rv1 : (0 : Int) ≤ v1.toInt ∧ v1.toInt ≤ (1 : Int) := by rw [ev1]; exact hI.atP (j := 19) (k := _) h4 (by decide)
  refine w_if_eq (tgt := 38) S dX2_readingWaits_6 (by decide) (fun hb2 => ?_) (fun hb2 => ?_)
  · refine w_iconst S dX2_readingWaits_38 (by decide) (fun k3 hk3 => ?_)
    exact w_zret S hr0 hlk hP hS dX2_readingWaits_39 (z01 (by omega) (by omega)) (⟨rfl, by omega, by omega⟩)
  · refine lv_aload_n S.1 S.2.1 dX2_readingWaits_9 rfl (lv_at hl 0 rfl) ?_
    refine lv_iload_n S.1 S.2.1 dX2_readingWaits_10 rfl (lv_at hl 1 rfl) ?_
    refine w_cVi (As := [.int a]) (rest := []) S hK hN hP hS hl (5 + 21 * i) (by have := h4; omega) ((ceP0 h4) _) rfl (c_X2_isBackground l D g hg x hI i h4 a (by omega)) (cwV 1 hts gX2_readingWaits_X2_isBackground rfl rfl rfl (by decide +kernel) ⟨Nat.le_of_ble_eq_true rfl, Nat.le_of_ble_eq_true rfl⟩) rfl rfl (Nat.le_of_ble_eq_true rfl) dX2_readingWaits_11 ⟨Nat.zero_le _, Nat.zero_le _⟩ (fun r5 x4 H locs hq6 hP hS => ?_)
    obtain ⟨ex7, hf8⟩ := hq6
    rw [ex7] at hP
    refine w_if_ne (tgt := 38) S dX2_readingWaits_14 (by decide) (fun hb9 => ?_) (fun hb9 => ?_)
    · refine w_iconst S dX2_readingWaits_38 (by decide) (fun k10 hk10 => ?_)
      exact w_zret S hr0 hlk hP hS dX2_readingWaits_39 (z01 (by omega) (by omega)) (⟨rfl, by omega, by omega⟩)
    · refine lv_aload_n S.1 S.2.1 dX2_readingWaits_17 rfl (lv_at hl 0 rfl) ?_
      refine w_get (C := RX2) (T := TX2) (N := 15) S (fun _ h => List.mem_cons_of_mem _ (List.mem_append_left _ (List.mem_append_left _ (List.mem_append_right _ h)))) hK hP (5 + 21 * i) (by have := h4; omega) ((ceP0 h4) _) rfl 3 (by decide) (hts _ (List.mem_of_getElem? (i := 2) rfl)) (v := .ref (g.1 (5 + 21 * i + 4))) rfl dX2_readingWaits_18 ?_
      refine w_getN (C := RX4) (T := TX4) (N := 3) S (fun _ h => List.mem_cons_of_mem _ (List.mem_append_left _ (List.mem_append_right _ h))) hK hP (5 + 21 * i + 4) (by have := h4; omega) ((ceP4 h4) _) rfl 1 (by decide) (hN.1 _ (List.mem_of_getElem? (i := 8) rfl)) (v := .int (x (5 + 21 * i + 4) 1)) rfl dX2_readingWaits_21 ?_
      refine lv_topi (fun v11 ev11 => ?_)
      have wv11 : v11.toInt = (x (5 + 21 * i + 4) 1).toInt := by rw [ev11]
      refine w_if_ne (tgt := 38) S dX2_readingWaits_24 (by decide) (fun hb12 => ?_) (fun hb12 => ?_)
      · refine w_iconst S dX2_readingWaits_38 (by decide) (fun k13 hk13 => ?_)
        exact w_zret S hr0 hlk hP hS dX2_readingWaits_39 (z01 (by omega) (by omega)) (⟨rfl, by omega, by omega⟩)
      · refine lv_aload_n S.1 S.2.1 dX2_readingWaits_27 rfl (lv_at hl 0 rfl) ?_
        refine w_get (C := RX2) (T := TX2) (N := 15) S (fun _ h => List.mem_cons_of_mem _ (List.mem_append_left _ (List.mem_append_left _ (List.mem_append_right _ h)))) hK hP (5 + 21 * i) (by have := h4; omega) ((ceP0 h4) _) rfl 11 (by decide) (hts _ (List.mem_of_getElem? (i := 3) rfl)) (v := .int (x (5 + 21 * i) 11)) rfl dX2_readingWaits_28 ?_
        refine lv_topi (fun v14 ev14 => ?_)
        have wv14 : v14.toInt = (x (5 + 21 * i) 11).toInt := by rw [ev14]
        have rv14 : (0 : Int) ≤ v14.toInt ∧ v14.toInt ≤ (1 : Int) := by rw [ev14]; exact hI.atP0 (k := 11) h4
        refine w_if_ne (tgt := 38) S dX2_readingWaits_31 (by decide) (fun hb15 => ?_) (fun hb15 => ?_)
        · refine w_iconst S dX2_readingWaits_38 (by decide) (fun k16 hk16 => ?_)
          exact w_zret S hr0 hlk hP hS dX2_readingWaits_39 (z01 (by omega) (by omega)) (⟨rfl, by omega, by omega⟩)
        · refine w_iconst S dX2_readingWaits_34 (by decide) (fun k17 hk17 => ?_)
          refine lv_goto (tgt := 39) S.1 S.2.1 dX2_readingWaits_35 (by decide) ?_
          exact w_zret S hr0 hlk hP hS dX2_readingWaits_39 (z01 (by omega) (by omega)) (⟨rfl, by omega, by omega⟩)
set_option maxRecDepth 100000 in
set_option maxHeartbeats 4000000 in
theorem c_X2_takeFromLine (l : Launch) (D : va_G) (g : GA) (hg : Inj g) (x : St) (hI : Inv x) (i : Nat) (h4 : i < 4) (b : Int32) (fl : Int32) : Met l yX2_takeFromLine wsX2_takeFromLine ({ frames := 1, cells := 0, slots := 0, locals := 22 } : Room) (va_Pc [.ref (g.1 (5 + 21 * i)), .int b, .int fl] (WI D g x)) (va_Qi (fun r x2 => Inv x2 ∧ Same (TCr i) x x2 ∧ ((x (5 + 21 * i + 2) 2).toInt < 8 → r.toInt = 1 ∧ (x2 (5 + 21 * i + 2) 2).toInt = (x (5 + 21 * i + 2) 2).toInt + 1) ∧ ((x (5 + 21 * i + 2) 2).toInt = 8 → r.toInt = 0 ∧ (x2 (5 + 21 * i + 2) 2).toInt = (x (5 + 21 * i + 2) 2).toInt) ∧ 0 ≤ r.toInt ∧ r.toInt ≤ 1) (WO D g) (AQ g)) 0 0 (AQ g) := by
  refine w_met (cc := cX2_takeFromLine) (maxL := 3) (ret := (some .boolean)) (own := RX2) (by decide) rfl rfl (Nat.le_of_ble_eq_true rfl) (fun p e s m below meth co S hr0 hlk hK hN hP hS ls hl => ?_)
  have hts := S.2.2.2.2
  have hl : lv_has ls 3 [(0, .ref (g.1 (5 + 21 * i))), (1, .int b), (2, .int fl)] := hl
  have hT : Same (TCr i) x x := Same.rf
  refine lv_aload_n S.1 S.2.1 dX2_takeFromLine_0 rfl (lv_at hl 0 rfl) ?_
  refine w_get (C := RX2) (T := TX2) (N := 15) S (fun _ h => List.mem_cons_of_mem _ (List.mem_append_left _ (List.mem_append_right _ h))) hK hP (5 + 21 * i) (by have := h4; omega) ((ceP0 h4) _) rfl 2 (by decide) (hts _ (List.mem_of_getElem? (i := 1) rfl)) (v := .ref (g.1 (5 + 21 * i + 2))) rfl dX2_takeFromLine_1 ?_
  refine w_iconst S dX2_takeFromLine_4 (by decide) (fun k1 hk1 => ?_)
  refine w_cVi (As := [.int k1]) (rest := []) S hK hN hP hS hl (5 + 21 * i + 2) (by have := h4; omega) ((ceP2 h4) _) rfl (c_X3_fits l D g hg x hI (5 + 21 * i + 2) 8 (isRow2 h4) k1) (cwV 1 hts gX2_takeFromLine_X3_fits rfl rfl rfl (by decide +kernel) ⟨Nat.le_of_ble_eq_true rfl, Nat.le_of_ble_eq_true rfl⟩) rfl rfl (Nat.le_of_ble_eq_true rfl) dX2_takeFromLine_5 ⟨Nat.zero_le _, Nat.zero_le _⟩ (fun r3 x2 H locs hq4 hP hS => ?_)
  obtain ⟨ex5, hf6⟩ := hq4
  rw [ex5] at hP
  refine w_if_ne (tgt := 23) S dX2_takeFromLine_8 (by decide) (fun hb7 => ?_) (fun hb7 => ?_)
  · refine lv_aload_n S.1 S.2.1 dX2_takeFromLine_23 rfl (lv_at hl 0 rfl) ?_
    refine w_get (C := RX2) (T := TX2) (N := 15) S (fun _ h => List.mem_cons_of_mem _ (List.mem_append_left _ (List.mem_append_right _ h))) hK hP (5 + 21 * i) (by have := h4; omega) ((ceP0 h4) _) rfl 2 (by decide) (hts _ (List.mem_of_getElem? (i := 1) rfl)) (v := .ref (g.1 (5 + 21 * i + 2))) rfl dX2_takeFromLine_24 ?_
    refine lv_iload_n S.1 S.2.1 dX2_takeFromLine_27 rfl (lv_at hl 2 rfl) ?_
    refine w_bipush S dX2_takeFromLine_28 (by decide) (fun k8 hk8 => ?_)
    refine lv_ishl S.1 S.2.1 dX2_takeFromLine_30 ?_
    refine w_any1 (fun v9 => ?_)
    refine lv_iload_n S.1 S.2.1 dX2_takeFromLine_31 rfl (lv_at hl 1 rfl) ?_
    refine lv_ior S.1 S.2.1 dX2_takeFromLine_32 ?_
    refine w_any1 (fun v10 => ?_)
    refine w_cVv (As := [.int v10]) (rest := []) S hK hN hP hS hl (5 + 21 * i + 2) (by have := h4; omega) ((ceP2 h4) _) rfl (c_X3_add l D g hg x hI (5 + 21 * i + 2) 8 (isRow2 h4) v10) (cwV 1 hts gX2_takeFromLine_X3_add rfl rfl rfl (by decide +kernel) ⟨Nat.le_of_ble_eq_true rfl, Nat.le_of_ble_eq_true rfl⟩) rfl rfl (Nat.le_of_ble_eq_true rfl) dX2_takeFromLine_33 ⟨Nat.zero_le _, Nat.zero_le _⟩ (fun x11 H locs hq13 hP hS => ?_)
    obtain ⟨hI14, hT15, hf16⟩ := hq13
    have hT17 : Same (TCr i) x x11 := hT.tr hT15 (fun c0 k0 h => by unfold TCr TC TrC at h; unfold TR; omega)
    refine lv_aload_n S.1 S.2.1 dX2_takeFromLine_36 rfl (lv_at hl 0 rfl) ?_
    refine w_get (C := RX2) (T := TX2) (N := 15) S (fun _ h => List.mem_cons_of_mem _ (List.mem_append_left _ (List.mem_append_right _ h))) hK hP (5 + 21 * i) (by have := h4; omega) ((ceP0 h4) _) rfl 8 (by decide) (hts _ (List.mem_of_getElem? (i := 2) rfl)) (v := .ref (g.1 (5 + 21 * i + 20))) rfl dX2_takeFromLine_37 ?_
    refine w_iconst S dX2_takeFromLine_40 (by decide) (fun k18 hk18 => ?_)
    refine lv_dup2_11 S.1 S.2.1 dX2_takeFromLine_41 rfl rfl ?_
    refine w_iald S hK hP (5 + 21 * i + 20) (by have := h4; omega) (ceP20 h4) (by omega) (by omega) dX2_takeFromLine_42 (fun v19 ev19 => ?_)
    have wv19 : v19.toInt = (x11 (5 + 21 * i + 20) k18.toInt.toNat).toInt := by rw [ev19]
    refine w_iconst S dX2_takeFromLine_43 (by decide) (fun k20 hk20 => ?_)
    refine lv_iadd S.1 S.2.1 dX2_takeFromLine_44 ?_
    refine w_any1 (fun v21 => ?_)
    refine w_iast S hK hg hP hS (5 + 21 * i + 20) (by have := h4; omega) (ceP20 h4) (by omega) (by omega) dX2_takeFromLine_45 (fun x22 H locs ex22 hP hS => ?_)
    have hI23 : Inv x22 := by rw [ex22]; exact hI14.upP (j := 20) h4 (by decide) (i_ge _) (i_le _)
    have hT24 : Same (TCr i) x x22 := by rw [ex22]; exact hT17.up (by unfold TCr TC TrC; omega)
    have u25 : (x22 (5 + 21 * i + 2) 2).toInt = (x11 (5 + 21 * i + 2) 2).toInt := by rw [ex22, up2_ne _ _ (by omega)]
    refine w_iconst S dX2_takeFromLine_46 (by decide) (fun k26 hk26 => ?_)
    exact w_zret S hr0 hlk hP hS dX2_takeFromLine_47 (z01 (by omega) (by omega)) (⟨hI23, hT24, by omega, by omega, by omega⟩)
  · refine lv_aload_n S.1 S.2.1 dX2_takeFromLine_11 rfl (lv_at hl 0 rfl) ?_
    refine w_get (C := RX2) (T := TX2) (N := 15) S (fun _ h => List.mem_cons_of_mem _ (List.mem_append_left _ (List.mem_append_right _ h))) hK hP (5 + 21 * i) (by have := h4; omega) ((ceP0 h4) _) rfl 8 (by decide) (hts _ (List.mem_of_getElem? (i := 2) rfl)) (v := .ref (g.1 (5 + 21 * i + 20))) rfl dX2_takeFromLine_12 ?_
    refine w_iconst S dX2_takeFromLine_15 (by decide) (fun k27 hk27 => ?_)
    refine lv_dup2_11 S.1 S.2.1 dX2_takeFromLine_16 rfl rfl ?_
    refine w_iald S hK hP (5 + 21 * i + 20) (by have := h4; omega) (ceP20 h4) (by omega) (by omega) dX2_takeFromLine_17 (fun v28 ev28 => ?_)
    have wv28 : v28.toInt = (x (5 + 21 * i + 20) k27.toInt.toNat).toInt := by rw [ev28]
    refine w_iconst S dX2_takeFromLine_18 (by decide) (fun k29 hk29 => ?_)
    refine lv_iadd S.1 S.2.1 dX2_takeFromLine_19 ?_
    refine w_any1 (fun v30 => ?_)
    refine w_iast S hK hg hP hS (5 + 21 * i + 20) (by have := h4; omega) (ceP20 h4) (by omega) (by omega) dX2_takeFromLine_20 (fun x31 H locs ex31 hP hS => ?_)
    have hI32 : Inv x31 := by rw [ex31]; exact hI.upP (j := 20) h4 (by decide) (i_ge _) (i_le _)
    have hT33 : Same (TCr i) x x31 := by rw [ex31]; exact hT.up (by unfold TCr TC TrC; omega)
    have u34 : (x31 (5 + 21 * i + 2) 2).toInt = (x (5 + 21 * i + 2) 2).toInt := by rw [ex31, up2_ne _ _ (by omega)]
    refine w_iconst S dX2_takeFromLine_21 (by decide) (fun k35 hk35 => ?_)
    exact w_zret S hr0 hlk hP hS dX2_takeFromLine_22 (z01 (by omega) (by omega)) (⟨hI32, hT33, by omega, by omega, by omega⟩)
set_option maxRecDepth 100000 in
set_option maxHeartbeats 4000000 in
theorem c_X2_giveToLine (l : Launch) (D : va_G) (g : GA) (hg : Inj g) (x : St) (hI : Inv x) (i : Nat) (h4 : i < 4) : Met l yX2_giveToLine wsX2_giveToLine ({ frames := 2, cells := 0, slots := 0, locals := 42 } : Room) (va_Pc [.ref (g.1 (5 + 21 * i))] (WI D g x)) (va_Qi (fun r x2 => Inv x2 ∧ Same TC x x2 ∧ ((x (5 + 21 * i) 14).toInt = -1 → (x (5 + 21 * i + 10) 2).toInt = 0 → r.toInt = -1)) (WO D g) (AQ g)) 0 0 (AQ g) := by
  refine w_met (cc := cX2_giveToLine) (maxL := 2) (ret := (some .int)) (own := RX2) (by decide) rfl rfl (Nat.le_of_ble_eq_true rfl) (fun p e s m below meth co S hr0 hlk hK hN hP hS ls hl => ?_)
  have hts := S.2.2.2.2
  have hl : lv_has ls 2 [(0, .ref (g.1 (5 + 21 * i)))] := hl
  have hT : Same (TC) x x := Same.rf
  refine lv_aload_n S.1 S.2.1 dX2_giveToLine_0 rfl (lv_at hl 0 rfl) ?_
  refine w_cVi (As := []) (rest := []) S hK hN hP hS hl (5 + 21 * i) (by have := h4; omega) ((ceP0 h4) _) rfl (c_X2_urgentByte l D g hg x hI i h4) (cwV 0 hts gX2_giveToLine_X2_urgentByte rfl rfl rfl (by decide +kernel) ⟨Nat.le_of_ble_eq_true rfl, Nat.le_of_ble_eq_true rfl⟩) rfl rfl (Nat.le_of_ble_eq_true rfl) dX2_giveToLine_1 ⟨Nat.zero_le _, Nat.zero_le _⟩ (fun r2 x1 H locs hq3 hP hS => ?_)
  obtain ⟨ex4, hf5⟩ := hq3
  rw [ex4] at hP
  refine lv_istore_n (lv' := [(1, .int r2), (0, .ref (g.1 (5 + 21 * i)))]) S.1 S.2.1 dX2_giveToLine_4 rfl hl (by decide) rfl (fun ls hl => ?_)
  refine lv_aload_n S.1 S.2.1 dX2_giveToLine_5 rfl (lv_at hl 1 rfl) ?_
  refine w_iconst S dX2_giveToLine_6 (by decide) (fun k6 hk6 => ?_)
  refine w_put (C := RX2) (T := TX2) (N := 15) (F := FPort g (5 + 21 * i)) S (fun _ h => List.mem_cons_of_mem _ (List.mem_append_left _ (List.mem_append_left _ (List.mem_append_left _ (List.mem_append_right _ h))))) tyX2_ok nmX2 hK hg hP hS (5 + 21 * i) (by have := h4; omega) (ceP0 h4) rfl 14 (by decide) (hts _ (List.mem_of_getElem? (i := 1) rfl)) rfl rfl rfl (fun _ => Nat.le_of_ble_eq_true rfl) (fun _ => rfl) dX2_giveToLine_7 (fun x7 H locs ex7 hP hS => ?_)
  have hI8 : Inv x7 := by rw [ex7]; exact hI.upP0 h4 (show (-1 : Int) ≤ _ by omega) (show _ ≤ (24 : Int) by omega)
  have hT9 : Same (TC) x x7 := by rw [ex7]; exact hT.up (by unfold TC TrC; omega)
  have u10 : (x7 (5 + 21 * i + 10) 2).toInt = (x (5 + 21 * i + 10) 2).toInt := by rw [ex7, up2_ne _ _ (by omega)]
  refine lv_iload_n S.1 S.2.1 dX2_giveToLine_10 rfl (lv_at hl 0 rfl) ?_
  refine w_sipush S dX2_giveToLine_11 (by decide) (fun k11 hk11 => ?_)
  refine w_icmp_ne (tgt := 39) S dX2_giveToLine_14 (by decide) (fun hb12 => ?_) (fun hb12 => ?_)
  · refine lv_aload_n S.1 S.2.1 dX2_giveToLine_39 rfl (lv_at hl 1 rfl) ?_
    refine w_get (C := RX2) (T := TX2) (N := 15) S (fun _ h => List.mem_cons_of_mem _ (List.mem_append_left _ (List.mem_append_left _ (List.mem_append_left _ (List.mem_append_right _ h))))) hK hP (5 + 21 * i) (by have := h4; omega) ((ceP0 h4) _) rfl 8 (by decide) (hts _ (List.mem_of_getElem? (i := 4) rfl)) (v := .ref (g.1 (5 + 21 * i + 20))) rfl dX2_giveToLine_40 ?_
    refine w_iconst S dX2_giveToLine_43 (by decide) (fun k13 hk13 => ?_)
    refine lv_dup2_11 S.1 S.2.1 dX2_giveToLine_44 rfl rfl ?_
    refine w_iald S hK hP (5 + 21 * i + 20) (by have := h4; omega) (ceP20 h4) (by omega) (by omega) dX2_giveToLine_45 (fun v14 ev14 => ?_)
    have wv14 : v14.toInt = (x7 (5 + 21 * i + 20) k13.toInt.toNat).toInt := by rw [ev14]
    refine w_iconst S dX2_giveToLine_46 (by decide) (fun k15 hk15 => ?_)
    refine lv_iadd S.1 S.2.1 dX2_giveToLine_47 ?_
    refine w_any1 (fun v16 => ?_)
    refine w_iast S hK hg hP hS (5 + 21 * i + 20) (by have := h4; omega) (ceP20 h4) (by omega) (by omega) dX2_giveToLine_48 (fun x17 H locs ex17 hP hS => ?_)
    have hI18 : Inv x17 := by rw [ex17]; exact hI8.upP (j := 20) h4 (by decide) (i_ge _) (i_le _)
    have hT19 : Same (TC) x x17 := by rw [ex17]; exact hT9.up (by unfold TC TrC; omega)
    have u20 : (x17 (5 + 21 * i + 10) 2).toInt = (x7 (5 + 21 * i + 10) 2).toInt := by rw [ex17, up2_ne _ _ (by omega)]
    refine lv_iload_n S.1 S.2.1 dX2_giveToLine_49 rfl (lv_at hl 0 rfl) ?_
    exact w_iret S hr0 hlk hP hS dX2_giveToLine_50 (⟨hI18, hT19, by omega⟩)
  · refine lv_aload_n S.1 S.2.1 dX2_giveToLine_17 rfl (lv_at hl 1 rfl) ?_
    refine w_get (C := RX2) (T := TX2) (N := 15) S (fun _ h => List.mem_cons_of_mem _ (List.mem_append_left _ (List.mem_append_left _ (List.mem_append_left _ (List.mem_append_right _ h))))) hK hP (5 + 21 * i) (by have := h4; omega) ((ceP0 h4) _) rfl 4 (by decide) (hts _ (List.mem_of_getElem? (i := 2) rfl)) (v := .ref (g.1 (5 + 21 * i + 7))) rfl dX2_giveToLine_18 ?_
    refine w_cVi (As := []) (rest := []) S hK hN hP hS hl (5 + 21 * i + 7) (by have := h4; omega) ((ceP7 h4) _) rfl (c_X1_takeFromSender l D g hg x7 hI8 i h4) (cwV 0 hts gX2_giveToLine_X1_takeFromSender rfl rfl rfl (by decide +kernel) ⟨Nat.le_of_ble_eq_true rfl, Nat.le_of_ble_eq_true rfl⟩) rfl rfl (Nat.le_of_ble_eq_true rfl) dX2_giveToLine_21 ⟨Nat.zero_le _, Nat.zero_le _⟩ (fun r22 x21 H locs hq23 hP hS => ?_)
    obtain ⟨hI24, hT25, hf26⟩ := hq23
    have hT27 : Same (TC) x x21 := hT9.tr hT25 (fun _ _ h => h)
    refine lv_istore_n (lv' := [(1, .int r22), (0, .ref (g.1 (5 + 21 * i)))]) S.1 S.2.1 dX2_giveToLine_24 rfl hl (by decide) rfl (fun ls hl => ?_)
    refine lv_iload_n S.1 S.2.1 dX2_giveToLine_25 rfl (lv_at hl 0 rfl) ?_
    refine w_iconst S dX2_giveToLine_26 (by decide) (fun k28 hk28 => ?_)
    refine w_icmp_ne (tgt := 32) S dX2_giveToLine_27 (by decide) (fun hb29 => ?_) (fun hb29 => ?_)
    · refine lv_aload_n S.1 S.2.1 dX2_giveToLine_32 rfl (lv_at hl 1 rfl) ?_
      refine w_get (C := RX2) (T := TX2) (N := 15) S (fun _ h => List.mem_cons_of_mem _ (List.mem_append_left _ (List.mem_append_left _ (List.mem_append_left _ (List.mem_append_right _ h))))) hK hP (5 + 21 * i) (by have := h4; omega) ((ceP0 h4) _) rfl 5 (by decide) (hts _ (List.mem_of_getElem? (i := 3) rfl)) (v := .ref (g.1 (5 + 21 * i + 12))) rfl dX2_giveToLine_33 ?_
      refine w_cVv (As := []) (rest := []) S hK hN hP hS hl (5 + 21 * i + 12) (by have := h4; omega) ((ceP12 h4) _) rfl (c_X5_byteHasGone l D g hg x21 hI24 i h4) (cwV 0 hts gX2_giveToLine_X5_byteHasGone rfl rfl rfl (by decide +kernel) ⟨Nat.le_of_ble_eq_true rfl, Nat.le_of_ble_eq_true rfl⟩) rfl rfl (Nat.le_of_ble_eq_true rfl) dX2_giveToLine_36 ⟨Nat.zero_le _, Nat.zero_le _⟩ (fun x30 H locs hq32 hP hS => ?_)
      obtain ⟨hI33, hT34, hf35⟩ := hq32
      have hT36 : Same (TC) x x30 := hT27.tr hT34 (fun _ _ h => h)
      refine lv_aload_n S.1 S.2.1 dX2_giveToLine_39 rfl (lv_at hl 1 rfl) ?_
      refine w_get (C := RX2) (T := TX2) (N := 15) S (fun _ h => List.mem_cons_of_mem _ (List.mem_append_left _ (List.mem_append_left _ (List.mem_append_left _ (List.mem_append_right _ h))))) hK hP (5 + 21 * i) (by have := h4; omega) ((ceP0 h4) _) rfl 8 (by decide) (hts _ (List.mem_of_getElem? (i := 4) rfl)) (v := .ref (g.1 (5 + 21 * i + 20))) rfl dX2_giveToLine_40 ?_
      refine w_iconst S dX2_giveToLine_43 (by decide) (fun k37 hk37 => ?_)
      refine lv_dup2_11 S.1 S.2.1 dX2_giveToLine_44 rfl rfl ?_
      refine w_iald S hK hP (5 + 21 * i + 20) (by have := h4; omega) (ceP20 h4) (by omega) (by omega) dX2_giveToLine_45 (fun v38 ev38 => ?_)
      have wv38 : v38.toInt = (x30 (5 + 21 * i + 20) k37.toInt.toNat).toInt := by rw [ev38]
      refine w_iconst S dX2_giveToLine_46 (by decide) (fun k39 hk39 => ?_)
      refine lv_iadd S.1 S.2.1 dX2_giveToLine_47 ?_
      refine w_any1 (fun v40 => ?_)
      refine w_iast S hK hg hP hS (5 + 21 * i + 20) (by have := h4; omega) (ceP20 h4) (by omega) (by omega) dX2_giveToLine_48 (fun x41 H locs ex41 hP hS => ?_)
      have hI42 : Inv x41 := by rw [ex41]; exact hI33.upP (j := 20) h4 (by decide) (i_ge _) (i_le _)
      have hT43 : Same (TC) x x41 := by rw [ex41]; exact hT36.up (by unfold TC TrC; omega)
      have u44 : (x41 (5 + 21 * i + 10) 2).toInt = (x30 (5 + 21 * i + 10) 2).toInt := by rw [ex41, up2_ne _ _ (by omega)]
      refine lv_iload_n S.1 S.2.1 dX2_giveToLine_49 rfl (lv_at hl 0 rfl) ?_
      exact w_iret S hr0 hlk hP hS dX2_giveToLine_50 (⟨hI42, hT43, by omega⟩)
    · refine w_iconst S dX2_giveToLine_30 (by decide) (fun k45 hk45 => ?_)
      exact w_iret S hr0 hlk hP hS dX2_giveToLine_31 (⟨hI24, hT27, by omega⟩)
set_option maxRecDepth 100000 in
set_option maxHeartbeats 4000000 in
theorem c_X2_relax (l : Launch) (D : va_G) (g : GA) (hg : Inj g) (x : St) (hI : Inv x) (i : Nat) (h4 : i < 4) : Met l yX2_relax wsX2_relax ({ frames := 0, cells := 0, slots := 0, locals := 0 } : Room) (va_Pc [.ref (g.1 (5 + 21 * i))] (WI D g x)) (va_Qv (fun x2 => Inv x2 ∧ Same TC x x2 ∧ True) (WO D g) (AQ g)) 0 0 (AQ g) := by
  refine w_met (cc := cX2_relax) (maxL := 1) (ret := none) (own := RX2) (by decide) rfl rfl (Nat.le_of_ble_eq_true rfl) (fun p e s m below meth co S hr0 hlk hK hN hP hS ls hl => ?_)
  have hts := S.2.2.2.2
  have hl : lv_has ls 1 [(0, .ref (g.1 (5 + 21 * i)))] := hl
  have hT : Same (TC) x x := Same.rf
  refine lv_aload_n S.1 S.2.1 dX2_relax_0 rfl (lv_at hl 0 rfl) ?_
  refine w_get (C := RX2) (T := TX2) (N := 15) S (fun _ h => List.mem_cons_of_mem _ (List.mem_append_left _ (List.mem_append_left _ (List.mem_append_right _ h)))) hK hP (5 + 21 * i) (by have := h4; omega) ((ceP0 h4) _) rfl 13 (by decide) (hts _ (List.mem_of_getElem? (i := 1) rfl)) (v := .int (x (5 + 21 * i) 13)) rfl dX2_relax_1 ?_
  refine lv_topi (fun v1 ev1 => ?_)
  have wv1 : v1.toInt = (x (5 + 21 * i) 13).toInt := by rw [ev1]
  have rv1 : (0 : Int) ≤ v1.toInt ∧ v1.toInt ≤ (1 : Int) := by rw [ev1]; exact hI.atP0 (k := 13) h4
  refine w_if_eq (tgt := 33) S dX2_relax_4 (by decide) (fun hb2 => ?_) (fun hb2 => ?_)
  · exact w_vret S hr0 hlk hP hS dX2_relax_33 (⟨hI, hT, trivial⟩)
  · refine lv_aload_n S.1 S.2.1 dX2_relax_7 rfl (lv_at hl 0 rfl) ?_
    refine w_get (C := RX2) (T := TX2) (N := 15) S (fun _ h => List.mem_cons_of_mem _ (List.mem_append_left _ (List.mem_append_left _ (List.mem_append_right _ h)))) hK hP (5 + 21 * i) (by have := h4; omega) ((ceP0 h4) _) rfl 3 (by decide) (hts _ (List.mem_of_getElem? (i := 2) rfl)) (v := .ref (g.1 (5 + 21 * i + 4))) rfl dX2_relax_8 ?_
    refine w_getN (C := RX4) (T := TX4) (N := 3) S (fun _ h => List.mem_cons_of_mem _ (List.mem_append_left _ (List.mem_append_right _ h))) hK hP (5 + 21 * i + 4) (by have := h4; omega) ((ceP4 h4) _) rfl 0 (by decide) (hN.1 _ (List.mem_of_getElem? (i := 7) rfl)) (v := .ref (g.1 (5 + 21 * i + 5))) rfl dX2_relax_11 ?_
    refine w_getN (C := RX3) (T := TX3) (N := 3) S (fun _ h => List.mem_cons_of_mem _ (List.mem_append_right _ h)) hK hP (5 + 21 * i + 5) (by have := h4; omega) ((ceP5 h4) _) rfl 2 (by decide) (hN.1 _ (List.mem_of_getElem? (i := 6) rfl)) (v := .int (x (5 + 21 * i + 5) 2)) rfl dX2_relax_14 ?_
    refine lv_topi (fun v3 ev3 => ?_)
    have wv3 : v3.toInt = (x (5 + 21 * i + 5) 2).toInt := by rw [ev3]
    have rv3 : (0 : Int) ≤ v3.toInt ∧ v3.toInt ≤ (65 : Int) := by rw [ev3]; exact hI.atP (j := 5) (k := 2) h4 (by decide)
    refine w_bipush S dX2_relax_17 (by decide) (fun k4 hk4 => ?_)
    refine w_icmp_gt (tgt := 33) S dX2_relax_19 (by decide) (fun hb5 => ?_) (fun hb5 => ?_)
    · exact w_vret S hr0 hlk hP hS dX2_relax_33 (⟨hI, hT, trivial⟩)
    · refine lv_aload_n S.1 S.2.1 dX2_relax_22 rfl (lv_at hl 0 rfl) ?_
      refine w_iconst S dX2_relax_23 (by decide) (fun k6 hk6 => ?_)
      refine w_put (C := RX2) (T := TX2) (N := 15) (F := FPort g (5 + 21 * i)) S (fun _ h => List.mem_cons_of_mem _ (List.mem_append_left _ (List.mem_append_left _ (List.mem_append_right _ h)))) tyX2_ok nmX2 hK hg hP hS (5 + 21 * i) (by have := h4; omega) (ceP0 h4) rfl 13 (by decide) (hts _ (List.mem_of_getElem? (i := 1) rfl)) rfl (tz_narrow (z01 (by omega) (by omega))) (tz_fits (z01 (by omega) (by omega))) (fun _ => Nat.le_of_ble_eq_true rfl) (fun _ => rfl) dX2_relax_24 (fun x7 H locs ex7 hP hS => ?_)
      have hI8 : Inv x7 := by rw [ex7]; exact hI.upP0 h4 (show (0 : Int) ≤ _ by omega) (show _ ≤ (1 : Int) by omega)
      have hT9 : Same (TC) x x7 := by rw [ex7]; exact hT.up (by unfold TC TrC; omega)
      refine lv_aload_n S.1 S.2.1 dX2_relax_27 rfl (lv_at hl 0 rfl) ?_
      refine w_bipush S dX2_relax_28 (by decide) (fun k10 hk10 => ?_)
      refine w_put (C := RX2) (T := TX2) (N := 15) (F := FPort g (5 + 21 * i)) S (fun _ h => List.mem_cons_of_mem _ (List.mem_append_left _ (List.mem_append_left _ (List.mem_append_right _ h)))) tyX2_ok nmX2 hK hg hP hS (5 + 21 * i) (by have := h4; omega) (ceP0 h4) rfl 14 (by decide) (hts _ (List.mem_of_getElem? (i := 3) rfl)) rfl rfl rfl (fun _ => Nat.le_of_ble_eq_true rfl) (fun _ => rfl) dX2_relax_30 (fun x11 H locs ex11 hP hS => ?_)
      have hI12 : Inv x11 := by rw [ex11]; exact hI8.upP0 h4 (show (-1 : Int) ≤ _ by omega) (show _ ≤ (24 : Int) by omega)
      have hT13 : Same (TC) x x11 := by rw [ex11]; exact hT9.up (by unfold TC TrC; omega)
      exact w_vret S hr0 hlk hP hS dX2_relax_33 (⟨hI12, hT13, trivial⟩)
set_option maxRecDepth 100000 in
set_option maxHeartbeats 4000000 in
theorem c_X2_emptyStore (l : Launch) (D : va_G) (g : GA) (hg : Inj g) (x : St) (hI : Inv x) (i : Nat) (h4 : i < 4) : Met l yX2_emptyStore wsX2_emptyStore ({ frames := 2, cells := 0, slots := 0, locals := 40 } : Room) (va_Pc [.ref (g.1 (5 + 21 * i))] (WI D g x)) (va_Qv (fun x2 => Inv x2 ∧ Same TC x x2 ∧ True) (WO D g) (AQ g)) 0 0 (AQ g) := by
  refine w_met (cc := cX2_emptyStore) (maxL := 1) (ret := none) (own := RX2) (by decide) rfl rfl (Nat.le_of_ble_eq_true rfl) (fun p e s m below meth co S hr0 hlk hK hN hP hS ls hl => ?_)
  have hts := S.2.2.2.2
  have hl : lv_has ls 1 [(0, .ref (g.1 (5 + 21 * i)))] := hl
  have hT : Same (TC) x x := Same.rf
  refine lv_aload_n S.1 S.2.1 dX2_emptyStore_0 rfl (lv_at hl 0 rfl) ?_
  refine w_get (C := RX2) (T := TX2) (N := 15) S (fun _ h => List.mem_cons_of_mem _ (List.mem_append_left _ (List.mem_append_left _ (List.mem_append_right _ h)))) hK hP (5 + 21 * i) (by have := h4; omega) ((ceP0 h4) _) rfl 3 (by decide) (hts _ (List.mem_of_getElem? (i := 1) rfl)) (v := .ref (g.1 (5 + 21 * i + 4))) rfl dX2_emptyStore_1 ?_
  refine w_cVv (As := []) (rest := []) S hK hN hP hS hl (5 + 21 * i + 4) (by have := h4; omega) ((ceP4 h4) _) rfl (c_X4_empty l D g hg x hI i h4) (cwV 0 hts gX2_emptyStore_X4_empty rfl rfl rfl (by decide +kernel) ⟨Nat.le_of_ble_eq_true rfl, Nat.le_of_ble_eq_true rfl⟩) rfl rfl (Nat.le_of_ble_eq_true rfl) dX2_emptyStore_4 ⟨Nat.zero_le _, Nat.zero_le _⟩ (fun x1 H locs hq3 hP hS => ?_)
  obtain ⟨hI4, hT5, hf6⟩ := hq3
  have hT7 : Same (TC) x x1 := hT.tr hT5 (fun _ _ h => h)
  refine lv_aload_n S.1 S.2.1 dX2_emptyStore_7 rfl (lv_at hl 0 rfl) ?_
  refine w_cVv (As := []) (rest := []) S hK hN hP hS hl (5 + 21 * i) (by have := h4; omega) ((ceP0 h4) _) rfl (c_X2_relax l D g hg x1 hI4 i h4) (cwV 0 hts gX2_emptyStore_X2_relax rfl rfl rfl (by decide +kernel) ⟨Nat.le_of_ble_eq_true rfl, Nat.le_of_ble_eq_true rfl⟩) rfl rfl (Nat.le_of_ble_eq_true rfl) dX2_emptyStore_8 ⟨Nat.zero_le _, Nat.zero_le _⟩ (fun x8 H locs hq10 hP hS => ?_)
  obtain ⟨hI11, hT12, hf13⟩ := hq10
  have hT14 : Same (TC) x x8 := hT7.tr hT12 (fun _ _ h => h)
  exact w_vret S hr0 hlk hP hS dX2_emptyStore_11 (⟨hI11, hT14, trivial⟩)
set_option maxRecDepth 100000 in
set_option maxHeartbeats 4000000 in
theorem c_X2_releaseIfEnough (l : Launch) (D : va_G) (g : GA) (hg : Inj g) (x : St) (hI : Inv x) (i : Nat) (h4 : i < 4) : Met l yX2_releaseIfEnough wsX2_releaseIfEnough ({ frames := 1, cells := 0, slots := 0, locals := 21 } : Room) (va_Pc [.ref (g.1 (5 + 21 * i))] (WI D g x)) (va_Qv (fun x2 => Inv x2 ∧ Same TC x x2 ∧ True) (WO D g) (AQ g)) 0 0 (AQ g) := by
  refine w_met (cc := cX2_releaseIfEnough) (maxL := 1) (ret := none) (own := RX2) (by decide) rfl rfl (Nat.le_of_ble_eq_true rfl) (fun p e s m below meth co S hr0 hlk hK hN hP hS ls hl => ?_)
  have hts := S.2.2.2.2
  have hl : lv_has ls 1 [(0, .ref (g.1 (5 + 21 * i)))] := hl
  have hT : Same (TC) x x := Same.rf
  refine lv_aload_n S.1 S.2.1 dX2_releaseIfEnough_0 rfl (lv_at hl 0 rfl) ?_
  refine w_iconst S dX2_releaseIfEnough_1 (by decide) (fun k1 hk1 => ?_)
  refine w_cVi (As := [.int k1]) (rest := []) S hK hN hP hS hl (5 + 21 * i) (by have := h4; omega) ((ceP0 h4) _) rfl (c_X2_isOn l D g hg x hI i h4 k1 (by omega)) (cwV 1 hts gX2_releaseIfEnough_X2_isOn rfl rfl rfl (by decide +kernel) ⟨Nat.le_of_ble_eq_true rfl, Nat.le_of_ble_eq_true rfl⟩) rfl rfl (Nat.le_of_ble_eq_true rfl) dX2_releaseIfEnough_2 ⟨Nat.zero_le _, Nat.zero_le _⟩ (fun r3 x2 H locs hq4 hP hS => ?_)
  obtain ⟨ex5, hf6⟩ := hq4
  rw [ex5] at hP
  refine w_if_ne (tgt := 39) S dX2_releaseIfEnough_5 (by decide) (fun hb7 => ?_) (fun hb7 => ?_)
  · exact w_vret S hr0 hlk hP hS dX2_releaseIfEnough_39 (⟨hI, hT, trivial⟩)
  · refine lv_aload_n S.1 S.2.1 dX2_releaseIfEnough_8 rfl (lv_at hl 0 rfl) ?_
    refine w_get (C := RX2) (T := TX2) (N := 15) S (fun _ h => List.mem_cons_of_mem _ (List.mem_append_left _ (List.mem_append_left _ (List.mem_append_right _ h)))) hK hP (5 + 21 * i) (by have := h4; omega) ((ceP0 h4) _) rfl 3 (by decide) (hts _ (List.mem_of_getElem? (i := 1) rfl)) (v := .ref (g.1 (5 + 21 * i + 4))) rfl dX2_releaseIfEnough_9 ?_
    refine w_getN (C := RX4) (T := TX4) (N := 3) S (fun _ h => List.mem_cons_of_mem _ (List.mem_append_left _ (List.mem_append_right _ h))) hK hP (5 + 21 * i + 4) (by have := h4; omega) ((ceP4 h4) _) rfl 0 (by decide) (hN.1 _ (List.mem_of_getElem? (i := 7) rfl)) (v := .ref (g.1 (5 + 21 * i + 5))) rfl dX2_releaseIfEnough_12 ?_
    refine w_getN (C := RX3) (T := TX3) (N := 3) S (fun _ h => List.mem_cons_of_mem _ (List.mem_append_right _ h)) hK hP (5 + 21 * i + 5) (by have := h4; omega) ((ceP5 h4) _) rfl 2 (by decide) (hN.1 _ (List.mem_of_getElem? (i := 6) rfl)) (v := .int (x (5 + 21 * i + 5) 2)) rfl dX2_releaseIfEnough_15 ?_
    refine lv_topi (fun v8 ev8 => ?_)
    have wv8 : v8.toInt = (x (5 + 21 * i + 5) 2).toInt := by rw [ev8]
    have rv8 : (0 : Int) ≤ v8.toInt ∧ v8.toInt ≤ (65 : Int) := by rw [ev8]; exact hI.atP (j := 5) (k := 2) h4 (by decide)
    refine w_iconst S dX2_releaseIfEnough_18 (by decide) (fun k9 hk9 => ?_)
    refine lv_aload_n S.1 S.2.1 dX2_releaseIfEnough_19 rfl (lv_at hl 0 rfl) ?_
    refine w_get (C := RX2) (T := TX2) (N := 15) S (fun _ h => List.mem_cons_of_mem _ (List.mem_append_left _ (List.mem_append_left _ (List.mem_append_right _ h)))) hK hP (5 + 21 * i) (by have := h4; omega) ((ceP0 h4) _) rfl 1 (by decide) (hts _ (List.mem_of_getElem? (i := 2) rfl)) (v := .ref (g.1 (5 + 21 * i + 1))) rfl dX2_releaseIfEnough_20 ?_
    refine w_bipush S dX2_releaseIfEnough_23 (by decide) (fun k10 hk10 => ?_)
    refine w_iald S hK hP (5 + 21 * i + 1) (by have := h4; omega) (ceP1 h4) (by omega) (by omega) dX2_releaseIfEnough_25 (fun v11 ev11 => ?_)
    have wv11 : v11.toInt = (x (5 + 21 * i + 1) k10.toInt.toNat).toInt := by rw [ev11]
    refine va_mmax S.1 S.2.1 (by rw [S.2.2.1]; exact hl.1.symm) S.2.2.2.1 (hts _ (List.mem_of_getElem? (i := 3) rfl)) (hts _ (List.mem_of_getElem? (i := 4) rfl)) (hts _ (List.mem_of_getElem? (i := 5) rfl)) (hts _ (List.mem_of_getElem? (i := 6) rfl)) (Nat.le_of_ble_eq_true rfl) (Nat.le_of_ble_eq_true rfl) (Nat.zero_le _) (Nat.zero_le _) dX2_releaseIfEnough_26 ?_
    refine lv_topi (fun v12 ev12 => ?_)
    have hv12 := t_max ev12
    refine w_icmp_lt (tgt := 39) S dX2_releaseIfEnough_29 (by decide) (fun hb13 => ?_) (fun hb13 => ?_)
    · exact w_vret S hr0 hlk hP hS dX2_releaseIfEnough_39 (⟨hI, hT, trivial⟩)
    · refine lv_aload_n S.1 S.2.1 dX2_releaseIfEnough_32 rfl (lv_at hl 0 rfl) ?_
      refine w_get (C := RX2) (T := TX2) (N := 15) S (fun _ h => List.mem_cons_of_mem _ (List.mem_append_left _ (List.mem_append_left _ (List.mem_append_right _ h)))) hK hP (5 + 21 * i) (by have := h4; omega) ((ceP0 h4) _) rfl 3 (by decide) (hts _ (List.mem_of_getElem? (i := 1) rfl)) (v := .ref (g.1 (5 + 21 * i + 4))) rfl dX2_releaseIfEnough_33 ?_
      refine w_cVv (As := []) (rest := []) S hK hN hP hS hl (5 + 21 * i + 4) (by have := h4; omega) ((ceP4 h4) _) rfl (c_X4_releaseAll l D g hg x hI i h4) (cwV 0 hts gX2_releaseIfEnough_X4_releaseAll rfl rfl rfl (by decide +kernel) ⟨Nat.le_of_ble_eq_true rfl, Nat.le_of_ble_eq_true rfl⟩) rfl rfl (Nat.le_of_ble_eq_true rfl) dX2_releaseIfEnough_36 ⟨Nat.zero_le _, Nat.zero_le _⟩ (fun x14 H locs hq16 hP hS => ?_)
      obtain ⟨hI17, hT18, hf19⟩ := hq16
      have hT20 : Same (TC) x x14 := hT.tr hT18 (fun _ _ h => h)
      exact w_vret S hr0 hlk hP hS dX2_releaseIfEnough_39 (⟨hI17, hT20, trivial⟩)
set_option maxRecDepth 100000 in
set_option maxHeartbeats 4000000 in
theorem c_X2_setMode (l : Launch) (D : va_G) (g : GA) (hg : Inj g) (x : St) (hI : Inv x) (i : Nat) (h4 : i < 4) (a : Int32) (b : Int32) (ha : 0 ≤ a.toInt ∧ a.toInt ≤ 24) : Met l yX2_setMode wsX2_setMode ({ frames := 2, cells := 0, slots := 0, locals := 45 } : Room) (va_Pc [.ref (g.1 (5 + 21 * i)), .int a, .int b] (WI D g x)) (va_Qv (fun x2 => Inv x2 ∧ Same TC x x2 ∧ True) (WO D g) (AQ g)) 0 0 (AQ g) := by
  refine w_met (cc := cX2_setMode) (maxL := 3) (ret := none) (own := RX2) (by decide) rfl rfl (Nat.le_of_ble_eq_true rfl) (fun p e s m below meth co S hr0 hlk hK hN hP hS ls hl => ?_)
  have hts := S.2.2.2.2
  have hl : lv_has ls 3 [(0, .ref (g.1 (5 + 21 * i))), (1, .int a), (2, .int b)] := hl
  have hT : Same (TC) x x := Same.rf
  have J33 : ∀ (x_33 : St) (H : Heap) (locs : List Loc) (ls : Array Slot), Inv x_33 → Same (TC) x x_33 → va_P D vwCl (WL g x_33) H → va_S (AQ g) s.heap H locs → lv_has ls 3 [(0, .ref (g.1 (5 + 21 * i))), (1, .int a), (2, .int b)] → W p l e ({ frames := 2, cells := 0, slots := 0, locals := 45 } : Room) s m ([.ref (g.1 (5 + 21 * i)), .int a, .int b] : List Value).toArray below meth co H locs 0 0 (MQ below (va_Qv (fun x2 => Inv x2 ∧ Same TC x x2 ∧ True) (WO D g) (AQ g)) ([.ref (g.1 (5 + 21 * i)), .int a, .int b] : List Value).toArray s 0 0 (AQ g)) (F0 m 33 ls []) := by
    intro x_33 H locs ls hI_33 hT_33 hP hS hl
    refine lv_iload_n S.1 S.2.1 dX2_setMode_33 rfl (lv_at hl 1 rfl) ?_
    refine w_bipush S dX2_setMode_34 (by decide) (fun k1 hk1 => ?_)
    refine w_icmp_ne (tgt := 43) S dX2_setMode_36 (by decide) (fun hb2 => ?_) (fun hb2 => ?_)
    · exact w_vret S hr0 hlk hP hS dX2_setMode_43 (⟨hI_33, hT_33, trivial⟩)
    · refine lv_aload_n S.1 S.2.1 dX2_setMode_39 rfl (lv_at hl 0 rfl) ?_
      refine w_cVv (As := []) (rest := []) S hK hN hP hS hl (5 + 21 * i) (by have := h4; omega) ((ceP0 h4) _) rfl (c_X2_releaseIfEnough l D g hg x_33 hI_33 i h4) (cwV 0 hts gX2_setMode_X2_releaseIfEnough rfl rfl rfl (by decide +kernel) ⟨Nat.le_of_ble_eq_true rfl, Nat.le_of_ble_eq_true rfl⟩) rfl rfl (Nat.le_of_ble_eq_true rfl) dX2_setMode_40 ⟨Nat.zero_le _, Nat.zero_le _⟩ (fun x3 H locs hq5 hP hS => ?_)
      obtain ⟨hI6, hT7, hf8⟩ := hq5
      have hT9 : Same (TC) x x3 := hT_33.tr hT7 (fun _ _ h => h)
      exact w_vret S hr0 hlk hP hS dX2_setMode_43 (⟨hI6, hT9, trivial⟩)
  refine lv_aload_n S.1 S.2.1 dX2_setMode_0 rfl (lv_at hl 0 rfl) ?_
  refine w_get (C := RX2) (T := TX2) (N := 15) S (fun _ h => List.mem_cons_of_mem _ (List.mem_append_left _ (List.mem_append_left _ (List.mem_append_right _ h)))) hK hP (5 + 21 * i) (by have := h4; omega) ((ceP0 h4) _) rfl 1 (by decide) (hts _ (List.mem_of_getElem? (i := 1) rfl)) (v := .ref (g.1 (5 + 21 * i + 1))) rfl dX2_setMode_1 ?_
  refine lv_iload_n S.1 S.2.1 dX2_setMode_4 rfl (lv_at hl 1 rfl) ?_
  refine lv_iload_n S.1 S.2.1 dX2_setMode_5 rfl (lv_at hl 2 rfl) ?_
  refine w_iast S hK hg hP hS (5 + 21 * i + 1) (by have := h4; omega) (ceP1 h4) (by omega) (by omega) dX2_setMode_6 (fun x10 H locs ex10 hP hS => ?_)
  have hI11 : Inv x10 := by rw [ex10]; exact hI.upP (j := 1) h4 (by decide) (i_ge _) (i_le _)
  have hT12 : Same (TC) x x10 := by rw [ex10]; exact hT.up (by unfold TC TrC; omega)
  refine lv_iload_n S.1 S.2.1 dX2_setMode_7 rfl (lv_at hl 1 rfl) ?_
  refine w_if_ne (tgt := 33) S dX2_setMode_8 (by decide) (fun hb13 => ?_) (fun hb13 => ?_)
  · exact J33 _ _ _ _ hI11 hT12 hP hS (lv_sub hl [0, 1, 2] rfl)
  · refine lv_iload_n S.1 S.2.1 dX2_setMode_11 rfl (lv_at hl 2 rfl) ?_
    refine w_if_ne (tgt := 33) S dX2_setMode_12 (by decide) (fun hb14 => ?_) (fun hb14 => ?_)
    · exact J33 _ _ _ _ hI11 hT12 hP hS (lv_sub hl [0, 1, 2] rfl)
    · refine lv_aload_n S.1 S.2.1 dX2_setMode_15 rfl (lv_at hl 0 rfl) ?_
      refine w_get (C := RX2) (T := TX2) (N := 15) S (fun _ h => List.mem_cons_of_mem _ (List.mem_append_left _ (List.mem_append_left _ (List.mem_append_right _ h)))) hK hP (5 + 21 * i) (by have := h4; omega) ((ceP0 h4) _) rfl 3 (by decide) (hts _ (List.mem_of_getElem? (i := 2) rfl)) (v := .ref (g.1 (5 + 21 * i + 4))) rfl dX2_setMode_16 ?_
      refine w_cVv (As := []) (rest := []) S hK hN hP hS hl (5 + 21 * i + 4) (by have := h4; omega) ((ceP4 h4) _) rfl (c_X4_dropEndMarks l D g hg x10 hI11 i h4) (cwV 0 hts gX2_setMode_X4_dropEndMarks rfl rfl rfl (by decide +kernel) ⟨Nat.le_of_ble_eq_true rfl, Nat.le_of_ble_eq_true rfl⟩) rfl rfl (Nat.le_of_ble_eq_true rfl) dX2_setMode_19 ⟨Nat.zero_le _, Nat.zero_le _⟩ (fun x15 H locs hq17 hP hS => ?_)
      obtain ⟨hI18, hT19, hf20⟩ := hq17
      have hT21 : Same (TC) x x15 := hT12.tr hT19 (fun _ _ h => h)
      refine lv_aload_n S.1 S.2.1 dX2_setMode_22 rfl (lv_at hl 0 rfl) ?_
      refine w_get (C := RX2) (T := TX2) (N := 15) S (fun _ h => List.mem_cons_of_mem _ (List.mem_append_left _ (List.mem_append_left _ (List.mem_append_right _ h)))) hK hP (5 + 21 * i) (by have := h4; omega) ((ceP0 h4) _) rfl 3 (by decide) (hts _ (List.mem_of_getElem? (i := 2) rfl)) (v := .ref (g.1 (5 + 21 * i + 4))) rfl dX2_setMode_23 ?_
      refine w_cVv (As := []) (rest := []) S hK hN hP hS hl (5 + 21 * i + 4) (by have := h4; omega) ((ceP4 h4) _) rfl (c_X4_releaseAll l D g hg x15 hI18 i h4) (cwV 0 hts gX2_setMode_X4_releaseAll rfl rfl rfl (by decide +kernel) ⟨Nat.le_of_ble_eq_true rfl, Nat.le_of_ble_eq_true rfl⟩) rfl rfl (Nat.le_of_ble_eq_true rfl) dX2_setMode_26 ⟨Nat.zero_le _, Nat.zero_le _⟩ (fun x22 H locs hq24 hP hS => ?_)
      obtain ⟨hI25, hT26, hf27⟩ := hq24
      have hT28 : Same (TC) x x22 := hT21.tr hT26 (fun _ _ h => h)
      refine lv_aload_n S.1 S.2.1 dX2_setMode_29 rfl (lv_at hl 0 rfl) ?_
      refine w_cVv (As := []) (rest := []) S hK hN hP hS hl (5 + 21 * i) (by have := h4; omega) ((ceP0 h4) _) rfl (c_X2_relax l D g hg x22 hI25 i h4) (cwV 0 hts gX2_setMode_X2_relax rfl rfl rfl (by decide +kernel) ⟨Nat.le_of_ble_eq_true rfl, Nat.le_of_ble_eq_true rfl⟩) rfl rfl (Nat.le_of_ble_eq_true rfl) dX2_setMode_30 ⟨Nat.zero_le _, Nat.zero_le _⟩ (fun x29 H locs hq31 hP hS => ?_)
      obtain ⟨hI32, hT33, hf34⟩ := hq31
      have hT35 : Same (TC) x x29 := hT28.tr hT33 (fun _ _ h => h)
      exact J33 _ _ _ _ hI32 hT35 hP hS (lv_sub hl [0, 1, 2] rfl)
set_option maxRecDepth 100000 in
set_option maxHeartbeats 4000000 in
theorem c_X2_makeDueChanges (l : Launch) (D : va_G) (g : GA) (hg : Inj g) (x : St) (hI : Inv x) (i : Nat) (h4 : i < 4) : Met l yX2_makeDueChanges wsX2_makeDueChanges ({ frames := 3, cells := 0, slots := 0, locals := 67 } : Room) (va_Pc [.ref (g.1 (5 + 21 * i))] (WI D g x)) (va_Qv (fun x2 => Inv x2 ∧ Same TC x x2 ∧ True) (WO D g) (AQ g)) 0 0 (AQ g) := by
  refine w_met (cc := cX2_makeDueChanges) (maxL := 2) (ret := none) (own := RX2) (by decide) rfl rfl (Nat.le_of_ble_eq_true rfl) (fun p e s m below meth co S hr0 hlk hK hN hP hS ls hl => ?_)
  have hts := S.2.2.2.2
  have hl : lv_has ls 2 [(0, .ref (g.1 (5 + 21 * i)))] := hl
  have hT : Same (TC) x x := Same.rf
  have J2 : ∀ (n0 : Nat) (x_2 : St) (H : Heap) (locs : List Loc) (ls : Array Slot) (y2_1 : Int32), Inv x_2 → Same (TC) x x_2 → (0 ≤ y2_1.toInt) → (y2_1.toInt ≤ 3) → (3 - y2_1.toInt).toNat < n0 → va_P D vwCl (WL g x_2) H → va_S (AQ g) s.heap H locs → lv_has ls 2 [(0, .ref (g.1 (5 + 21 * i))), (1, .int y2_1)] → W p l e ({ frames := 3, cells := 0, slots := 0, locals := 67 } : Room) s m ([.ref (g.1 (5 + 21 * i))] : List Value).toArray below meth co H locs 0 0 (MQ below (va_Qv (fun x2 => Inv x2 ∧ Same TC x x2 ∧ True) (WO D g) (AQ g)) ([.ref (g.1 (5 + 21 * i))] : List Value).toArray s 0 0 (AQ g)) (F0 m 2 ls []) := by
    intro n0
    induction n0 with
    | zero => intro x_2 H locs ls y2_1 hI_2 hT_2 hf2_0 hf2_1 hm_2 hP hS hl; exact absurd hm_2 (Nat.not_lt_zero _)
    | succ n0 ih2 =>
      intro x_2 H locs ls y2_1 hI_2 hT_2 hf2_0 hf2_1 hm_2 hP hS hl
      refine lv_iload_n S.1 S.2.1 dX2_makeDueChanges_2 rfl (lv_at hl 1 rfl) ?_
      refine w_iconst S dX2_makeDueChanges_3 (by decide) (fun k1 hk1 => ?_)
      refine w_icmp_ge (tgt := 68) S dX2_makeDueChanges_4 (by decide) (fun hb2 => ?_) (fun hb2 => ?_)
      · exact w_vret S hr0 hlk hP hS dX2_makeDueChanges_68 (⟨hI_2, hT_2, trivial⟩)
      · refine lv_aload_n S.1 S.2.1 dX2_makeDueChanges_7 rfl (lv_at hl 0 rfl) ?_
        refine w_get (C := RX2) (T := TX2) (N := 15) S (fun _ h => List.mem_cons_of_mem _ (List.mem_append_left _ (List.mem_append_left _ (List.mem_append_left _ (List.mem_append_right _ h))))) hK hP (5 + 21 * i) (by have := h4; omega) ((ceP0 h4) _) rfl 5 (by decide) (hts _ (List.mem_of_getElem? (i := 1) rfl)) (v := .ref (g.1 (5 + 21 * i + 12))) rfl dX2_makeDueChanges_8 ?_
        refine w_cVi (As := []) (rest := []) S hK hN hP hS hl (5 + 21 * i + 12) (by have := h4; omega) ((ceP12 h4) _) rfl (c_X5_isFirstDue l D g hg x_2 hI_2 i h4) (cwV 0 hts gX2_makeDueChanges_X5_isFirstDue rfl rfl rfl (by decide +kernel) ⟨Nat.le_of_ble_eq_true rfl, Nat.le_of_ble_eq_true rfl⟩) rfl rfl (Nat.le_of_ble_eq_true rfl) dX2_makeDueChanges_11 ⟨Nat.zero_le _, Nat.zero_le _⟩ (fun r4 x3 H locs hq5 hP hS => ?_)
        obtain ⟨ex6, hf7⟩ := hq5
        rw [ex6] at hP
        refine w_if_eq (tgt := 68) S dX2_makeDueChanges_14 (by decide) (fun hb8 => ?_) (fun hb8 => ?_)
        · exact w_vret S hr0 hlk hP hS dX2_makeDueChanges_68 (⟨hI_2, hT_2, trivial⟩)
        · refine lv_aload_n S.1 S.2.1 dX2_makeDueChanges_17 rfl (lv_at hl 0 rfl) ?_
          refine w_get (C := RX2) (T := TX2) (N := 15) S (fun _ h => List.mem_cons_of_mem _ (List.mem_append_left _ (List.mem_append_left _ (List.mem_append_left _ (List.mem_append_right _ h))))) hK hP (5 + 21 * i) (by have := h4; omega) ((ceP0 h4) _) rfl 5 (by decide) (hts _ (List.mem_of_getElem? (i := 1) rfl)) (v := .ref (g.1 (5 + 21 * i + 12))) rfl dX2_makeDueChanges_18 ?_
          refine w_getN (C := RX5) (T := TX5) (N := 5) S (fun _ h => List.mem_cons_of_mem _ (List.mem_append_left _ (List.mem_append_left _ (List.mem_append_right _ h)))) hK hP (5 + 21 * i + 12) (by have := h4; omega) ((ceP12 h4) _) rfl 2 (by decide) (hN.1 _ (List.mem_of_getElem? (i := 20) rfl)) (v := .ref (g.1 (5 + 21 * i + 15))) rfl dX2_makeDueChanges_21 ?_
          refine w_iconst S dX2_makeDueChanges_24 (by decide) (fun k9 hk9 => ?_)
          refine w_zald S hK hP (5 + 21 * i + 15) (by have := h4; omega) (ceP15 h4) (by omega) (by omega) dX2_makeDueChanges_25 (fun v10 ev10 => ?_)
          have wv10 : v10.toInt = (x_2 (5 + 21 * i + 15) k9.toInt.toNat).toInt := by rw [ev10]
          have rv10 : (0 : Int) ≤ v10.toInt ∧ v10.toInt ≤ (1 : Int) := by rw [ev10]; exact hI_2.atP (j := 15) (k := _) h4 (by decide)
          refine w_if_eq (tgt := 33) S dX2_makeDueChanges_26 (by decide) (fun hb11 => ?_) (fun hb11 => ?_)
          · refine lv_aload_n S.1 S.2.1 dX2_makeDueChanges_33 rfl (lv_at hl 0 rfl) ?_
            refine lv_aload_n S.1 S.2.1 dX2_makeDueChanges_34 rfl (lv_at hl 0 rfl) ?_
            refine w_get (C := RX2) (T := TX2) (N := 15) S (fun _ h => List.mem_cons_of_mem _ (List.mem_append_left _ (List.mem_append_left _ (List.mem_append_left _ (List.mem_append_right _ h))))) hK hP (5 + 21 * i) (by have := h4; omega) ((ceP0 h4) _) rfl 5 (by decide) (hts _ (List.mem_of_getElem? (i := 1) rfl)) (v := .ref (g.1 (5 + 21 * i + 12))) rfl dX2_makeDueChanges_35 ?_
            refine w_getN (C := RX5) (T := TX5) (N := 5) S (fun _ h => List.mem_cons_of_mem _ (List.mem_append_left _ (List.mem_append_left _ (List.mem_append_right _ h)))) hK hP (5 + 21 * i + 12) (by have := h4; omega) ((ceP12 h4) _) rfl 0 (by decide) (hN.1 _ (List.mem_of_getElem? (i := 18) rfl)) (v := .ref (g.1 (5 + 21 * i + 13))) rfl dX2_makeDueChanges_38 ?_
            refine w_iconst S dX2_makeDueChanges_41 (by decide) (fun k12 hk12 => ?_)
            refine w_iald S hK hP (5 + 21 * i + 13) (by have := h4; omega) (ceP13 h4) (by omega) (by omega) dX2_makeDueChanges_42 (fun v13 ev13 => ?_)
            have wv13 : v13.toInt = (x_2 (5 + 21 * i + 13) k12.toInt.toNat).toInt := by rw [ev13]
            have rv13 : (0 : Int) ≤ v13.toInt ∧ v13.toInt ≤ (24 : Int) := by rw [ev13]; exact hI_2.atP (j := 13) (k := _) h4 (by decide)
            refine lv_aload_n S.1 S.2.1 dX2_makeDueChanges_43 rfl (lv_at hl 0 rfl) ?_
            refine w_get (C := RX2) (T := TX2) (N := 15) S (fun _ h => List.mem_cons_of_mem _ (List.mem_append_left _ (List.mem_append_left _ (List.mem_append_left _ (List.mem_append_right _ h))))) hK hP (5 + 21 * i) (by have := h4; omega) ((ceP0 h4) _) rfl 5 (by decide) (hts _ (List.mem_of_getElem? (i := 1) rfl)) (v := .ref (g.1 (5 + 21 * i + 12))) rfl dX2_makeDueChanges_44 ?_
            refine w_getN (C := RX5) (T := TX5) (N := 5) S (fun _ h => List.mem_cons_of_mem _ (List.mem_append_left _ (List.mem_append_left _ (List.mem_append_right _ h)))) hK hP (5 + 21 * i + 12) (by have := h4; omega) ((ceP12 h4) _) rfl 1 (by decide) (hN.1 _ (List.mem_of_getElem? (i := 19) rfl)) (v := .ref (g.1 (5 + 21 * i + 14))) rfl dX2_makeDueChanges_47 ?_
            refine w_iconst S dX2_makeDueChanges_50 (by decide) (fun k14 hk14 => ?_)
            refine w_iald S hK hP (5 + 21 * i + 14) (by have := h4; omega) (ceP14 h4) (by omega) (by omega) dX2_makeDueChanges_51 (fun v15 ev15 => ?_)
            have wv15 : v15.toInt = (x_2 (5 + 21 * i + 14) k14.toInt.toNat).toInt := by rw [ev15]
            refine w_cVv (As := [.int v13, .int v15]) (rest := []) S hK hN hP hS hl (5 + 21 * i) (by have := h4; omega) ((ceP0 h4) _) rfl (c_X2_setMode l D g hg x_2 hI_2 i h4 v13 v15 (by omega)) (cwV 2 hts gX2_makeDueChanges_X2_setMode rfl rfl rfl (by decide +kernel) ⟨Nat.le_of_ble_eq_true rfl, Nat.le_of_ble_eq_true rfl⟩) rfl rfl (Nat.le_of_ble_eq_true rfl) dX2_makeDueChanges_52 ⟨Nat.zero_le _, Nat.zero_le _⟩ (fun x16 H locs hq18 hP hS => ?_)
            obtain ⟨hI19, hT20, hf21⟩ := hq18
            have hT22 : Same (TC) x x16 := hT_2.tr hT20 (fun _ _ h => h)
            refine lv_aload_n S.1 S.2.1 dX2_makeDueChanges_55 rfl (lv_at hl 0 rfl) ?_
            refine w_get (C := RX2) (T := TX2) (N := 15) S (fun _ h => List.mem_cons_of_mem _ (List.mem_append_left _ (List.mem_append_left _ (List.mem_append_left _ (List.mem_append_right _ h))))) hK hP (5 + 21 * i) (by have := h4; omega) ((ceP0 h4) _) rfl 5 (by decide) (hts _ (List.mem_of_getElem? (i := 1) rfl)) (v := .ref (g.1 (5 + 21 * i + 12))) rfl dX2_makeDueChanges_56 ?_
            refine w_cVv (As := []) (rest := []) S hK hN hP hS hl (5 + 21 * i + 12) (by have := h4; omega) ((ceP12 h4) _) rfl (c_X5_removeFirst l D g hg x16 hI19 i h4) (cwV 0 hts gX2_makeDueChanges_X5_removeFirst rfl rfl rfl (by decide +kernel) ⟨Nat.le_of_ble_eq_true rfl, Nat.le_of_ble_eq_true rfl⟩) rfl rfl (Nat.le_of_ble_eq_true rfl) dX2_makeDueChanges_59 ⟨Nat.zero_le _, Nat.zero_le _⟩ (fun x23 H locs hq25 hP hS => ?_)
            obtain ⟨hI26, hT27, hf28⟩ := hq25
            have hT29 : Same (TC) x x23 := hT22.tr hT27 (fun _ _ h => h)
            refine w_iinc (lv' := [(0, .ref (g.1 (5 + 21 * i)))]) S dX2_makeDueChanges_62 hl (k := 1) rfl (by decide) (by decide) (by omega) (by omega) (fun _ => rfl) (fun v30 ls hv30 hl => ?_)
            refine lv_goto (tgt := 2) S.1 S.2.1 dX2_makeDueChanges_65 (by decide) ?_
            exact ih2 _ _ _ _ v30 hI26 hT29 (by omega) (by omega) (by omega) hP hS (lv_sub hl [1, 0] rfl)
          · refine lv_aload_n S.1 S.2.1 dX2_makeDueChanges_29 rfl (lv_at hl 0 rfl) ?_
            refine w_cVv (As := []) (rest := []) S hK hN hP hS hl (5 + 21 * i) (by have := h4; omega) ((ceP0 h4) _) rfl (c_X2_emptyStore l D g hg x_2 hI_2 i h4) (cwV 0 hts gX2_makeDueChanges_X2_emptyStore rfl rfl rfl (by decide +kernel) ⟨Nat.le_of_ble_eq_true rfl, Nat.le_of_ble_eq_true rfl⟩) rfl rfl (Nat.le_of_ble_eq_true rfl) dX2_makeDueChanges_30 ⟨Nat.zero_le _, Nat.zero_le _⟩ (fun x31 H locs hq33 hP hS => ?_)
            obtain ⟨hI34, hT35, hf36⟩ := hq33
            have hT37 : Same (TC) x x31 := hT_2.tr hT35 (fun _ _ h => h)
            refine lv_aload_n S.1 S.2.1 dX2_makeDueChanges_33 rfl (lv_at hl 0 rfl) ?_
            refine lv_aload_n S.1 S.2.1 dX2_makeDueChanges_34 rfl (lv_at hl 0 rfl) ?_
            refine w_get (C := RX2) (T := TX2) (N := 15) S (fun _ h => List.mem_cons_of_mem _ (List.mem_append_left _ (List.mem_append_left _ (List.mem_append_left _ (List.mem_append_right _ h))))) hK hP (5 + 21 * i) (by have := h4; omega) ((ceP0 h4) _) rfl 5 (by decide) (hts _ (List.mem_of_getElem? (i := 1) rfl)) (v := .ref (g.1 (5 + 21 * i + 12))) rfl dX2_makeDueChanges_35 ?_
            refine w_getN (C := RX5) (T := TX5) (N := 5) S (fun _ h => List.mem_cons_of_mem _ (List.mem_append_left _ (List.mem_append_left _ (List.mem_append_right _ h)))) hK hP (5 + 21 * i + 12) (by have := h4; omega) ((ceP12 h4) _) rfl 0 (by decide) (hN.1 _ (List.mem_of_getElem? (i := 18) rfl)) (v := .ref (g.1 (5 + 21 * i + 13))) rfl dX2_makeDueChanges_38 ?_
            refine w_iconst S dX2_makeDueChanges_41 (by decide) (fun k38 hk38 => ?_)
            refine w_iald S hK hP (5 + 21 * i + 13) (by have := h4; omega) (ceP13 h4) (by omega) (by omega) dX2_makeDueChanges_42 (fun v39 ev39 => ?_)
            have wv39 : v39.toInt = (x31 (5 + 21 * i + 13) k38.toInt.toNat).toInt := by rw [ev39]
            have rv39 : (0 : Int) ≤ v39.toInt ∧ v39.toInt ≤ (24 : Int) := by rw [ev39]; exact hI34.atP (j := 13) (k := _) h4 (by decide)
            refine lv_aload_n S.1 S.2.1 dX2_makeDueChanges_43 rfl (lv_at hl 0 rfl) ?_
            refine w_get (C := RX2) (T := TX2) (N := 15) S (fun _ h => List.mem_cons_of_mem _ (List.mem_append_left _ (List.mem_append_left _ (List.mem_append_left _ (List.mem_append_right _ h))))) hK hP (5 + 21 * i) (by have := h4; omega) ((ceP0 h4) _) rfl 5 (by decide) (hts _ (List.mem_of_getElem? (i := 1) rfl)) (v := .ref (g.1 (5 + 21 * i + 12))) rfl dX2_makeDueChanges_44 ?_
            refine w_getN (C := RX5) (T := TX5) (N := 5) S (fun _ h => List.mem_cons_of_mem _ (List.mem_append_left _ (List.mem_append_left _ (List.mem_append_right _ h)))) hK hP (5 + 21 * i + 12) (by have := h4; omega) ((ceP12 h4) _) rfl 1 (by decide) (hN.1 _ (List.mem_of_getElem? (i := 19) rfl)) (v := .ref (g.1 (5 + 21 * i + 14))) rfl dX2_makeDueChanges_47 ?_
            refine w_iconst S dX2_makeDueChanges_50 (by decide) (fun k40 hk40 => ?_)
            refine w_iald S hK hP (5 + 21 * i + 14) (by have := h4; omega) (ceP14 h4) (by omega) (by omega) dX2_makeDueChanges_51 (fun v41 ev41 => ?_)
            have wv41 : v41.toInt = (x31 (5 + 21 * i + 14) k40.toInt.toNat).toInt := by rw [ev41]
            refine w_cVv (As := [.int v39, .int v41]) (rest := []) S hK hN hP hS hl (5 + 21 * i) (by have := h4; omega) ((ceP0 h4) _) rfl (c_X2_setMode l D g hg x31 hI34 i h4 v39 v41 (by omega)) (cwV 2 hts gX2_makeDueChanges_X2_setMode rfl rfl rfl (by decide +kernel) ⟨Nat.le_of_ble_eq_true rfl, Nat.le_of_ble_eq_true rfl⟩) rfl rfl (Nat.le_of_ble_eq_true rfl) dX2_makeDueChanges_52 ⟨Nat.zero_le _, Nat.zero_le _⟩ (fun x42 H locs hq44 hP hS => ?_)
            obtain ⟨hI45, hT46, hf47⟩ := hq44
            have hT48 : Same (TC) x x42 := hT37.tr hT46 (fun _ _ h => h)
            refine lv_aload_n S.1 S.2.1 dX2_makeDueChanges_55 rfl (lv_at hl 0 rfl) ?_
            refine w_get (C := RX2) (T := TX2) (N := 15) S (fun _ h => List.mem_cons_of_mem _ (List.mem_append_left _ (List.mem_append_left _ (List.mem_append_left _ (List.mem_append_right _ h))))) hK hP (5 + 21 * i) (by have := h4; omega) ((ceP0 h4) _) rfl 5 (by decide) (hts _ (List.mem_of_getElem? (i := 1) rfl)) (v := .ref (g.1 (5 + 21 * i + 12))) rfl dX2_makeDueChanges_56 ?_
            refine w_cVv (As := []) (rest := []) S hK hN hP hS hl (5 + 21 * i + 12) (by have := h4; omega) ((ceP12 h4) _) rfl (c_X5_removeFirst l D g hg x42 hI45 i h4) (cwV 0 hts gX2_makeDueChanges_X5_removeFirst rfl rfl rfl (by decide +kernel) ⟨Nat.le_of_ble_eq_true rfl, Nat.le_of_ble_eq_true rfl⟩) rfl rfl (Nat.le_of_ble_eq_true rfl) dX2_makeDueChanges_59 ⟨Nat.zero_le _, Nat.zero_le _⟩ (fun x49 H locs hq51 hP hS => ?_)
            obtain ⟨hI52, hT53, hf54⟩ := hq51
            have hT55 : Same (TC) x x49 := hT48.tr hT53 (fun _ _ h => h)
            refine w_iinc (lv' := [(0, .ref (g.1 (5 + 21 * i)))]) S dX2_makeDueChanges_62 hl (k := 1) rfl (by decide) (by decide) (by omega) (by omega) (fun _ => rfl) (fun v56 ls hv56 hl => ?_)
            refine lv_goto (tgt := 2) S.1 S.2.1 dX2_makeDueChanges_65 (by decide) ?_
            exact ih2 _ _ _ _ v56 hI52 hT55 (by omega) (by omega) (by omega) hP hS (lv_sub hl [1, 0] rfl)
  refine w_iconst S dX2_makeDueChanges_0 (by decide) (fun k57 hk57 => ?_)
  refine lv_istore_n (lv' := [(1, .int k57), (0, .ref (g.1 (5 + 21 * i)))]) S.1 S.2.1 dX2_makeDueChanges_1 rfl hl (by decide) rfl (fun ls hl => ?_)
  exact J2 _ _ _ _ _ k57 hI hT (by omega) (by omega) (Nat.lt_succ_self _) hP hS (lv_sub hl [1, 0] rfl)
set_option maxRecDepth 100000 in
set_option maxHeartbeats 4000000 in
theorem c_X2_settle (l : Launch) (D : va_G) (g : GA) (hg : Inj g) (x : St) (hI : Inv x) (i : Nat) (h4 : i < 4) : Met l yX2_settle wsX2_settle ({ frames := 4, cells := 0, slots := 0, locals := 88 } : Room) (va_Pc [.ref (g.1 (5 + 21 * i))] (WI D g x)) (va_Qv (fun x2 => Inv x2 ∧ Same TC x x2 ∧ True) (WO D g) (AQ g)) 0 0 (AQ g) := by
  refine w_met (cc := cX2_settle) (maxL := 1) (ret := none) (own := RX2) (by decide) rfl rfl (Nat.le_of_ble_eq_true rfl) (fun p e s m below meth co S hr0 hlk hK hN hP hS ls hl => ?_)
  have hts := S.2.2.2.2
  have hl : lv_has ls 1 [(0, .ref (g.1 (5 + 21 * i)))] := hl
  have hT : Same (TC) x x := Same.rf
  refine lv_aload_n S.1 S.2.1 dX2_settle_0 rfl (lv_at hl 0 rfl) ?_
  refine w_get (C := RX2) (T := TX2) (N := 15) S (fun _ h => List.mem_cons_of_mem _ (List.mem_append_left _ (List.mem_append_left _ (List.mem_append_left _ (List.mem_append_left _ (List.mem_append_right _ h)))))) hK hP (5 + 21 * i) (by have := h4; omega) ((ceP0 h4) _) rfl 4 (by decide) (hts _ (List.mem_of_getElem? (i := 1) rfl)) (v := .ref (g.1 (5 + 21 * i + 7))) rfl dX2_settle_1 ?_
  refine w_cVv (As := []) (rest := []) S hK hN hP hS hl (5 + 21 * i + 7) (by have := h4; omega) ((ceP7 h4) _) rfl (c_X1_push l D g hg x hI i h4) (cwV 0 hts gX2_settle_X1_push rfl rfl rfl (by decide +kernel) ⟨Nat.le_of_ble_eq_true rfl, Nat.le_of_ble_eq_true rfl⟩) rfl rfl (Nat.le_of_ble_eq_true rfl) dX2_settle_4 ⟨Nat.zero_le _, Nat.zero_le _⟩ (fun x1 H locs hq3 hP hS => ?_)
  obtain ⟨hI4, hT5, hf6⟩ := hq3
  have hT7 : Same (TC) x x1 := hT.tr hT5 (fun _ _ h => h)
  refine lv_aload_n S.1 S.2.1 dX2_settle_7 rfl (lv_at hl 0 rfl) ?_
  refine w_cVv (As := []) (rest := []) S hK hN hP hS hl (5 + 21 * i) (by have := h4; omega) ((ceP0 h4) _) rfl (c_X2_makeDueChanges l D g hg x1 hI4 i h4) (cwV 0 hts gX2_settle_X2_makeDueChanges rfl rfl rfl (by decide +kernel) ⟨Nat.le_of_ble_eq_true rfl, Nat.le_of_ble_eq_true rfl⟩) rfl rfl (Nat.le_of_ble_eq_true rfl) dX2_settle_8 ⟨Nat.zero_le _, Nat.zero_le _⟩ (fun x8 H locs hq10 hP hS => ?_)
  obtain ⟨hI11, hT12, hf13⟩ := hq10
  have hT14 : Same (TC) x x8 := hT7.tr hT12 (fun _ _ h => h)
  exact w_vret S hr0 hlk hP hS dX2_settle_11 (⟨hI11, hT14, trivial⟩)
set_option maxRecDepth 100000 in
set_option maxHeartbeats 4000000 in
theorem c_X2_emptyOutput (l : Launch) (D : va_G) (g : GA) (hg : Inj g) (x : St) (hI : Inv x) (i : Nat) (h4 : i < 4) : Met l yX2_emptyOutput wsX2_emptyOutput ({ frames := 4, cells := 0, slots := 0, locals := 88 } : Room) (va_Pc [.ref (g.1 (5 + 21 * i))] (WI D g x)) (va_Qv (fun x2 => Inv x2 ∧ Same TC x x2 ∧ True) (WO D g) (AQ g)) 0 0 (AQ g) := by
  refine w_met (cc := cX2_emptyOutput) (maxL := 1) (ret := none) (own := RX2) (by decide) rfl rfl (Nat.le_of_ble_eq_true rfl) (fun p e s m below meth co S hr0 hlk hK hN hP hS ls hl => ?_)
  have hts := S.2.2.2.2
  have hl : lv_has ls 1 [(0, .ref (g.1 (5 + 21 * i)))] := hl
  have hT : Same (TC) x x := Same.rf
  refine lv_aload_n S.1 S.2.1 dX2_emptyOutput_0 rfl (lv_at hl 0 rfl) ?_
  refine w_get (C := RX2) (T := TX2) (N := 15) S (fun _ h => List.mem_cons_of_mem _ (List.mem_append_left _ (List.mem_append_left _ (List.mem_append_left _ (List.mem_append_left _ (List.mem_append_right _ h)))))) hK hP (5 + 21 * i) (by have := h4; omega) ((ceP0 h4) _) rfl 4 (by decide) (hts _ (List.mem_of_getElem? (i := 1) rfl)) (v := .ref (g.1 (5 + 21 * i + 7))) rfl dX2_emptyOutput_1 ?_
  refine w_getN (C := RX1) (T := TX1) (N := 5) S (fun _ h => List.mem_cons_of_mem _ (List.mem_append_left _ (List.mem_append_left _ (List.mem_append_left _ (List.mem_append_right _ h))))) hK hP (5 + 21 * i + 7) (by have := h4; omega) ((ceP7 h4) _) rfl 0 (by decide) (hN.1 _ (List.mem_of_getElem? (i := 11) rfl)) (v := .ref (g.1 (5 + 21 * i + 8))) rfl dX2_emptyOutput_4 ?_
  refine w_cVv (As := []) (rest := []) S hK hN hP hS hl (5 + 21 * i + 8) (by have := h4; omega) ((ceP8 h4) _) rfl (c_X3_empty l D g hg x hI (5 + 21 * i + 8) 64 (isRow8 h4)) (cwV 0 hts gX2_emptyOutput_X3_empty rfl rfl rfl (by decide +kernel) ⟨Nat.le_of_ble_eq_true rfl, Nat.le_of_ble_eq_true rfl⟩) rfl rfl (Nat.le_of_ble_eq_true rfl) dX2_emptyOutput_7 ⟨Nat.zero_le _, Nat.zero_le _⟩ (fun x1 H locs hq3 hP hS => ?_)
  obtain ⟨hI4, hT5, hf6⟩ := hq3
  have hT7 : Same (TC) x x1 := hT.tr hT5 (fun c0 k0 h => by unfold TC TrC at h; unfold TR; omega)
  refine lv_aload_n S.1 S.2.1 dX2_emptyOutput_10 rfl (lv_at hl 0 rfl) ?_
  refine w_get (C := RX2) (T := TX2) (N := 15) S (fun _ h => List.mem_cons_of_mem _ (List.mem_append_left _ (List.mem_append_left _ (List.mem_append_left _ (List.mem_append_left _ (List.mem_append_right _ h)))))) hK hP (5 + 21 * i) (by have := h4; omega) ((ceP0 h4) _) rfl 4 (by decide) (hts _ (List.mem_of_getElem? (i := 1) rfl)) (v := .ref (g.1 (5 + 21 * i + 7))) rfl dX2_emptyOutput_11 ?_
  refine w_getN (C := RX1) (T := TX1) (N := 5) S (fun _ h => List.mem_cons_of_mem _ (List.mem_append_left _ (List.mem_append_left _ (List.mem_append_left _ (List.mem_append_right _ h))))) hK hP (5 + 21 * i + 7) (by have := h4; omega) ((ceP7 h4) _) rfl 1 (by decide) (hN.1 _ (List.mem_of_getElem? (i := 13) rfl)) (v := .ref (g.1 (5 + 21 * i + 10))) rfl dX2_emptyOutput_14 ?_
  refine w_cVv (As := []) (rest := []) S hK hN hP hS hl (5 + 21 * i + 10) (by have := h4; omega) ((ceP10 h4) _) rfl (c_X3_empty l D g hg x1 hI4 (5 + 21 * i + 10) 8 (isRow10 h4)) (cwV 0 hts gX2_emptyOutput_X3_empty rfl rfl rfl (by decide +kernel) ⟨Nat.le_of_ble_eq_true rfl, Nat.le_of_ble_eq_true rfl⟩) rfl rfl (Nat.le_of_ble_eq_true rfl) dX2_emptyOutput_17 ⟨Nat.zero_le _, Nat.zero_le _⟩ (fun x8 H locs hq10 hP hS => ?_)
  obtain ⟨hI11, hT12, hf13⟩ := hq10
  have hT14 : Same (TC) x x8 := hT7.tr hT12 (fun c0 k0 h => by unfold TC TrC at h; unfold TR; omega)
  refine lv_aload_n S.1 S.2.1 dX2_emptyOutput_20 rfl (lv_at hl 0 rfl) ?_
  refine w_get (C := RX2) (T := TX2) (N := 15) S (fun _ h => List.mem_cons_of_mem _ (List.mem_append_left _ (List.mem_append_left _ (List.mem_append_left _ (List.mem_append_left _ (List.mem_append_right _ h)))))) hK hP (5 + 21 * i) (by have := h4; omega) ((ceP0 h4) _) rfl 5 (by decide) (hts _ (List.mem_of_getElem? (i := 2) rfl)) (v := .ref (g.1 (5 + 21 * i + 12))) rfl dX2_emptyOutput_21 ?_
  refine w_iconst S dX2_emptyOutput_24 (by decide) (fun k15 hk15 => ?_)
  refine w_cVv (As := [.int k15]) (rest := []) S hK hN hP hS hl (5 + 21 * i + 12) (by have := h4; omega) ((ceP12 h4) _) rfl (c_X5_onlyLeft l D g hg x8 hI11 i h4 k15) (cwV 1 hts gX2_emptyOutput_X5_onlyLeft rfl rfl rfl (by decide +kernel) ⟨Nat.le_of_ble_eq_true rfl, Nat.le_of_ble_eq_true rfl⟩) rfl rfl (Nat.le_of_ble_eq_true rfl) dX2_emptyOutput_25 ⟨Nat.zero_le _, Nat.zero_le _⟩ (fun x16 H locs hq18 hP hS => ?_)
  obtain ⟨hI19, hT20, hf21⟩ := hq18
  have hT22 : Same (TC) x x16 := hT14.tr hT20 (fun _ _ h => h)
  refine lv_aload_n S.1 S.2.1 dX2_emptyOutput_28 rfl (lv_at hl 0 rfl) ?_
  refine w_cVv (As := []) (rest := []) S hK hN hP hS hl (5 + 21 * i) (by have := h4; omega) ((ceP0 h4) _) rfl (c_X2_makeDueChanges l D g hg x16 hI19 i h4) (cwV 0 hts gX2_emptyOutput_X2_makeDueChanges rfl rfl rfl (by decide +kernel) ⟨Nat.le_of_ble_eq_true rfl, Nat.le_of_ble_eq_true rfl⟩) rfl rfl (Nat.le_of_ble_eq_true rfl) dX2_emptyOutput_29 ⟨Nat.zero_le _, Nat.zero_le _⟩ (fun x23 H locs hq25 hP hS => ?_)
  obtain ⟨hI26, hT27, hf28⟩ := hq25
  have hT29 : Same (TC) x x23 := hT22.tr hT27 (fun _ _ h => h)
  exact w_vret S hr0 hlk hP hS dX2_emptyOutput_32 (⟨hI26, hT29, trivial⟩)
set_option maxRecDepth 100000 in
set_option maxHeartbeats 4000000 in
theorem c_X2_hangUp (l : Launch) (D : va_G) (g : GA) (hg : Inj g) (x : St) (hI : Inv x) (i : Nat) (h4 : i < 4) : Met l yX2_hangUp wsX2_hangUp ({ frames := 5, cells := 0, slots := 0, locals := 108 } : Room) (va_Pc [.ref (g.1 (5 + 21 * i))] (WI D g x)) (va_Qv (fun x2 => Inv x2 ∧ Same (TCh i) x x2 ∧ (x2 (5 + 21 * i) 11).toInt = 1) (WO D g) (AQ g)) 0 0 (AQ g) := by
  refine w_met (cc := cX2_hangUp) (maxL := 1) (ret := none) (own := RX2) (by decide) rfl rfl (Nat.le_of_ble_eq_true rfl) (fun p e s m below meth co S hr0 hlk hK hN hP hS ls hl => ?_)
  have hts := S.2.2.2.2
  have hl : lv_has ls 1 [(0, .ref (g.1 (5 + 21 * i)))] := hl
  have hT : Same (TCh i) x x := Same.rf
  refine lv_aload_n S.1 S.2.1 dX2_hangUp_0 rfl (lv_at hl 0 rfl) ?_
  refine w_iconst S dX2_hangUp_1 (by decide) (fun k1 hk1 => ?_)
  refine w_put (C := RX2) (T := TX2) (N := 15) (F := FPort g (5 + 21 * i)) S (fun _ h => List.mem_cons_of_mem _ (List.mem_append_left _ (List.mem_append_left _ (List.mem_append_left _ (List.mem_append_left _ (List.mem_append_left _ (List.mem_append_right _ h))))))) tyX2_ok nmX2 hK hg hP hS (5 + 21 * i) (by have := h4; omega) (ceP0 h4) rfl 11 (by decide) (hts _ (List.mem_of_getElem? (i := 1) rfl)) rfl (tz_narrow (z01 (by omega) (by omega))) (tz_fits (z01 (by omega) (by omega))) (fun _ => Nat.le_of_ble_eq_true rfl) (fun _ => rfl) dX2_hangUp_2 (fun x2 H locs ex2 hP hS => ?_)
  have hI3 : Inv x2 := by rw [ex2]; exact hI.upP0 h4 (show (0 : Int) ≤ _ by omega) (show _ ≤ (1 : Int) by omega)
  have hT4 : Same (TCh i) x x2 := by rw [ex2]; exact hT.up (by unfold TCh TC TrC; omega)
  have u5 : (x2 (5 + 21 * i) 11).toInt = k1.toInt := by rw [ex2, up2_at]
  refine lv_aload_n S.1 S.2.1 dX2_hangUp_5 rfl (lv_at hl 0 rfl) ?_
  refine w_get (C := RX2) (T := TX2) (N := 15) S (fun _ h => List.mem_cons_of_mem _ (List.mem_append_left _ (List.mem_append_left _ (List.mem_append_left _ (List.mem_append_left _ (List.mem_append_left _ (List.mem_append_right _ h))))))) hK hP (5 + 21 * i) (by have := h4; omega) ((ceP0 h4) _) rfl 0 (by decide) (hts _ (List.mem_of_getElem? (i := 2) rfl)) (v := .ref (g.1 2)) rfl dX2_hangUp_6 ?_
  refine lv_aload_n S.1 S.2.1 dX2_hangUp_9 rfl (lv_at hl 0 rfl) ?_
  refine w_get (C := RX2) (T := TX2) (N := 15) S (fun _ h => List.mem_cons_of_mem _ (List.mem_append_left _ (List.mem_append_left _ (List.mem_append_left _ (List.mem_append_left _ (List.mem_append_left _ (List.mem_append_right _ h))))))) hK hP (5 + 21 * i) (by have := h4; omega) ((ceP0 h4) _) rfl 12 (by decide) (hts _ (List.mem_of_getElem? (i := 3) rfl)) (v := .int (x2 (5 + 21 * i) 12)) rfl dX2_hangUp_10 ?_
  refine lv_topi (fun v6 ev6 => ?_)
  have wv6 : v6.toInt = (x2 (5 + 21 * i) 12).toInt := by rw [ev6]
  refine w_bipush S dX2_hangUp_13 (by decide) (fun k7 hk7 => ?_)
  refine w_cVv (As := [.int v6, .int k7]) (rest := []) S hK hN hP hS hl 2 (by decide) (ceK2 _) rfl (c_X0_raise l D g hg x2 hI3 v6 k7) (cwV 2 hts gX2_hangUp_X0_raise rfl rfl rfl (by decide +kernel) ⟨Nat.le_of_ble_eq_true rfl, Nat.le_of_ble_eq_true rfl⟩) rfl rfl (Nat.le_of_ble_eq_true rfl) dX2_hangUp_15 ⟨Nat.zero_le _, Nat.zero_le _⟩ (fun x8 H locs hq10 hP hS => ?_)
  obtain ⟨hI11, hT12, hf13⟩ := hq10
  have hT14 : Same (TCh i) x x8 := hT4.tr hT12 (fun _ _ h => h.1)
  have u15 : (x8 (5 + 21 * i) 11).toInt = (x2 (5 + 21 * i) 11).toInt := by rw [hT12 (5 + 21 * i) 11 (by unfold TC TrC; omega)]
  refine lv_aload_n S.1 S.2.1 dX2_hangUp_18 rfl (lv_at hl 0 rfl) ?_
  refine w_cVv (As := []) (rest := []) S hK hN hP hS hl (5 + 21 * i) (by have := h4; omega) ((ceP0 h4) _) rfl (c_X2_emptyOutput l D g hg x8 hI11 i h4) (cwV 0 hts gX2_hangUp_X2_emptyOutput rfl rfl rfl (by decide +kernel) ⟨Nat.le_of_ble_eq_true rfl, Nat.le_of_ble_eq_true rfl⟩) rfl rfl (Nat.le_of_ble_eq_true rfl) dX2_hangUp_19 ⟨Nat.zero_le _, Nat.zero_le _⟩ (fun x16 H locs hq18 hP hS => ?_)
  obtain ⟨hI19, hT20, hf21⟩ := hq18
  have hT22 : Same (TCh i) x x16 := hT14.tr hT20 (fun _ _ h => h.1)
  have u23 : (x16 (5 + 21 * i) 11).toInt = (x8 (5 + 21 * i) 11).toInt := by rw [hT20 (5 + 21 * i) 11 (by unfold TC TrC; omega)]
  exact w_vret S hr0 hlk hP hS dX2_hangUp_22 (⟨hI19, hT22, by omega⟩)
set_option maxRecDepth 100000 in
set_option maxHeartbeats 4000000 in
theorem c_X2_takeEntry (l : Launch) (D : va_G) (g : GA) (hg : Inj g) (x : St) (hI : Inv x) (i : Nat) (h4 : i < 4) : Met l yX2_takeEntry wsX2_takeEntry ({ frames := 2, cells := 0, slots := 0, locals := 41 } : Room) (va_Pc [.ref (g.1 (5 + 21 * i))] (WI D g x)) (va_Qi (fun _ x2 => Inv x2 ∧ Same TC x x2 ∧ True) (WO D g) (AQ g)) 0 0 (AQ g) := by
  refine w_met (cc := cX2_takeEntry) (maxL := 2) (ret := (some .int)) (own := RX2) (by decide) rfl rfl (Nat.le_of_ble_eq_true rfl) (fun p e s m below meth co S hr0 hlk hK hN hP hS ls hl => ?_)
  have hts := S.2.2.2.2
  have hl : lv_has ls 2 [(0, .ref (g.1 (5 + 21 * i)))] := hl
  have hT : Same (TC) x x := Same.rf
  refine lv_aload_n S.1 S.2.1 dX2_takeEntry_0 rfl (lv_at hl 0 rfl) ?_
  refine w_get (C := RX2) (T := TX2) (N := 15) S (fun _ h => List.mem_cons_of_mem _ (List.mem_append_left _ (List.mem_append_left _ (List.mem_append_right _ h)))) hK hP (5 + 21 * i) (by have := h4; omega) ((ceP0 h4) _) rfl 3 (by decide) (hts _ (List.mem_of_getElem? (i := 1) rfl)) (v := .ref (g.1 (5 + 21 * i + 4))) rfl dX2_takeEntry_1 ?_
  refine w_cVi (As := []) (rest := []) S hK hN hP hS hl (5 + 21 * i + 4) (by have := h4; omega) ((ceP4 h4) _) rfl (c_X4_takeReleased l D g hg x hI i h4) (cwV 0 hts gX2_takeEntry_X4_takeReleased rfl rfl rfl (by decide +kernel) ⟨Nat.le_of_ble_eq_true rfl, Nat.le_of_ble_eq_true rfl⟩) rfl rfl (Nat.le_of_ble_eq_true rfl) dX2_takeEntry_4 ⟨Nat.zero_le _, Nat.zero_le _⟩ (fun r2 x1 H locs hq3 hP hS => ?_)
  obtain ⟨hI4, hT5, hf6⟩ := hq3
  have hT7 : Same (TC) x x1 := hT.tr hT5 (fun _ _ h => h)
  refine lv_istore_n (lv' := [(1, .int r2), (0, .ref (g.1 (5 + 21 * i)))]) S.1 S.2.1 dX2_takeEntry_7 rfl hl (by decide) rfl (fun ls hl => ?_)
  refine lv_aload_n S.1 S.2.1 dX2_takeEntry_8 rfl (lv_at hl 1 rfl) ?_
  refine w_cVv (As := []) (rest := []) S hK hN hP hS hl (5 + 21 * i) (by have := h4; omega) ((ceP0 h4) _) rfl (c_X2_relax l D g hg x1 hI4 i h4) (cwV 0 hts gX2_takeEntry_X2_relax rfl rfl rfl (by decide +kernel) ⟨Nat.le_of_ble_eq_true rfl, Nat.le_of_ble_eq_true rfl⟩) rfl rfl (Nat.le_of_ble_eq_true rfl) dX2_takeEntry_9 ⟨Nat.zero_le _, Nat.zero_le _⟩ (fun x8 H locs hq10 hP hS => ?_)
  obtain ⟨hI11, hT12, hf13⟩ := hq10
  have hT14 : Same (TC) x x8 := hT7.tr hT12 (fun _ _ h => h)
  refine lv_iload_n S.1 S.2.1 dX2_takeEntry_12 rfl (lv_at hl 0 rfl) ?_
  refine w_sipush S dX2_takeEntry_13 (by decide) (fun k15 hk15 => ?_)
  refine w_icmp_ne (tgt := 24) S dX2_takeEntry_16 (by decide) (fun hb16 => ?_) (fun hb16 => ?_)
  · refine lv_iload_n S.1 S.2.1 dX2_takeEntry_24 rfl (lv_at hl 0 rfl) ?_
    exact w_iret S hr0 hlk hP hS dX2_takeEntry_25 (⟨hI11, hT14, trivial⟩)
  · refine w_bipush S dX2_takeEntry_19 (by decide) (fun k17 hk17 => ?_)
    refine lv_goto (tgt := 25) S.1 S.2.1 dX2_takeEntry_21 (by decide) ?_
    exact w_iret S hr0 hlk hP hS dX2_takeEntry_25 (⟨hI11, hT14, trivial⟩)
set_option maxRecDepth 100000 in
set_option maxHeartbeats 4000000 in
theorem c_X2_changeLater (l : Launch) (D : va_G) (g : GA) (hg : Inj g) (x : St) (hI : Inv x) (i : Nat) (h4 : i < 4) (a : Int32) (b : Int32) (tk : Int32) (ha : 0 ≤ a.toInt ∧ a.toInt ≤ 24) (hz : 0 ≤ tk.toInt ∧ tk.toInt ≤ 1) : Met l yX2_changeLater wsX2_changeLater ({ frames := 4, cells := 0, slots := 0, locals := 88 } : Room) (va_Pc [.ref (g.1 (5 + 21 * i)), .int a, .int b, .int tk] (WI D g x)) (va_Qi (fun r x2 => Inv x2 ∧ Same TC x x2 ∧ ((x (5 + 21 * i + 12) 4).toInt < 3 → r.toInt = 1) ∧ 0 ≤ r.toInt ∧ r.toInt ≤ 1) (WO D g) (AQ g)) 0 0 (AQ g) := by
  refine w_met (cc := cX2_changeLater) (maxL := 4) (ret := (some .boolean)) (own := RX2) (by decide) rfl rfl (Nat.le_of_ble_eq_true rfl) (fun p e s m below meth co S hr0 hlk hK hN hP hS ls hl => ?_)
  have hts := S.2.2.2.2
  have hl : lv_has ls 4 [(0, .ref (g.1 (5 + 21 * i))), (1, .int a), (2, .int b), (3, .int tk)] := hl
  have hT : Same (TC) x x := Same.rf
  refine lv_aload_n S.1 S.2.1 dX2_changeLater_0 rfl (lv_at hl 0 rfl) ?_
  refine w_get (C := RX2) (T := TX2) (N := 15) S (fun _ h => List.mem_cons_of_mem _ (List.mem_append_left _ (List.mem_append_left _ (List.mem_append_left _ (List.mem_append_left _ (List.mem_append_right _ h)))))) hK hP (5 + 21 * i) (by have := h4; omega) ((ceP0 h4) _) rfl 5 (by decide) (hts _ (List.mem_of_getElem? (i := 1) rfl)) (v := .ref (g.1 (5 + 21 * i + 12))) rfl dX2_changeLater_1 ?_
  refine lv_iload_n S.1 S.2.1 dX2_changeLater_4 rfl (lv_at hl 1 rfl) ?_
  refine lv_iload_n S.1 S.2.1 dX2_changeLater_5 rfl (lv_at hl 2 rfl) ?_
  refine lv_iload_n S.1 S.2.1 dX2_changeLater_6 rfl (lv_at hl 3 rfl) ?_
  refine lv_aload_n S.1 S.2.1 dX2_changeLater_7 rfl (lv_at hl 0 rfl) ?_
  refine w_get (C := RX2) (T := TX2) (N := 15) S (fun _ h => List.mem_cons_of_mem _ (List.mem_append_left _ (List.mem_append_left _ (List.mem_append_left _ (List.mem_append_left _ (List.mem_append_right _ h)))))) hK hP (5 + 21 * i) (by have := h4; omega) ((ceP0 h4) _) rfl 4 (by decide) (hts _ (List.mem_of_getElem? (i := 2) rfl)) (v := .ref (g.1 (5 + 21 * i + 7))) rfl dX2_changeLater_8 ?_
  refine w_cVi (As := []) (rest := [.int tk, .int b, .int a, .ref (g.1 (5 + 21 * i + 12))]) S hK hN hP hS hl (5 + 21 * i + 7) (by have := h4; omega) ((ceP7 h4) _) rfl (c_X1_size l D g hg x hI i h4) (cwV 0 hts gX2_changeLater_X1_size rfl rfl rfl (by decide +kernel) ⟨Nat.le_of_ble_eq_true rfl, Nat.le_of_ble_eq_true rfl⟩) rfl rfl (Nat.le_of_ble_eq_true rfl) dX2_changeLater_11 ⟨Nat.zero_le _, Nat.zero_le _⟩ (fun r2 x1 H locs hq3 hP hS => ?_)
  obtain ⟨ex4, hf5⟩ := hq3
  rw [ex4] at hP
  refine w_cVi (As := [.int a, .int b, .int tk, .int r2]) (rest := []) S hK hN hP hS hl (5 + 21 * i + 12) (by have := h4; omega) ((ceP12 h4) _) rfl (c_X5_add l D g hg x hI i h4 a b tk r2 (by omega) (by omega)) (cwV 4 hts gX2_changeLater_X5_add rfl rfl rfl (by decide +kernel) ⟨Nat.le_of_ble_eq_true rfl, Nat.le_of_ble_eq_true rfl⟩) rfl rfl (Nat.le_of_ble_eq_true rfl) dX2_changeLater_14 ⟨Nat.zero_le _, Nat.zero_le _⟩ (fun r7 x6 H locs hq8 hP hS => ?_)
  obtain ⟨hI9, hT10, hf11⟩ := hq8
  have hT12 : Same (TC) x x6 := hT.tr hT10 (fun _ _ h => h)
  refine w_if_ne (tgt := 22) S dX2_changeLater_17 (by decide) (fun hb13 => ?_) (fun hb13 => ?_)
  · refine lv_aload_n S.1 S.2.1 dX2_changeLater_22 rfl (lv_at hl 0 rfl) ?_
    refine w_cVv (As := []) (rest := []) S hK hN hP hS hl (5 + 21 * i) (by have := h4; omega) ((ceP0 h4) _) rfl (c_X2_makeDueChanges l D g hg x6 hI9 i h4) (cwV 0 hts gX2_changeLater_X2_makeDueChanges rfl rfl rfl (by decide +kernel) ⟨Nat.le_of_ble_eq_true rfl, Nat.le_of_ble_eq_true rfl⟩) rfl rfl (Nat.le_of_ble_eq_true rfl) dX2_changeLater_23 ⟨Nat.zero_le _, Nat.zero_le _⟩ (fun x14 H locs hq16 hP hS => ?_)
    obtain ⟨hI17, hT18, hf19⟩ := hq16
    have hT20 : Same (TC) x x14 := hT12.tr hT18 (fun _ _ h => h)
    refine w_iconst S dX2_changeLater_26 (by decide) (fun k21 hk21 => ?_)
    exact w_zret S hr0 hlk hP hS dX2_changeLater_27 (z01 (by omega) (by omega)) (⟨hI17, hT20, by omega, by omega⟩)
  · refine w_iconst S dX2_changeLater_20 (by decide) (fun k22 hk22 => ?_)
    exact w_zret S hr0 hlk hP hS dX2_changeLater_21 (z01 (by omega) (by omega)) (⟨hI9, hT12, by omega, by omega⟩)
set_option maxRecDepth 100000 in
set_option maxHeartbeats 4000000 in
theorem c_X2_letTimePass (l : Launch) (D : va_G) (g : GA) (hg : Inj g) (x : St) (hI : Inv x) (i : Nat) (h4 : i < 4) : Met l yX2_letTimePass wsX2_letTimePass ({ frames := 1, cells := 0, slots := 0, locals := 21 } : Room) (va_Pc [.ref (g.1 (5 + 21 * i))] (WI D g x)) (va_Qv (fun x2 => Inv x2 ∧ Same TC x x2 ∧ True) (WO D g) (AQ g)) 0 0 (AQ g) := by
  refine w_met (cc := cX2_letTimePass) (maxL := 1) (ret := none) (own := RX2) (by decide) rfl rfl (Nat.le_of_ble_eq_true rfl) (fun p e s m below meth co S hr0 hlk hK hN hP hS ls hl => ?_)
  have hts := S.2.2.2.2
  have hl : lv_has ls 1 [(0, .ref (g.1 (5 + 21 * i)))] := hl
  have hT : Same (TC) x x := Same.rf
  refine lv_aload_n S.1 S.2.1 dX2_letTimePass_0 rfl (lv_at hl 0 rfl) ?_
  refine w_get (C := RX2) (T := TX2) (N := 15) S (fun _ h => List.mem_cons_of_mem _ (List.mem_append_left _ (List.mem_append_left _ (List.mem_append_right _ h)))) hK hP (5 + 21 * i) (by have := h4; omega) ((ceP0 h4) _) rfl 3 (by decide) (hts _ (List.mem_of_getElem? (i := 1) rfl)) (v := .ref (g.1 (5 + 21 * i + 4))) rfl dX2_letTimePass_1 ?_
  refine lv_dup S.1 S.2.1 dX2_letTimePass_4 rfl ?_
  refine w_getN (C := RX4) (T := TX4) (N := 3) S (fun _ h => List.mem_cons_of_mem _ (List.mem_append_left _ (List.mem_append_right _ h))) hK hP (5 + 21 * i + 4) (by have := h4; omega) ((ceP4 h4) _) rfl 2 (by decide) (hN.1 _ (List.mem_of_getElem? (i := 10) rfl)) (v := .int (x (5 + 21 * i + 4) 2)) rfl dX2_letTimePass_5 ?_
  refine lv_topi (fun v1 ev1 => ?_)
  have wv1 : v1.toInt = (x (5 + 21 * i + 4) 2).toInt := by rw [ev1]
  refine w_iconst S dX2_letTimePass_8 (by decide) (fun k2 hk2 => ?_)
  refine lv_iadd S.1 S.2.1 dX2_letTimePass_9 ?_
  refine w_any1 (fun v3 => ?_)
  refine w_putN (C := RX4) (T := TX4) (N := 3) (F := FStore g (5 + 21 * i)) S (fun _ h => List.mem_cons_of_mem _ (List.mem_append_left _ (List.mem_append_right _ h))) tyX4_ok nmX4 hK hg hP hS (5 + 21 * i + 4) (by have := h4; omega) (ceP4 h4) rfl 2 (by decide) (hN.1 _ (List.mem_of_getElem? (i := 10) rfl)) rfl rfl rfl (fun _ => Nat.le_of_ble_eq_true rfl) (fun _ => rfl) dX2_letTimePass_10 (fun x4 H locs ex4 hP hS => ?_)
  have hI5 : Inv x4 := by rw [ex4]; exact hI.upP (j := 4) h4 (by decide) (i_ge _) (i_le _)
  have hT6 : Same (TC) x x4 := by rw [ex4]; exact hT.up (by unfold TC TrC; omega)
  refine lv_aload_n S.1 S.2.1 dX2_letTimePass_13 rfl (lv_at hl 0 rfl) ?_
  refine w_iconst S dX2_letTimePass_14 (by decide) (fun k7 hk7 => ?_)
  refine w_cVi (As := [.int k7]) (rest := []) S hK hN hP hS hl (5 + 21 * i) (by have := h4; omega) ((ceP0 h4) _) rfl (c_X2_isOn l D g hg x4 hI5 i h4 k7 (by omega)) (cwV 1 hts gX2_letTimePass_X2_isOn rfl rfl rfl (by decide +kernel) ⟨Nat.le_of_ble_eq_true rfl, Nat.le_of_ble_eq_true rfl⟩) rfl rfl (Nat.le_of_ble_eq_true rfl) dX2_letTimePass_15 ⟨Nat.zero_le _, Nat.zero_le _⟩ (fun r9 x8 H locs hq10 hP hS => ?_)
  obtain ⟨ex11, hf12⟩ := hq10
  rw [ex11] at hP
  refine w_if_ne (tgt := 55) S dX2_letTimePass_18 (by decide) (fun hb13 => ?_) (fun hb13 => ?_)
  · exact w_vret S hr0 hlk hP hS dX2_letTimePass_55 (⟨hI5, hT6, trivial⟩)
  · refine lv_aload_n S.1 S.2.1 dX2_letTimePass_21 rfl (lv_at hl 0 rfl) ?_
    refine w_get (C := RX2) (T := TX2) (N := 15) S (fun _ h => List.mem_cons_of_mem _ (List.mem_append_left _ (List.mem_append_left _ (List.mem_append_right _ h)))) hK hP (5 + 21 * i) (by have := h4; omega) ((ceP0 h4) _) rfl 1 (by decide) (hts _ (List.mem_of_getElem? (i := 2) rfl)) (v := .ref (g.1 (5 + 21 * i + 1))) rfl dX2_letTimePass_22 ?_
    refine w_bipush S dX2_letTimePass_25 (by decide) (fun k14 hk14 => ?_)
    refine w_iald S hK hP (5 + 21 * i + 1) (by have := h4; omega) (ceP1 h4) (by omega) (by omega) dX2_letTimePass_27 (fun v15 ev15 => ?_)
    have wv15 : v15.toInt = (x4 (5 + 21 * i + 1) k14.toInt.toNat).toInt := by rw [ev15]
    refine w_if_le (tgt := 55) S dX2_letTimePass_28 (by decide) (fun hb16 => ?_) (fun hb16 => ?_)
    · exact w_vret S hr0 hlk hP hS dX2_letTimePass_55 (⟨hI5, hT6, trivial⟩)
    · refine lv_aload_n S.1 S.2.1 dX2_letTimePass_31 rfl (lv_at hl 0 rfl) ?_
      refine w_get (C := RX2) (T := TX2) (N := 15) S (fun _ h => List.mem_cons_of_mem _ (List.mem_append_left _ (List.mem_append_left _ (List.mem_append_right _ h)))) hK hP (5 + 21 * i) (by have := h4; omega) ((ceP0 h4) _) rfl 3 (by decide) (hts _ (List.mem_of_getElem? (i := 1) rfl)) (v := .ref (g.1 (5 + 21 * i + 4))) rfl dX2_letTimePass_32 ?_
      refine w_getN (C := RX4) (T := TX4) (N := 3) S (fun _ h => List.mem_cons_of_mem _ (List.mem_append_left _ (List.mem_append_right _ h))) hK hP (5 + 21 * i + 4) (by have := h4; omega) ((ceP4 h4) _) rfl 2 (by decide) (hN.1 _ (List.mem_of_getElem? (i := 10) rfl)) (v := .int (x4 (5 + 21 * i + 4) 2)) rfl dX2_letTimePass_35 ?_
      refine lv_topi (fun v17 ev17 => ?_)
      have wv17 : v17.toInt = (x4 (5 + 21 * i + 4) 2).toInt := by rw [ev17]
      refine lv_aload_n S.1 S.2.1 dX2_letTimePass_38 rfl (lv_at hl 0 rfl) ?_
      refine w_get (C := RX2) (T := TX2) (N := 15) S (fun _ h => List.mem_cons_of_mem _ (List.mem_append_left _ (List.mem_append_left _ (List.mem_append_right _ h)))) hK hP (5 + 21 * i) (by have := h4; omega) ((ceP0 h4) _) rfl 1 (by decide) (hts _ (List.mem_of_getElem? (i := 2) rfl)) (v := .ref (g.1 (5 + 21 * i + 1))) rfl dX2_letTimePass_39 ?_
      refine w_bipush S dX2_letTimePass_42 (by decide) (fun k18 hk18 => ?_)
      refine w_iald S hK hP (5 + 21 * i + 1) (by have := h4; omega) (ceP1 h4) (by omega) (by omega) dX2_letTimePass_44 (fun v19 ev19 => ?_)
      have wv19 : v19.toInt = (x4 (5 + 21 * i + 1) k18.toInt.toNat).toInt := by rw [ev19]
      refine w_icmp_lt (tgt := 55) S dX2_letTimePass_45 (by decide) (fun hb20 => ?_) (fun hb20 => ?_)
      · exact w_vret S hr0 hlk hP hS dX2_letTimePass_55 (⟨hI5, hT6, trivial⟩)
      · refine lv_aload_n S.1 S.2.1 dX2_letTimePass_48 rfl (lv_at hl 0 rfl) ?_
        refine w_get (C := RX2) (T := TX2) (N := 15) S (fun _ h => List.mem_cons_of_mem _ (List.mem_append_left _ (List.mem_append_left _ (List.mem_append_right _ h)))) hK hP (5 + 21 * i) (by have := h4; omega) ((ceP0 h4) _) rfl 3 (by decide) (hts _ (List.mem_of_getElem? (i := 1) rfl)) (v := .ref (g.1 (5 + 21 * i + 4))) rfl dX2_letTimePass_49 ?_
        refine w_cVv (As := []) (rest := []) S hK hN hP hS hl (5 + 21 * i + 4) (by have := h4; omega) ((ceP4 h4) _) rfl (c_X4_releaseAll l D g hg x4 hI5 i h4) (cwV 0 hts gX2_letTimePass_X4_releaseAll rfl rfl rfl (by decide +kernel) ⟨Nat.le_of_ble_eq_true rfl, Nat.le_of_ble_eq_true rfl⟩) rfl rfl (Nat.le_of_ble_eq_true rfl) dX2_letTimePass_52 ⟨Nat.zero_le _, Nat.zero_le _⟩ (fun x21 H locs hq23 hP hS => ?_)
        obtain ⟨hI24, hT25, hf26⟩ := hq23
        have hT27 : Same (TC) x x21 := hT6.tr hT25 (fun _ _ h => h)
        exact w_vret S hr0 hlk hP hS dX2_letTimePass_55 (⟨hI24, hT27, trivial⟩)
set_option maxRecDepth 100000 in
set_option maxHeartbeats 4000000 in
theorem c_X2_draftNewline (l : Launch) (D : va_G) (g : GA) (hg : Inj g) (x : St) (hI : Inv x) (i : Nat) (h4 : i < 4) : Met l yX2_draftNewline wsX2_draftNewline ({ frames := 1, cells := 0, slots := 0, locals := 22 } : Room) (va_Pc [.ref (g.1 (5 + 21 * i))] (WI D g x)) (va_Qv (fun x2 => Inv x2 ∧ Same TC x x2 ∧ True) (WO D g) (AQ g)) 0 0 (AQ g) := by
  refine w_met (cc := cX2_draftNewline) (maxL := 1) (ret := none) (own := RX2) (by decide) rfl rfl (Nat.le_of_ble_eq_true rfl) (fun p e s m below meth co S hr0 hlk hK hN hP hS ls hl => ?_)
  have hts := S.2.2.2.2
  have hl : lv_has ls 1 [(0, .ref (g.1 (5 + 21 * i)))] := hl
  have hT : Same (TC) x x := Same.rf
  refine lv_aload_n S.1 S.2.1 dX2_draftNewline_0 rfl (lv_at hl 0 rfl) ?_
  refine w_get (C := RX2) (T := TX2) (N := 15) S (fun _ h => List.mem_cons_of_mem _ (List.mem_append_left _ (List.mem_append_right _ h))) hK hP (5 + 21 * i) (by have := h4; omega) ((ceP0 h4) _) rfl 6 (by decide) (hts _ (List.mem_of_getElem? (i := 1) rfl)) (v := .ref (g.1 (5 + 21 * i + 17))) rfl dX2_draftNewline_1 ?_
  refine w_cVv (As := []) (rest := []) S hK hN hP hS hl (5 + 21 * i + 17) (by have := h4; omega) ((ceP17 h4) _) rfl (c_X3_empty l D g hg x hI (5 + 21 * i + 17) 134 (isRow17 h4)) (cwV 0 hts gX2_draftNewline_X3_empty rfl rfl rfl (by decide +kernel) ⟨Nat.le_of_ble_eq_true rfl, Nat.le_of_ble_eq_true rfl⟩) rfl rfl (Nat.le_of_ble_eq_true rfl) dX2_draftNewline_4 ⟨Nat.zero_le _, Nat.zero_le _⟩ (fun x1 H locs hq3 hP hS => ?_)
  obtain ⟨hI4, hT5, hf6⟩ := hq3
  have hT7 : Same (TC) x x1 := hT.tr hT5 (fun c0 k0 h => by unfold TC TrC at h; unfold TR; omega)
  refine lv_aload_n S.1 S.2.1 dX2_draftNewline_7 rfl (lv_at hl 0 rfl) ?_
  refine w_get (C := RX2) (T := TX2) (N := 15) S (fun _ h => List.mem_cons_of_mem _ (List.mem_append_left _ (List.mem_append_right _ h))) hK hP (5 + 21 * i) (by have := h4; omega) ((ceP0 h4) _) rfl 6 (by decide) (hts _ (List.mem_of_getElem? (i := 1) rfl)) (v := .ref (g.1 (5 + 21 * i + 17))) rfl dX2_draftNewline_8 ?_
  refine w_bipush S dX2_draftNewline_11 (by decide) (fun k8 hk8 => ?_)
  refine w_cVv (As := [.int k8]) (rest := []) S hK hN hP hS hl (5 + 21 * i + 17) (by have := h4; omega) ((ceP17 h4) _) rfl (c_X3_add l D g hg x1 hI4 (5 + 21 * i + 17) 134 (isRow17 h4) k8) (cwV 1 hts gX2_draftNewline_X3_add rfl rfl rfl (by decide +kernel) ⟨Nat.le_of_ble_eq_true rfl, Nat.le_of_ble_eq_true rfl⟩) rfl rfl (Nat.le_of_ble_eq_true rfl) dX2_draftNewline_13 ⟨Nat.zero_le _, Nat.zero_le _⟩ (fun x9 H locs hq11 hP hS => ?_)
  obtain ⟨hI12, hT13, hf14⟩ := hq11
  have hT15 : Same (TC) x x9 := hT7.tr hT13 (fun c0 k0 h => by unfold TC TrC at h; unfold TR; omega)
  refine lv_aload_n S.1 S.2.1 dX2_draftNewline_16 rfl (lv_at hl 0 rfl) ?_
  refine w_get (C := RX2) (T := TX2) (N := 15) S (fun _ h => List.mem_cons_of_mem _ (List.mem_append_left _ (List.mem_append_right _ h))) hK hP (5 + 21 * i) (by have := h4; omega) ((ceP0 h4) _) rfl 6 (by decide) (hts _ (List.mem_of_getElem? (i := 1) rfl)) (v := .ref (g.1 (5 + 21 * i + 17))) rfl dX2_draftNewline_17 ?_
  refine w_bipush S dX2_draftNewline_20 (by decide) (fun k16 hk16 => ?_)
  refine w_cVv (As := [.int k16]) (rest := []) S hK hN hP hS hl (5 + 21 * i + 17) (by have := h4; omega) ((ceP17 h4) _) rfl (c_X3_add l D g hg x9 hI12 (5 + 21 * i + 17) 134 (isRow17 h4) k16) (cwV 1 hts gX2_draftNewline_X3_add rfl rfl rfl (by decide +kernel) ⟨Nat.le_of_ble_eq_true rfl, Nat.le_of_ble_eq_true rfl⟩) rfl rfl (Nat.le_of_ble_eq_true rfl) dX2_draftNewline_22 ⟨Nat.zero_le _, Nat.zero_le _⟩ (fun x17 H locs hq19 hP hS => ?_)
  obtain ⟨hI20, hT21, hf22⟩ := hq19
  have hT23 : Same (TC) x x17 := hT15.tr hT21 (fun c0 k0 h => by unfold TC TrC at h; unfold TR; omega)
  exact w_vret S hr0 hlk hP hS dX2_draftNewline_25 (⟨hI20, hT23, trivial⟩)
set_option maxRecDepth 100000 in
set_option maxHeartbeats 4000000 in
theorem c_X2_addForm (l : Launch) (D : va_G) (g : GA) (hg : Inj g) (x : St) (hI : Inv x) (i : Nat) (h4 : i < 4) (b : Int32) : Met l yX2_addForm wsX2_addForm ({ frames := 1, cells := 0, slots := 0, locals := 22 } : Room) (va_Pc [.ref (g.1 (5 + 21 * i)), .int b] (WI D g x)) (va_Qv (fun x2 => Inv x2 ∧ Same TC x x2 ∧ True) (WO D g) (AQ g)) 0 0 (AQ g) := by
  refine w_met (cc := cX2_addForm) (maxL := 2) (ret := none) (own := RX2) (by decide) rfl rfl (Nat.le_of_ble_eq_true rfl) (fun p e s m below meth co S hr0 hlk hK hN hP hS ls hl => ?_)
  have hts := S.2.2.2.2
  have hl : lv_has ls 2 [(0, .ref (g.1 (5 + 21 * i))), (1, .int b)] := hl
  have hT : Same (TC) x x := Same.rf
  refine lv_iload_n S.1 S.2.1 dX2_addForm_0 rfl (lv_at hl 1 rfl) ?_
  refine w_cSi (As := [.int b]) (rest := []) S hK hN hP hS hl (c_X2_isPlain l D g hg x hI b) (va_cwS 1 hts gX2_addForm_X2_isPlain rfl rfl rfl (by decide +kernel) ⟨Nat.le_of_ble_eq_true rfl, Nat.le_of_ble_eq_true rfl⟩) rfl rfl (Nat.le_of_ble_eq_true rfl) dX2_addForm_1 ⟨Nat.zero_le _, Nat.zero_le _⟩ (fun r2 x1 H locs hq3 hP hS => ?_)
  obtain ⟨ex4, hf5⟩ := hq3
  rw [ex4] at hP
  refine w_if_eq (tgt := 18) S dX2_addForm_4 (by decide) (fun hb6 => ?_) (fun hb6 => ?_)
  · refine lv_aload_n S.1 S.2.1 dX2_addForm_18 rfl (lv_at hl 0 rfl) ?_
    refine w_get (C := RX2) (T := TX2) (N := 15) S (fun _ h => List.mem_cons_of_mem _ (List.mem_append_left _ (List.mem_append_right _ h))) hK hP (5 + 21 * i) (by have := h4; omega) ((ceP0 h4) _) rfl 6 (by decide) (hts _ (List.mem_of_getElem? (i := 1) rfl)) (v := .ref (g.1 (5 + 21 * i + 17))) rfl dX2_addForm_19 ?_
    refine w_bipush S dX2_addForm_22 (by decide) (fun k7 hk7 => ?_)
    refine w_cVv (As := [.int k7]) (rest := []) S hK hN hP hS hl (5 + 21 * i + 17) (by have := h4; omega) ((ceP17 h4) _) rfl (c_X3_add l D g hg x hI (5 + 21 * i + 17) 134 (isRow17 h4) k7) (cwV 1 hts gX2_addForm_X3_add rfl rfl rfl (by decide +kernel) ⟨Nat.le_of_ble_eq_true rfl, Nat.le_of_ble_eq_true rfl⟩) rfl rfl (Nat.le_of_ble_eq_true rfl) dX2_addForm_24 ⟨Nat.zero_le _, Nat.zero_le _⟩ (fun x8 H locs hq10 hP hS => ?_)
    obtain ⟨hI11, hT12, hf13⟩ := hq10
    have hT14 : Same (TC) x x8 := hT.tr hT12 (fun c0 k0 h => by unfold TC TrC at h; unfold TR; omega)
    refine lv_aload_n S.1 S.2.1 dX2_addForm_27 rfl (lv_at hl 0 rfl) ?_
    refine w_get (C := RX2) (T := TX2) (N := 15) S (fun _ h => List.mem_cons_of_mem _ (List.mem_append_left _ (List.mem_append_right _ h))) hK hP (5 + 21 * i) (by have := h4; omega) ((ceP0 h4) _) rfl 6 (by decide) (hts _ (List.mem_of_getElem? (i := 1) rfl)) (v := .ref (g.1 (5 + 21 * i + 17))) rfl dX2_addForm_28 ?_
    refine lv_iload_n S.1 S.2.1 dX2_addForm_31 rfl (lv_at hl 1 rfl) ?_
    refine w_bipush S dX2_addForm_32 (by decide) (fun k15 hk15 => ?_)
    refine w_icmp_ne (tgt := 42) S dX2_addForm_34 (by decide) (fun hb16 => ?_) (fun hb16 => ?_)
    · refine lv_iload_n S.1 S.2.1 dX2_addForm_42 rfl (lv_at hl 1 rfl) ?_
      refine w_bipush S dX2_addForm_43 (by decide) (fun k17 hk17 => ?_)
      refine lv_iadd S.1 S.2.1 dX2_addForm_45 ?_
      refine w_any1 (fun v18 => ?_)
      refine w_cVv (As := [.int v18]) (rest := []) S hK hN hP hS hl (5 + 21 * i + 17) (by have := h4; omega) ((ceP17 h4) _) rfl (c_X3_add l D g hg x8 hI11 (5 + 21 * i + 17) 134 (isRow17 h4) v18) (cwV 1 hts gX2_addForm_X3_add rfl rfl rfl (by decide +kernel) ⟨Nat.le_of_ble_eq_true rfl, Nat.le_of_ble_eq_true rfl⟩) rfl rfl (Nat.le_of_ble_eq_true rfl) dX2_addForm_46 ⟨Nat.zero_le _, Nat.zero_le _⟩ (fun x19 H locs hq21 hP hS => ?_)
      obtain ⟨hI22, hT23, hf24⟩ := hq21
      have hT25 : Same (TC) x x19 := hT14.tr hT23 (fun c0 k0 h => by unfold TC TrC at h; unfold TR; omega)
      exact w_vret S hr0 hlk hP hS dX2_addForm_49 (⟨hI22, hT25, trivial⟩)
    · refine w_bipush S dX2_addForm_37 (by decide) (fun k26 hk26 => ?_)
      refine lv_goto (tgt := 46) S.1 S.2.1 dX2_addForm_39 (by decide) ?_
      refine w_cVv (As := [.int k26]) (rest := []) S hK hN hP hS hl (5 + 21 * i + 17) (by have := h4; omega) ((ceP17 h4) _) rfl (c_X3_add l D g hg x8 hI11 (5 + 21 * i + 17) 134 (isRow17 h4) k26) (cwV 1 hts gX2_addForm_X3_add rfl rfl rfl (by decide +kernel) ⟨Nat.le_of_ble_eq_true rfl, Nat.le_of_ble_eq_true rfl⟩) rfl rfl (Nat.le_of_ble_eq_true rfl) dX2_addForm_46 ⟨Nat.zero_le _, Nat.zero_le _⟩ (fun x27 H locs hq29 hP hS => ?_)
      obtain ⟨hI30, hT31, hf32⟩ := hq29
      have hT33 : Same (TC) x x27 := hT14.tr hT31 (fun c0 k0 h => by unfold TC TrC at h; unfold TR; omega)
      exact w_vret S hr0 hlk hP hS dX2_addForm_49 (⟨hI30, hT33, trivial⟩)
  · refine lv_aload_n S.1 S.2.1 dX2_addForm_7 rfl (lv_at hl 0 rfl) ?_
    refine w_get (C := RX2) (T := TX2) (N := 15) S (fun _ h => List.mem_cons_of_mem _ (List.mem_append_left _ (List.mem_append_right _ h))) hK hP (5 + 21 * i) (by have := h4; omega) ((ceP0 h4) _) rfl 6 (by decide) (hts _ (List.mem_of_getElem? (i := 1) rfl)) (v := .ref (g.1 (5 + 21 * i + 17))) rfl dX2_addForm_8 ?_
    refine lv_iload_n S.1 S.2.1 dX2_addForm_11 rfl (lv_at hl 1 rfl) ?_
    refine w_cVv (As := [.int b]) (rest := []) S hK hN hP hS hl (5 + 21 * i + 17) (by have := h4; omega) ((ceP17 h4) _) rfl (c_X3_add l D g hg x hI (5 + 21 * i + 17) 134 (isRow17 h4) b) (cwV 1 hts gX2_addForm_X3_add rfl rfl rfl (by decide +kernel) ⟨Nat.le_of_ble_eq_true rfl, Nat.le_of_ble_eq_true rfl⟩) rfl rfl (Nat.le_of_ble_eq_true rfl) dX2_addForm_12 ⟨Nat.zero_le _, Nat.zero_le _⟩ (fun x34 H locs hq36 hP hS => ?_)
    obtain ⟨hI37, hT38, hf39⟩ := hq36
    have hT40 : Same (TC) x x34 := hT.tr hT38 (fun c0 k0 h => by unfold TC TrC at h; unfold TR; omega)
    refine lv_goto (tgt := 49) S.1 S.2.1 dX2_addForm_15 (by decide) ?_
    exact w_vret S hr0 hlk hP hS dX2_addForm_49 (⟨hI37, hT40, trivial⟩)
set_option maxRecDepth 100000 in
set_option maxHeartbeats 4000000 in
theorem c_X2_draftForm (l : Launch) (D : va_G) (g : GA) (hg : Inj g) (x : St) (hI : Inv x) (i : Nat) (h4 : i < 4) (b : Int32) : Met l yX2_draftForm wsX2_draftForm ({ frames := 2, cells := 0, slots := 0, locals := 43 } : Room) (va_Pc [.ref (g.1 (5 + 21 * i)), .int b] (WI D g x)) (va_Qv (fun x2 => Inv x2 ∧ Same TC x x2 ∧ True) (WO D g) (AQ g)) 0 0 (AQ g) := by
  refine w_met (cc := cX2_draftForm) (maxL := 2) (ret := none) (own := RX2) (by decide) rfl rfl (Nat.le_of_ble_eq_true rfl) (fun p e s m below meth co S hr0 hlk hK hN hP hS ls hl => ?_)
  have hts := S.2.2.2.2
  have hl : lv_has ls 2 [(0, .ref (g.1 (5 + 21 * i))), (1, .int b)] := hl
  have hT : Same (TC) x x := Same.rf
  refine lv_aload_n S.1 S.2.1 dX2_draftForm_0 rfl (lv_at hl 0 rfl) ?_
  refine w_get (C := RX2) (T := TX2) (N := 15) S (fun _ h => List.mem_cons_of_mem _ (List.mem_append_left _ (List.mem_append_right _ h))) hK hP (5 + 21 * i) (by have := h4; omega) ((ceP0 h4) _) rfl 6 (by decide) (hts _ (List.mem_of_getElem? (i := 1) rfl)) (v := .ref (g.1 (5 + 21 * i + 17))) rfl dX2_draftForm_1 ?_
  refine w_cVv (As := []) (rest := []) S hK hN hP hS hl (5 + 21 * i + 17) (by have := h4; omega) ((ceP17 h4) _) rfl (c_X3_empty l D g hg x hI (5 + 21 * i + 17) 134 (isRow17 h4)) (cwV 0 hts gX2_draftForm_X3_empty rfl rfl rfl (by decide +kernel) ⟨Nat.le_of_ble_eq_true rfl, Nat.le_of_ble_eq_true rfl⟩) rfl rfl (Nat.le_of_ble_eq_true rfl) dX2_draftForm_4 ⟨Nat.zero_le _, Nat.zero_le _⟩ (fun x1 H locs hq3 hP hS => ?_)
  obtain ⟨hI4, hT5, hf6⟩ := hq3
  have hT7 : Same (TC) x x1 := hT.tr hT5 (fun c0 k0 h => by unfold TC TrC at h; unfold TR; omega)
  refine lv_aload_n S.1 S.2.1 dX2_draftForm_7 rfl (lv_at hl 0 rfl) ?_
  refine lv_iload_n S.1 S.2.1 dX2_draftForm_8 rfl (lv_at hl 1 rfl) ?_
  refine w_cVv (As := [.int b]) (rest := []) S hK hN hP hS hl (5 + 21 * i) (by have := h4; omega) ((ceP0 h4) _) rfl (c_X2_addForm l D g hg x1 hI4 i h4 b) (cwV 1 hts gX2_draftForm_X2_addForm rfl rfl rfl (by decide +kernel) ⟨Nat.le_of_ble_eq_true rfl, Nat.le_of_ble_eq_true rfl⟩) rfl rfl (Nat.le_of_ble_eq_true rfl) dX2_draftForm_9 ⟨Nat.zero_le _, Nat.zero_le _⟩ (fun x8 H locs hq10 hP hS => ?_)
  obtain ⟨hI11, hT12, hf13⟩ := hq10
  have hT14 : Same (TC) x x8 := hT7.tr hT12 (fun _ _ h => h)
  exact w_vret S hr0 hlk hP hS dX2_draftForm_12 (⟨hI11, hT14, trivial⟩)
set_option maxRecDepth 100000 in
set_option maxHeartbeats 4000000 in
theorem c_X2_echo (l : Launch) (D : va_G) (g : GA) (hg : Inj g) (x : St) (hI : Inv x) (i : Nat) (h4 : i < 4) : Met l yX2_echo wsX2_echo ({ frames := 2, cells := 0, slots := 0, locals := 45 } : Room) (va_Pc [.ref (g.1 (5 + 21 * i))] (WI D g x)) (va_Qv (fun x2 => Inv x2 ∧ Same TC x x2 ∧ True) (WO D g) (AQ g)) 0 0 (AQ g) := by
  refine w_met (cc := cX2_echo) (maxL := 1) (ret := none) (own := RX2) (by decide) rfl rfl (Nat.le_of_ble_eq_true rfl) (fun p e s m below meth co S hr0 hlk hK hN hP hS ls hl => ?_)
  have hts := S.2.2.2.2
  have hl : lv_has ls 1 [(0, .ref (g.1 (5 + 21 * i)))] := hl
  have hT : Same (TC) x x := Same.rf
  refine lv_aload_n S.1 S.2.1 dX2_echo_0 rfl (lv_at hl 0 rfl) ?_
  refine w_iconst S dX2_echo_1 (by decide) (fun k1 hk1 => ?_)
  refine w_cVi (As := [.int k1]) (rest := []) S hK hN hP hS hl (5 + 21 * i) (by have := h4; omega) ((ceP0 h4) _) rfl (c_X2_isOn l D g hg x hI i h4 k1 (by omega)) (cwV 1 hts gX2_echo_X2_isOn rfl rfl rfl (by decide +kernel) ⟨Nat.le_of_ble_eq_true rfl, Nat.le_of_ble_eq_true rfl⟩) rfl rfl (Nat.le_of_ble_eq_true rfl) dX2_echo_2 ⟨Nat.zero_le _, Nat.zero_le _⟩ (fun r3 x2 H locs hq4 hP hS => ?_)
  obtain ⟨ex5, hf6⟩ := hq4
  rw [ex5] at hP
  refine w_if_eq (tgt := 38) S dX2_echo_5 (by decide) (fun hb7 => ?_) (fun hb7 => ?_)
  · exact w_vret S hr0 hlk hP hS dX2_echo_38 (⟨hI, hT, trivial⟩)
  · refine lv_aload_n S.1 S.2.1 dX2_echo_8 rfl (lv_at hl 0 rfl) ?_
    refine w_get (C := RX2) (T := TX2) (N := 15) S (fun _ h => List.mem_cons_of_mem _ (List.mem_append_left _ (List.mem_append_left _ (List.mem_append_right _ h)))) hK hP (5 + 21 * i) (by have := h4; omega) ((ceP0 h4) _) rfl 4 (by decide) (hts _ (List.mem_of_getElem? (i := 1) rfl)) (v := .ref (g.1 (5 + 21 * i + 7))) rfl dX2_echo_9 ?_
    refine lv_aload_n S.1 S.2.1 dX2_echo_12 rfl (lv_at hl 0 rfl) ?_
    refine w_get (C := RX2) (T := TX2) (N := 15) S (fun _ h => List.mem_cons_of_mem _ (List.mem_append_left _ (List.mem_append_left _ (List.mem_append_right _ h)))) hK hP (5 + 21 * i) (by have := h4; omega) ((ceP0 h4) _) rfl 6 (by decide) (hts _ (List.mem_of_getElem? (i := 2) rfl)) (v := .ref (g.1 (5 + 21 * i + 17))) rfl dX2_echo_13 ?_
    refine w_cVi (As := [.ref (g.1 (5 + 21 * i + 17))]) (rest := []) S hK hN hP hS hl (5 + 21 * i + 7) (by have := h4; omega) ((ceP7 h4) _) rfl (c_X1_accept l D g hg x hI i h4) (cwV 1 hts gX2_echo_X1_accept rfl rfl rfl (by decide +kernel) ⟨Nat.le_of_ble_eq_true rfl, Nat.le_of_ble_eq_true rfl⟩) rfl rfl (Nat.le_of_ble_eq_true rfl) dX2_echo_16 ⟨Nat.zero_le _, Nat.zero_le _⟩ (fun r9 x8 H locs hq10 hP hS => ?_)
    obtain ⟨hI11, hT12, hf13⟩ := hq10
    have hT14 : Same (TC) x x8 := hT.tr hT12 (fun _ _ h => h)
    refine w_if_eq (tgt := 38) S dX2_echo_19 (by decide) (fun hb15 => ?_) (fun hb15 => ?_)
    · exact w_vret S hr0 hlk hP hS dX2_echo_38 (⟨hI11, hT14, trivial⟩)
    · refine lv_aload_n S.1 S.2.1 dX2_echo_22 rfl (lv_at hl 0 rfl) ?_
      refine w_get (C := RX2) (T := TX2) (N := 15) S (fun _ h => List.mem_cons_of_mem _ (List.mem_append_left _ (List.mem_append_left _ (List.mem_append_right _ h)))) hK hP (5 + 21 * i) (by have := h4; omega) ((ceP0 h4) _) rfl 8 (by decide) (hts _ (List.mem_of_getElem? (i := 3) rfl)) (v := .ref (g.1 (5 + 21 * i + 20))) rfl dX2_echo_23 ?_
      refine w_iconst S dX2_echo_26 (by decide) (fun k16 hk16 => ?_)
      refine lv_dup2_11 S.1 S.2.1 dX2_echo_27 rfl rfl ?_
      refine w_iald S hK hP (5 + 21 * i + 20) (by have := h4; omega) (ceP20 h4) (by omega) (by omega) dX2_echo_28 (fun v17 ev17 => ?_)
      have wv17 : v17.toInt = (x8 (5 + 21 * i + 20) k16.toInt.toNat).toInt := by rw [ev17]
      refine lv_aload_n S.1 S.2.1 dX2_echo_29 rfl (lv_at hl 0 rfl) ?_
      refine w_get (C := RX2) (T := TX2) (N := 15) S (fun _ h => List.mem_cons_of_mem _ (List.mem_append_left _ (List.mem_append_left _ (List.mem_append_right _ h)))) hK hP (5 + 21 * i) (by have := h4; omega) ((ceP0 h4) _) rfl 6 (by decide) (hts _ (List.mem_of_getElem? (i := 2) rfl)) (v := .ref (g.1 (5 + 21 * i + 17))) rfl dX2_echo_30 ?_
      refine w_getN (C := RX3) (T := TX3) (N := 3) S (fun _ h => List.mem_cons_of_mem _ (List.mem_append_left _ (List.mem_append_right _ h))) hK hP (5 + 21 * i + 17) (by have := h4; omega) ((ceP17 h4) _) rfl 2 (by decide) (hN.1 _ (List.mem_of_getElem? (i := 6) rfl)) (v := .int (x8 (5 + 21 * i + 17) 2)) rfl dX2_echo_33 ?_
      refine lv_topi (fun v18 ev18 => ?_)
      have wv18 : v18.toInt = (x8 (5 + 21 * i + 17) 2).toInt := by rw [ev18]
      have rv18 : (0 : Int) ≤ v18.toInt ∧ v18.toInt ≤ (134 : Int) := by rw [ev18]; exact hI11.atP (j := 17) (k := 2) h4 (by decide)
      refine lv_iadd S.1 S.2.1 dX2_echo_36 ?_
      refine w_any1 (fun v19 => ?_)
      refine w_iast S hK hg hP hS (5 + 21 * i + 20) (by have := h4; omega) (ceP20 h4) (by omega) (by omega) dX2_echo_37 (fun x20 H locs ex20 hP hS => ?_)
      have hI21 : Inv x20 := by rw [ex20]; exact hI11.upP (j := 20) h4 (by decide) (i_ge _) (i_le _)
      have hT22 : Same (TC) x x20 := by rw [ex20]; exact hT14.up (by unfold TC TrC; omega)
      exact w_vret S hr0 hlk hP hS dX2_echo_38 (⟨hI21, hT22, trivial⟩)
set_option maxRecDepth 100000 in
set_option maxHeartbeats 4000000 in
theorem c_X2_expand (l : Launch) (D : va_G) (g : GA) (hg : Inj g) (x : St) (hI : Inv x) (i : Nat) (h4 : i < 4) (b : Int32) : Met l yX2_expand wsX2_expand ({ frames := 2, cells := 0, slots := 0, locals := 42 } : Room) (va_Pc [.ref (g.1 (5 + 21 * i)), .int b] (WI D g x)) (va_Qv (fun x2 => Inv x2 ∧ Same TC x x2 ∧ True) (WO D g) (AQ g)) 0 0 (AQ g) := by
  refine w_met (cc := cX2_expand) (maxL := 5) (ret := none) (own := RX2) (by decide) rfl rfl (Nat.le_of_ble_eq_true rfl) (fun p e s m below meth co S hr0 hlk hK hN hP hS ls hl => ?_)
  have hts := S.2.2.2.2
  have hl : lv_has ls 5 [(0, .ref (g.1 (5 + 21 * i))), (1, .int b)] := hl
  have hT : Same (TC) x x := Same.rf
  have J67 : ∀ (n0 : Nat) (x_67 : St) (H : Heap) (locs : List Loc) (ls : Array Slot) (y67_2 : Int32) (y67_3 : Int32) (y67_4 : Int32), Inv x_67 → Same (TC) x x_67 → (0 ≤ y67_4.toInt) → (y67_3.toInt - y67_4.toInt).toNat < n0 → va_P D vwCl (WL g x_67) H → va_S (AQ g) s.heap H locs → lv_has ls 5 [(0, .ref (g.1 (5 + 21 * i))), (1, .int b), (2, .int y67_2), (3, .int y67_3), (4, .int y67_4)] → W p l e ({ frames := 2, cells := 0, slots := 0, locals := 42 } : Room) s m ([.ref (g.1 (5 + 21 * i)), .int b] : List Value).toArray below meth co H locs 0 0 (MQ below (va_Qv (fun x2 => Inv x2 ∧ Same TC x x2 ∧ True) (WO D g) (AQ g)) ([.ref (g.1 (5 + 21 * i)), .int b] : List Value).toArray s 0 0 (AQ g)) (F0 m 67 ls []) := by
    intro n0
    induction n0 with
    | zero => intro x_67 H locs ls y67_2 y67_3 y67_4 hI_67 hT_67 hf67_0 hm_67 hP hS hl; exact absurd hm_67 (Nat.not_lt_zero _)
    | succ n0 ih67 =>
      intro x_67 H locs ls y67_2 y67_3 y67_4 hI_67 hT_67 hf67_0 hm_67 hP hS hl
      have hb_ := i_le y67_3
      refine lv_iload S.1 S.2.1 dX2_expand_67 (lv_at hl 4 rfl) ?_
      refine lv_iload_n S.1 S.2.1 dX2_expand_69 rfl (lv_at hl 3 rfl) ?_
      refine w_icmp_ge (tgt := 96) S dX2_expand_70 (by decide) (fun hb1 => ?_) (fun hb1 => ?_)
      · exact w_vret S hr0 hlk hP hS dX2_expand_96 (⟨hI_67, hT_67, trivial⟩)
      · refine lv_aload_n S.1 S.2.1 dX2_expand_73 rfl (lv_at hl 0 rfl) ?_
        refine w_get (C := RX2) (T := TX2) (N := 15) S (fun _ h => List.mem_cons_of_mem _ (List.mem_append_left _ (List.mem_append_left _ (List.mem_append_right _ h)))) hK hP (5 + 21 * i) (by have := h4; omega) ((ceP0 h4) _) rfl 6 (by decide) (hts _ (List.mem_of_getElem? (i := 2) rfl)) (v := .ref (g.1 (5 + 21 * i + 17))) rfl dX2_expand_74 ?_
        refine lv_iload_n S.1 S.2.1 dX2_expand_77 rfl (lv_at hl 2 rfl) ?_
        refine w_if_eq (tgt := 86) S dX2_expand_78 (by decide) (fun hb2 => ?_) (fun hb2 => ?_)
        · refine lv_iload_n S.1 S.2.1 dX2_expand_86 rfl (lv_at hl 1 rfl) ?_
          refine w_cVv (As := [.int b]) (rest := []) S hK hN hP hS hl (5 + 21 * i + 17) (by have := h4; omega) ((ceP17 h4) _) rfl (c_X3_add l D g hg x_67 hI_67 (5 + 21 * i + 17) 134 (isRow17 h4) b) (cwV 1 hts gX2_expand_X3_add rfl rfl rfl (by decide +kernel) ⟨Nat.le_of_ble_eq_true rfl, Nat.le_of_ble_eq_true rfl⟩) rfl rfl (Nat.le_of_ble_eq_true rfl) dX2_expand_87 ⟨Nat.zero_le _, Nat.zero_le _⟩ (fun x3 H locs hq5 hP hS => ?_)
          obtain ⟨hI6, hT7, hf8⟩ := hq5
          have hT9 : Same (TC) x x3 := hT_67.tr hT7 (fun c0 k0 h => by unfold TC TrC at h; unfold TR; omega)
          refine w_iinc (lv' := [(0, .ref (g.1 (5 + 21 * i))), (1, .int b), (2, .int y67_2), (3, .int y67_3)]) S dX2_expand_90 hl (k := 4) rfl (by decide) (by decide) (by omega) (by omega) (fun _ => rfl) (fun v10 ls hv10 hl => ?_)
          refine lv_goto (tgt := 67) S.1 S.2.1 dX2_expand_93 (by decide) ?_
          exact ih67 _ _ _ _ y67_2 y67_3 v10 hI6 hT9 (by omega) (by omega) hP hS (lv_sub hl [1, 2, 3, 4, 0] rfl)
        · refine w_bipush S dX2_expand_81 (by decide) (fun k11 hk11 => ?_)
          refine lv_goto (tgt := 87) S.1 S.2.1 dX2_expand_83 (by decide) ?_
          refine w_cVv (As := [.int k11]) (rest := []) S hK hN hP hS hl (5 + 21 * i + 17) (by have := h4; omega) ((ceP17 h4) _) rfl (c_X3_add l D g hg x_67 hI_67 (5 + 21 * i + 17) 134 (isRow17 h4) k11) (cwV 1 hts gX2_expand_X3_add rfl rfl rfl (by decide +kernel) ⟨Nat.le_of_ble_eq_true rfl, Nat.le_of_ble_eq_true rfl⟩) rfl rfl (Nat.le_of_ble_eq_true rfl) dX2_expand_87 ⟨Nat.zero_le _, Nat.zero_le _⟩ (fun x12 H locs hq14 hP hS => ?_)
          obtain ⟨hI15, hT16, hf17⟩ := hq14
          have hT18 : Same (TC) x x12 := hT_67.tr hT16 (fun c0 k0 h => by unfold TC TrC at h; unfold TR; omega)
          refine w_iinc (lv' := [(0, .ref (g.1 (5 + 21 * i))), (1, .int b), (2, .int y67_2), (3, .int y67_3)]) S dX2_expand_90 hl (k := 4) rfl (by decide) (by decide) (by omega) (by omega) (fun _ => rfl) (fun v19 ls hv19 hl => ?_)
          refine lv_goto (tgt := 67) S.1 S.2.1 dX2_expand_93 (by decide) ?_
          exact ih67 _ _ _ _ y67_2 y67_3 v19 hI15 hT18 (by omega) (by omega) hP hS (lv_sub hl [1, 2, 3, 4, 0] rfl)
  have J56 : ∀ (H : Heap) (locs : List Loc) (ls : Array Slot) (y56_2 : Int32) (z56_0 : Int32), va_P D vwCl (WL g x) H → va_S (AQ g) s.heap H locs → lv_has ls 5 [(0, .ref (g.1 (5 + 21 * i))), (1, .int b), (2, .int y56_2)] → W p l e ({ frames := 2, cells := 0, slots := 0, locals := 42 } : Room) s m ([.ref (g.1 (5 + 21 * i)), .int b] : List Value).toArray below meth co H locs 0 0 (MQ below (va_Qv (fun x2 => Inv x2 ∧ Same TC x x2 ∧ True) (WO D g) (AQ g)) ([.ref (g.1 (5 + 21 * i)), .int b] : List Value).toArray s 0 0 (AQ g)) (F0 m 56 ls [.int z56_0]) := by
    intro H locs ls y56_2 z56_0 hP hS hl
    refine lv_istore_n (lv' := [(3, .int z56_0), (0, .ref (g.1 (5 + 21 * i))), (1, .int b), (2, .int y56_2)]) S.1 S.2.1 dX2_expand_56 rfl hl (by decide) rfl (fun ls hl => ?_)
    refine lv_aload_n S.1 S.2.1 dX2_expand_57 rfl (lv_at hl 1 rfl) ?_
    refine w_get (C := RX2) (T := TX2) (N := 15) S (fun _ h => List.mem_cons_of_mem _ (List.mem_append_left _ (List.mem_append_left _ (List.mem_append_right _ h)))) hK hP (5 + 21 * i) (by have := h4; omega) ((ceP0 h4) _) rfl 6 (by decide) (hts _ (List.mem_of_getElem? (i := 2) rfl)) (v := .ref (g.1 (5 + 21 * i + 17))) rfl dX2_expand_58 ?_
    refine w_cVv (As := []) (rest := []) S hK hN hP hS hl (5 + 21 * i + 17) (by have := h4; omega) ((ceP17 h4) _) rfl (c_X3_empty l D g hg x hI (5 + 21 * i + 17) 134 (isRow17 h4)) (cwV 0 hts gX2_expand_X3_empty rfl rfl rfl (by decide +kernel) ⟨Nat.le_of_ble_eq_true rfl, Nat.le_of_ble_eq_true rfl⟩) rfl rfl (Nat.le_of_ble_eq_true rfl) dX2_expand_61 ⟨Nat.zero_le _, Nat.zero_le _⟩ (fun x20 H locs hq22 hP hS => ?_)
    obtain ⟨hI23, hT24, hf25⟩ := hq22
    have hT26 : Same (TC) x x20 := hT.tr hT24 (fun c0 k0 h => by unfold TC TrC at h; unfold TR; omega)
    refine w_iconst S dX2_expand_64 (by decide) (fun k27 hk27 => ?_)
    refine lv_istore (lv' := [(4, .int k27), (3, .int z56_0), (0, .ref (g.1 (5 + 21 * i))), (1, .int b), (2, .int y56_2)]) S.1 S.2.1 dX2_expand_65 hl (by decide) rfl (fun ls hl => ?_)
    exact J67 _ _ _ _ _ y56_2 z56_0 k27 hI23 hT26 (by omega) (Nat.lt_succ_self _) hP hS (lv_sub hl [2, 3, 4, 1, 0] rfl)
  have J40 : ∀ (H : Heap) (locs : List Loc) (ls : Array Slot) (z40_0 : Int32), (0 ≤ z40_0.toInt ∧ z40_0.toInt ≤ 1) → va_P D vwCl (WL g x) H → va_S (AQ g) s.heap H locs → lv_has ls 5 [(0, .ref (g.1 (5 + 21 * i))), (1, .int b)] → W p l e ({ frames := 2, cells := 0, slots := 0, locals := 42 } : Room) s m ([.ref (g.1 (5 + 21 * i)), .int b] : List Value).toArray below meth co H locs 0 0 (MQ below (va_Qv (fun x2 => Inv x2 ∧ Same TC x x2 ∧ True) (WO D g) (AQ g)) ([.ref (g.1 (5 + 21 * i)), .int b] : List Value).toArray s 0 0 (AQ g)) (F0 m 40 ls [.int z40_0]) := by
    intro H locs ls z40_0 hf40_0 hP hS hl
    refine lv_istore_n (lv' := [(2, .int z40_0), (0, .ref (g.1 (5 + 21 * i))), (1, .int b)]) S.1 S.2.1 dX2_expand_40 rfl hl (by decide) rfl (fun ls hl => ?_)
    refine lv_iload_n S.1 S.2.1 dX2_expand_41 rfl (lv_at hl 0 rfl) ?_
    refine w_if_eq (tgt := 55) S dX2_expand_42 (by decide) (fun hb28 => ?_) (fun hb28 => ?_)
    · refine w_iconst S dX2_expand_55 (by decide) (fun k29 hk29 => ?_)
      exact J56 _ _ _ z40_0 k29 hP hS (lv_sub hl [1, 2, 0] rfl)
    · refine lv_aload_n S.1 S.2.1 dX2_expand_45 rfl (lv_at hl 1 rfl) ?_
      refine w_get (C := RX2) (T := TX2) (N := 15) S (fun _ h => List.mem_cons_of_mem _ (List.mem_append_left _ (List.mem_append_left _ (List.mem_append_right _ h)))) hK hP (5 + 21 * i) (by have := h4; omega) ((ceP0 h4) _) rfl 4 (by decide) (hts _ (List.mem_of_getElem? (i := 1) rfl)) (v := .ref (g.1 (5 + 21 * i + 7))) rfl dX2_expand_46 ?_
      refine w_cVi (As := []) (rest := []) S hK hN hP hS hl (5 + 21 * i + 7) (by have := h4; omega) ((ceP7 h4) _) rfl (c_X1_blanksOfTab l D g hg x hI i h4) (cwV 0 hts gX2_expand_X1_blanksOfTab rfl rfl rfl (by decide +kernel) ⟨Nat.le_of_ble_eq_true rfl, Nat.le_of_ble_eq_true rfl⟩) rfl rfl (Nat.le_of_ble_eq_true rfl) dX2_expand_49 ⟨Nat.zero_le _, Nat.zero_le _⟩ (fun r31 x30 H locs hq32 hP hS => ?_)
      obtain ⟨ex33, hf34⟩ := hq32
      rw [ex33] at hP
      refine lv_goto (tgt := 56) S.1 S.2.1 dX2_expand_52 (by decide) ?_
      exact J56 _ _ _ z40_0 r31 hP hS (lv_sub hl [1, 2, 0] rfl)
  have J20 : ∀ (H : Heap) (locs : List Loc) (ls : Array Slot), va_P D vwCl (WL g x) H → va_S (AQ g) s.heap H locs → lv_has ls 5 [(0, .ref (g.1 (5 + 21 * i))), (1, .int b)] → W p l e ({ frames := 2, cells := 0, slots := 0, locals := 42 } : Room) s m ([.ref (g.1 (5 + 21 * i)), .int b] : List Value).toArray below meth co H locs 0 0 (MQ below (va_Qv (fun x2 => Inv x2 ∧ Same TC x x2 ∧ True) (WO D g) (AQ g)) ([.ref (g.1 (5 + 21 * i)), .int b] : List Value).toArray s 0 0 (AQ g)) (F0 m 20 ls []) := by
    intro H locs ls hP hS hl
    refine lv_iload_n S.1 S.2.1 dX2_expand_20 rfl (lv_at hl 1 rfl) ?_
    refine w_bipush S dX2_expand_21 (by decide) (fun k35 hk35 => ?_)
    refine w_icmp_ne (tgt := 39) S dX2_expand_23 (by decide) (fun hb36 => ?_) (fun hb36 => ?_)
    · refine w_iconst S dX2_expand_39 (by decide) (fun k37 hk37 => ?_)
      exact J40 _ _ _ k37 (by omega) hP hS (lv_sub hl [0, 1] rfl)
    · refine lv_aload_n S.1 S.2.1 dX2_expand_26 rfl (lv_at hl 0 rfl) ?_
      refine w_bipush S dX2_expand_27 (by decide) (fun k38 hk38 => ?_)
      refine w_cVi (As := [.int k38]) (rest := []) S hK hN hP hS hl (5 + 21 * i) (by have := h4; omega) ((ceP0 h4) _) rfl (c_X2_isOn l D g hg x hI i h4 k38 (by omega)) (cwV 1 hts gX2_expand_X2_isOn rfl rfl rfl (by decide +kernel) ⟨Nat.le_of_ble_eq_true rfl, Nat.le_of_ble_eq_true rfl⟩) rfl rfl (Nat.le_of_ble_eq_true rfl) dX2_expand_29 ⟨Nat.zero_le _, Nat.zero_le _⟩ (fun r40 x39 H locs hq41 hP hS => ?_)
      obtain ⟨ex42, hf43⟩ := hq41
      rw [ex42] at hP
      refine w_if_eq (tgt := 39) S dX2_expand_32 (by decide) (fun hb44 => ?_) (fun hb44 => ?_)
      · refine w_iconst S dX2_expand_39 (by decide) (fun k45 hk45 => ?_)
        exact J40 _ _ _ k45 (by omega) hP hS (lv_sub hl [0, 1] rfl)
      · refine w_iconst S dX2_expand_35 (by decide) (fun k46 hk46 => ?_)
        refine lv_goto (tgt := 40) S.1 S.2.1 dX2_expand_36 (by decide) ?_
        exact J40 _ _ _ k46 (by omega) hP hS (lv_sub hl [0, 1] rfl)
  refine lv_iload_n S.1 S.2.1 dX2_expand_0 rfl (lv_at hl 1 rfl) ?_
  refine w_bipush S dX2_expand_1 (by decide) (fun k47 hk47 => ?_)
  refine w_icmp_ne (tgt := 20) S dX2_expand_3 (by decide) (fun hb48 => ?_) (fun hb48 => ?_)
  · exact J20 _ _ _ hP hS (lv_sub hl [0, 1] rfl)
  · refine lv_aload_n S.1 S.2.1 dX2_expand_6 rfl (lv_at hl 0 rfl) ?_
    refine w_bipush S dX2_expand_7 (by decide) (fun k49 hk49 => ?_)
    refine w_cVi (As := [.int k49]) (rest := []) S hK hN hP hS hl (5 + 21 * i) (by have := h4; omega) ((ceP0 h4) _) rfl (c_X2_isOn l D g hg x hI i h4 k49 (by omega)) (cwV 1 hts gX2_expand_X2_isOn rfl rfl rfl (by decide +kernel) ⟨Nat.le_of_ble_eq_true rfl, Nat.le_of_ble_eq_true rfl⟩) rfl rfl (Nat.le_of_ble_eq_true rfl) dX2_expand_9 ⟨Nat.zero_le _, Nat.zero_le _⟩ (fun r51 x50 H locs hq52 hP hS => ?_)
    obtain ⟨ex53, hf54⟩ := hq52
    rw [ex53] at hP
    refine w_if_eq (tgt := 20) S dX2_expand_12 (by decide) (fun hb55 => ?_) (fun hb55 => ?_)
    · exact J20 _ _ _ hP hS (lv_sub hl [0, 1] rfl)
    · refine lv_aload_n S.1 S.2.1 dX2_expand_15 rfl (lv_at hl 0 rfl) ?_
      refine w_cVv (As := []) (rest := []) S hK hN hP hS hl (5 + 21 * i) (by have := h4; omega) ((ceP0 h4) _) rfl (c_X2_draftNewline l D g hg x hI i h4) (cwV 0 hts gX2_expand_X2_draftNewline rfl rfl rfl (by decide +kernel) ⟨Nat.le_of_ble_eq_true rfl, Nat.le_of_ble_eq_true rfl⟩) rfl rfl (Nat.le_of_ble_eq_true rfl) dX2_expand_16 ⟨Nat.zero_le _, Nat.zero_le _⟩ (fun x56 H locs hq58 hP hS => ?_)
      obtain ⟨hI59, hT60, hf61⟩ := hq58
      have hT62 : Same (TC) x x56 := hT.tr hT60 (fun _ _ h => h)
      exact w_vret S hr0 hlk hP hS dX2_expand_19 (⟨hI59, hT62, trivial⟩)
set_option maxRecDepth 100000 in
set_option maxHeartbeats 4000000 in
theorem c_X2_keep (l : Launch) (D : va_G) (g : GA) (hg : Inj g) (x : St) (hI : Inv x) (i : Nat) (h4 : i < 4) (b : Int32) : Met l yX2_keep wsX2_keep ({ frames := 2, cells := 0, slots := 0, locals := 44 } : Room) (va_Pc [.ref (g.1 (5 + 21 * i)), .int b] (WI D g x)) (va_Qi (fun r x2 => Inv x2 ∧ Same TC x x2 ∧ (0 ≤ r.toInt ∧ r.toInt ≤ 1)) (WO D g) (AQ g)) 0 0 (AQ g) := by
  refine w_met (cc := cX2_keep) (maxL := 3) (ret := (some .boolean)) (own := RX2) (by decide) rfl rfl (Nat.le_of_ble_eq_true rfl) (fun p e s m below meth co S hr0 hlk hK hN hP hS ls hl => ?_)
  have hts := S.2.2.2.2
  have hl : lv_has ls 3 [(0, .ref (g.1 (5 + 21 * i))), (1, .int b)] := hl
  have hT : Same (TC) x x := Same.rf
  have J26 : ∀ (H : Heap) (locs : List Loc) (ls : Array Slot) (z26_0 : Int32), (0 ≤ z26_0.toInt ∧ z26_0.toInt ≤ 1) → va_P D vwCl (WL g x) H → va_S (AQ g) s.heap H locs → lv_has ls 3 [(0, .ref (g.1 (5 + 21 * i))), (1, .int b)] → W p l e ({ frames := 2, cells := 0, slots := 0, locals := 44 } : Room) s m ([.ref (g.1 (5 + 21 * i)), .int b] : List Value).toArray below meth co H locs 0 0 (MQ below (va_Qi (fun r x2 => Inv x2 ∧ Same TC x x2 ∧ (0 ≤ r.toInt ∧ r.toInt ≤ 1)) (WO D g) (AQ g)) ([.ref (g.1 (5 + 21 * i)), .int b] : List Value).toArray s 0 0 (AQ g)) (F0 m 26 ls [.int z26_0]) := by
    intro H locs ls z26_0 hf26_0 hP hS hl
    refine lv_istore_n (lv' := [(2, .int z26_0), (0, .ref (g.1 (5 + 21 * i))), (1, .int b)]) S.1 S.2.1 dX2_keep_26 rfl hl (by decide) rfl (fun ls hl => ?_)
    refine lv_aload_n S.1 S.2.1 dX2_keep_27 rfl (lv_at hl 1 rfl) ?_
    refine w_get (C := RX2) (T := TX2) (N := 15) S (fun _ h => List.mem_cons_of_mem _ (List.mem_append_left _ (List.mem_append_left _ (List.mem_append_right _ h)))) hK hP (5 + 21 * i) (by have := h4; omega) ((ceP0 h4) _) rfl 3 (by decide) (hts _ (List.mem_of_getElem? (i := 1) rfl)) (v := .ref (g.1 (5 + 21 * i + 4))) rfl dX2_keep_28 ?_
    refine lv_iload_n S.1 S.2.1 dX2_keep_31 rfl (lv_at hl 2 rfl) ?_
    refine lv_iload_n S.1 S.2.1 dX2_keep_32 rfl (lv_at hl 0 rfl) ?_
    refine w_cVi (As := [.int b, .int z26_0]) (rest := []) S hK hN hP hS hl (5 + 21 * i + 4) (by have := h4; omega) ((ceP4 h4) _) rfl (c_X4_add l D g hg x hI i h4 b z26_0) (cwV 2 hts gX2_keep_X4_add rfl rfl rfl (by decide +kernel) ⟨Nat.le_of_ble_eq_true rfl, Nat.le_of_ble_eq_true rfl⟩) rfl rfl (Nat.le_of_ble_eq_true rfl) dX2_keep_33 ⟨Nat.zero_le _, Nat.zero_le _⟩ (fun r2 x1 H locs hq3 hP hS => ?_)
    obtain ⟨hI4, hT5, hf6⟩ := hq3
    have hT7 : Same (TC) x x1 := hT.tr hT5 (fun _ _ h => h)
    refine w_if_ne (tgt := 51) S dX2_keep_36 (by decide) (fun hb8 => ?_) (fun hb8 => ?_)
    · refine lv_aload_n S.1 S.2.1 dX2_keep_51 rfl (lv_at hl 1 rfl) ?_
      refine w_cVv (As := []) (rest := []) S hK hN hP hS hl (5 + 21 * i) (by have := h4; omega) ((ceP0 h4) _) rfl (c_X2_releaseIfEnough l D g hg x1 hI4 i h4) (cwV 0 hts gX2_keep_X2_releaseIfEnough rfl rfl rfl (by decide +kernel) ⟨Nat.le_of_ble_eq_true rfl, Nat.le_of_ble_eq_true rfl⟩) rfl rfl (Nat.le_of_ble_eq_true rfl) dX2_keep_52 ⟨Nat.zero_le _, Nat.zero_le _⟩ (fun x9 H locs hq11 hP hS => ?_)
      obtain ⟨hI12, hT13, hf14⟩ := hq11
      have hT15 : Same (TC) x x9 := hT7.tr hT13 (fun _ _ h => h)
      refine lv_aload_n S.1 S.2.1 dX2_keep_55 rfl (lv_at hl 1 rfl) ?_
      refine w_bipush S dX2_keep_56 (by decide) (fun k16 hk16 => ?_)
      refine w_cVi (As := [.int k16]) (rest := []) S hK hN hP hS hl (5 + 21 * i) (by have := h4; omega) ((ceP0 h4) _) rfl (c_X2_isOn l D g hg x9 hI12 i h4 k16 (by omega)) (cwV 1 hts gX2_keep_X2_isOn rfl rfl rfl (by decide +kernel) ⟨Nat.le_of_ble_eq_true rfl, Nat.le_of_ble_eq_true rfl⟩) rfl rfl (Nat.le_of_ble_eq_true rfl) dX2_keep_58 ⟨Nat.zero_le _, Nat.zero_le _⟩ (fun r18 x17 H locs hq19 hP hS => ?_)
      obtain ⟨ex20, hf21⟩ := hq19
      rw [ex20] at hP
      refine w_if_eq (tgt := 97) S dX2_keep_61 (by decide) (fun hb22 => ?_) (fun hb22 => ?_)
      · refine w_iconst S dX2_keep_97 (by decide) (fun k23 hk23 => ?_)
        exact w_zret S hr0 hlk hP hS dX2_keep_98 (z01 (by omega) (by omega)) (⟨hI12, hT15, by omega⟩)
      · refine lv_aload_n S.1 S.2.1 dX2_keep_64 rfl (lv_at hl 1 rfl) ?_
        refine w_get (C := RX2) (T := TX2) (N := 15) S (fun _ h => List.mem_cons_of_mem _ (List.mem_append_left _ (List.mem_append_left _ (List.mem_append_right _ h)))) hK hP (5 + 21 * i) (by have := h4; omega) ((ceP0 h4) _) rfl 13 (by decide) (hts _ (List.mem_of_getElem? (i := 3) rfl)) (v := .int (x9 (5 + 21 * i) 13)) rfl dX2_keep_65 ?_
        refine lv_topi (fun v24 ev24 => ?_)
        have wv24 : v24.toInt = (x9 (5 + 21 * i) 13).toInt := by rw [ev24]
        have rv24 : (0 : Int) ≤ v24.toInt ∧ v24.toInt ≤ (1 : Int) := by rw [ev24]; exact hI12.atP0 (k := 13) h4
        refine w_if_ne (tgt := 97) S dX2_keep_68 (by decide) (fun hb25 => ?_) (fun hb25 => ?_)
        · refine w_iconst S dX2_keep_97 (by decide) (fun k26 hk26 => ?_)
          exact w_zret S hr0 hlk hP hS dX2_keep_98 (z01 (by omega) (by omega)) (⟨hI12, hT15, by omega⟩)
        · refine lv_aload_n S.1 S.2.1 dX2_keep_71 rfl (lv_at hl 1 rfl) ?_
          refine w_get (C := RX2) (T := TX2) (N := 15) S (fun _ h => List.mem_cons_of_mem _ (List.mem_append_left _ (List.mem_append_left _ (List.mem_append_right _ h)))) hK hP (5 + 21 * i) (by have := h4; omega) ((ceP0 h4) _) rfl 3 (by decide) (hts _ (List.mem_of_getElem? (i := 1) rfl)) (v := .ref (g.1 (5 + 21 * i + 4))) rfl dX2_keep_72 ?_
          refine w_getN (C := RX4) (T := TX4) (N := 3) S (fun _ h => List.mem_cons_of_mem _ (List.mem_append_left _ (List.mem_append_right _ h))) hK hP (5 + 21 * i + 4) (by have := h4; omega) ((ceP4 h4) _) rfl 0 (by decide) (hN.1 _ (List.mem_of_getElem? (i := 7) rfl)) (v := .ref (g.1 (5 + 21 * i + 5))) rfl dX2_keep_75 ?_
          refine w_getN (C := RX3) (T := TX3) (N := 3) S (fun _ h => List.mem_cons_of_mem _ (List.mem_append_right _ h)) hK hP (5 + 21 * i + 5) (by have := h4; omega) ((ceP5 h4) _) rfl 2 (by decide) (hN.1 _ (List.mem_of_getElem? (i := 6) rfl)) (v := .int (x9 (5 + 21 * i + 5) 2)) rfl dX2_keep_78 ?_
          refine lv_topi (fun v27 ev27 => ?_)
          have wv27 : v27.toInt = (x9 (5 + 21 * i + 5) 2).toInt := by rw [ev27]
          have rv27 : (0 : Int) ≤ v27.toInt ∧ v27.toInt ≤ (65 : Int) := by rw [ev27]; exact hI12.atP (j := 5) (k := 2) h4 (by decide)
          refine w_bipush S dX2_keep_81 (by decide) (fun k28 hk28 => ?_)
          refine w_icmp_le (tgt := 97) S dX2_keep_83 (by decide) (fun hb29 => ?_) (fun hb29 => ?_)
          · refine w_iconst S dX2_keep_97 (by decide) (fun k30 hk30 => ?_)
            exact w_zret S hr0 hlk hP hS dX2_keep_98 (z01 (by omega) (by omega)) (⟨hI12, hT15, by omega⟩)
          · refine lv_aload_n S.1 S.2.1 dX2_keep_86 rfl (lv_at hl 1 rfl) ?_
            refine w_iconst S dX2_keep_87 (by decide) (fun k31 hk31 => ?_)
            refine w_put (C := RX2) (T := TX2) (N := 15) (F := FPort g (5 + 21 * i)) S (fun _ h => List.mem_cons_of_mem _ (List.mem_append_left _ (List.mem_append_left _ (List.mem_append_right _ h)))) tyX2_ok nmX2 hK hg hP hS (5 + 21 * i) (by have := h4; omega) (ceP0 h4) rfl 13 (by decide) (hts _ (List.mem_of_getElem? (i := 3) rfl)) rfl (tz_narrow (z01 (by omega) (by omega))) (tz_fits (z01 (by omega) (by omega))) (fun _ => Nat.le_of_ble_eq_true rfl) (fun _ => rfl) dX2_keep_88 (fun x32 H locs ex32 hP hS => ?_)
            have hI33 : Inv x32 := by rw [ex32]; exact hI12.upP0 h4 (show (0 : Int) ≤ _ by omega) (show _ ≤ (1 : Int) by omega)
            have hT34 : Same (TC) x x32 := by rw [ex32]; exact hT15.up (by unfold TC TrC; omega)
            refine lv_aload_n S.1 S.2.1 dX2_keep_91 rfl (lv_at hl 1 rfl) ?_
            refine w_bipush S dX2_keep_92 (by decide) (fun k35 hk35 => ?_)
            refine w_put (C := RX2) (T := TX2) (N := 15) (F := FPort g (5 + 21 * i)) S (fun _ h => List.mem_cons_of_mem _ (List.mem_append_left _ (List.mem_append_left _ (List.mem_append_right _ h)))) tyX2_ok nmX2 hK hg hP hS (5 + 21 * i) (by have := h4; omega) (ceP0 h4) rfl 14 (by decide) (hts _ (List.mem_of_getElem? (i := 4) rfl)) rfl rfl rfl (fun _ => Nat.le_of_ble_eq_true rfl) (fun _ => rfl) dX2_keep_94 (fun x36 H locs ex36 hP hS => ?_)
            have hI37 : Inv x36 := by rw [ex36]; exact hI33.upP0 h4 (show (-1 : Int) ≤ _ by omega) (show _ ≤ (24 : Int) by omega)
            have hT38 : Same (TC) x x36 := by rw [ex36]; exact hT34.up (by unfold TC TrC; omega)
            refine w_iconst S dX2_keep_97 (by decide) (fun k39 hk39 => ?_)
            exact w_zret S hr0 hlk hP hS dX2_keep_98 (z01 (by omega) (by omega)) (⟨hI37, hT38, by omega⟩)
    · refine lv_aload_n S.1 S.2.1 dX2_keep_39 rfl (lv_at hl 1 rfl) ?_
      refine w_get (C := RX2) (T := TX2) (N := 15) S (fun _ h => List.mem_cons_of_mem _ (List.mem_append_left _ (List.mem_append_left _ (List.mem_append_right _ h)))) hK hP (5 + 21 * i) (by have := h4; omega) ((ceP0 h4) _) rfl 8 (by decide) (hts _ (List.mem_of_getElem? (i := 2) rfl)) (v := .ref (g.1 (5 + 21 * i + 20))) rfl dX2_keep_40 ?_
      refine w_iconst S dX2_keep_43 (by decide) (fun k40 hk40 => ?_)
      refine lv_dup2_11 S.1 S.2.1 dX2_keep_44 rfl rfl ?_
      refine w_iald S hK hP (5 + 21 * i + 20) (by have := h4; omega) (ceP20 h4) (by omega) (by omega) dX2_keep_45 (fun v41 ev41 => ?_)
      have wv41 : v41.toInt = (x1 (5 + 21 * i + 20) k40.toInt.toNat).toInt := by rw [ev41]
      refine w_iconst S dX2_keep_46 (by decide) (fun k42 hk42 => ?_)
      refine lv_iadd S.1 S.2.1 dX2_keep_47 ?_
      refine w_any1 (fun v43 => ?_)
      refine w_iast S hK hg hP hS (5 + 21 * i + 20) (by have := h4; omega) (ceP20 h4) (by omega) (by omega) dX2_keep_48 (fun x44 H locs ex44 hP hS => ?_)
      have hI45 : Inv x44 := by rw [ex44]; exact hI4.upP (j := 20) h4 (by decide) (i_ge _) (i_le _)
      have hT46 : Same (TC) x x44 := by rw [ex44]; exact hT7.up (by unfold TC TrC; omega)
      refine w_iconst S dX2_keep_49 (by decide) (fun k47 hk47 => ?_)
      exact w_zret S hr0 hlk hP hS dX2_keep_50 (z01 (by omega) (by omega)) (⟨hI45, hT46, by omega⟩)
  refine lv_aload_n S.1 S.2.1 dX2_keep_0 rfl (lv_at hl 0 rfl) ?_
  refine w_iconst S dX2_keep_1 (by decide) (fun k48 hk48 => ?_)
  refine w_cVi (As := [.int k48]) (rest := []) S hK hN hP hS hl (5 + 21 * i) (by have := h4; omega) ((ceP0 h4) _) rfl (c_X2_isOn l D g hg x hI i h4 k48 (by omega)) (cwV 1 hts gX2_keep_X2_isOn rfl rfl rfl (by decide +kernel) ⟨Nat.le_of_ble_eq_true rfl, Nat.le_of_ble_eq_true rfl⟩) rfl rfl (Nat.le_of_ble_eq_true rfl) dX2_keep_2 ⟨Nat.zero_le _, Nat.zero_le _⟩ (fun r50 x49 H locs hq51 hP hS => ?_)
  obtain ⟨ex52, hf53⟩ := hq51
  rw [ex52] at hP
  refine w_if_eq (tgt := 25) S dX2_keep_5 (by decide) (fun hb54 => ?_) (fun hb54 => ?_)
  · refine w_iconst S dX2_keep_25 (by decide) (fun k55 hk55 => ?_)
    exact J26 _ _ _ k55 (by omega) hP hS (lv_sub hl [0, 1] rfl)
  · refine lv_iload_n S.1 S.2.1 dX2_keep_8 rfl (lv_at hl 1 rfl) ?_
    refine w_bipush S dX2_keep_9 (by decide) (fun k56 hk56 => ?_)
    refine w_icmp_eq (tgt := 21) S dX2_keep_11 (by decide) (fun hb57 => ?_) (fun hb57 => ?_)
    · refine w_iconst S dX2_keep_21 (by decide) (fun k58 hk58 => ?_)
      refine lv_goto (tgt := 26) S.1 S.2.1 dX2_keep_22 (by decide) ?_
      exact J26 _ _ _ k58 (by omega) hP hS (lv_sub hl [0, 1] rfl)
    · refine lv_iload_n S.1 S.2.1 dX2_keep_14 rfl (lv_at hl 1 rfl) ?_
      refine w_sipush S dX2_keep_15 (by decide) (fun k59 hk59 => ?_)
      refine w_icmp_ne (tgt := 25) S dX2_keep_18 (by decide) (fun hb60 => ?_) (fun hb60 => ?_)
      · refine w_iconst S dX2_keep_25 (by decide) (fun k61 hk61 => ?_)
        exact J26 _ _ _ k61 (by omega) hP hS (lv_sub hl [0, 1] rfl)
      · refine w_iconst S dX2_keep_21 (by decide) (fun k62 hk62 => ?_)
        refine lv_goto (tgt := 26) S.1 S.2.1 dX2_keep_22 (by decide) ?_
        exact J26 _ _ _ k62 (by omega) hP hS (lv_sub hl [0, 1] rfl)
set_option maxRecDepth 100000 in
set_option maxHeartbeats 4000000 in
theorem c_X2_keepAndEcho (l : Launch) (D : va_G) (g : GA) (hg : Inj g) (x : St) (hI : Inv x) (i : Nat) (h4 : i < 4) (b : Int32) : Met l yX2_keepAndEcho wsX2_keepAndEcho ({ frames := 3, cells := 0, slots := 0, locals := 66 } : Room) (va_Pc [.ref (g.1 (5 + 21 * i)), .int b] (WI D g x)) (va_Qv (fun x2 => Inv x2 ∧ Same TC x x2 ∧ True) (WO D g) (AQ g)) 0 0 (AQ g) := by
  refine w_met (cc := cX2_keepAndEcho) (maxL := 2) (ret := none) (own := RX2) (by decide) rfl rfl (Nat.le_of_ble_eq_true rfl) (fun p e s m below meth co S hr0 hlk hK hN hP hS ls hl => ?_)
  have hts := S.2.2.2.2
  have hl : lv_has ls 2 [(0, .ref (g.1 (5 + 21 * i))), (1, .int b)] := hl
  have hT : Same (TC) x x := Same.rf
  refine lv_aload_n S.1 S.2.1 dX2_keepAndEcho_0 rfl (lv_at hl 0 rfl) ?_
  refine lv_iload_n S.1 S.2.1 dX2_keepAndEcho_1 rfl (lv_at hl 1 rfl) ?_
  refine w_cVi (As := [.int b]) (rest := []) S hK hN hP hS hl (5 + 21 * i) (by have := h4; omega) ((ceP0 h4) _) rfl (c_X2_keep l D g hg x hI i h4 b) (cwV 1 hts gX2_keepAndEcho_X2_keep rfl rfl rfl (by decide +kernel) ⟨Nat.le_of_ble_eq_true rfl, Nat.le_of_ble_eq_true rfl⟩) rfl rfl (Nat.le_of_ble_eq_true rfl) dX2_keepAndEcho_2 ⟨Nat.zero_le _, Nat.zero_le _⟩ (fun r2 x1 H locs hq3 hP hS => ?_)
  obtain ⟨hI4, hT5, hf6⟩ := hq3
  have hT7 : Same (TC) x x1 := hT.tr hT5 (fun _ _ h => h)
  refine w_if_eq (tgt := 17) S dX2_keepAndEcho_5 (by decide) (fun hb8 => ?_) (fun hb8 => ?_)
  · exact w_vret S hr0 hlk hP hS dX2_keepAndEcho_17 (⟨hI4, hT7, trivial⟩)
  · refine lv_aload_n S.1 S.2.1 dX2_keepAndEcho_8 rfl (lv_at hl 0 rfl) ?_
    refine lv_iload_n S.1 S.2.1 dX2_keepAndEcho_9 rfl (lv_at hl 1 rfl) ?_
    refine w_cVv (As := [.int b]) (rest := []) S hK hN hP hS hl (5 + 21 * i) (by have := h4; omega) ((ceP0 h4) _) rfl (c_X2_draftForm l D g hg x1 hI4 i h4 b) (cwV 1 hts gX2_keepAndEcho_X2_draftForm rfl rfl rfl (by decide +kernel) ⟨Nat.le_of_ble_eq_true rfl, Nat.le_of_ble_eq_true rfl⟩) rfl rfl (Nat.le_of_ble_eq_true rfl) dX2_keepAndEcho_10 ⟨Nat.zero_le _, Nat.zero_le _⟩ (fun x9 H locs hq11 hP hS => ?_)
    obtain ⟨hI12, hT13, hf14⟩ := hq11
    have hT15 : Same (TC) x x9 := hT7.tr hT13 (fun _ _ h => h)
    refine lv_aload_n S.1 S.2.1 dX2_keepAndEcho_13 rfl (lv_at hl 0 rfl) ?_
    refine w_cVv (As := []) (rest := []) S hK hN hP hS hl (5 + 21 * i) (by have := h4; omega) ((ceP0 h4) _) rfl (c_X2_echo l D g hg x9 hI12 i h4) (cwV 0 hts gX2_keepAndEcho_X2_echo rfl rfl rfl (by decide +kernel) ⟨Nat.le_of_ble_eq_true rfl, Nat.le_of_ble_eq_true rfl⟩) rfl rfl (Nat.le_of_ble_eq_true rfl) dX2_keepAndEcho_14 ⟨Nat.zero_le _, Nat.zero_le _⟩ (fun x16 H locs hq18 hP hS => ?_)
    obtain ⟨hI19, hT20, hf21⟩ := hq18
    have hT22 : Same (TC) x x16 := hT15.tr hT20 (fun _ _ h => h)
    exact w_vret S hr0 hlk hP hS dX2_keepAndEcho_17 (⟨hI19, hT22, trivial⟩)
set_option maxRecDepth 100000 in
set_option maxHeartbeats 4000000 in
theorem c_X2_endLine (l : Launch) (D : va_G) (g : GA) (hg : Inj g) (x : St) (hI : Inv x) (i : Nat) (h4 : i < 4) (b : Int32) : Met l yX2_endLine wsX2_endLine ({ frames := 3, cells := 0, slots := 0, locals := 66 } : Room) (va_Pc [.ref (g.1 (5 + 21 * i)), .int b] (WI D g x)) (va_Qi (fun r x2 => Inv x2 ∧ Same TC x x2 ∧ (0 ≤ r.toInt ∧ r.toInt ≤ 1)) (WO D g) (AQ g)) 0 0 (AQ g) := by
  refine w_met (cc := cX2_endLine) (maxL := 3) (ret := (some .boolean)) (own := RX2) (by decide) rfl rfl (Nat.le_of_ble_eq_true rfl) (fun p e s m below meth co S hr0 hlk hK hN hP hS ls hl => ?_)
  have hts := S.2.2.2.2
  have hl : lv_has ls 3 [(0, .ref (g.1 (5 + 21 * i))), (1, .int b)] := hl
  have hT : Same (TC) x x := Same.rf
  refine lv_aload_n S.1 S.2.1 dX2_endLine_0 rfl (lv_at hl 0 rfl) ?_
  refine lv_iload_n S.1 S.2.1 dX2_endLine_1 rfl (lv_at hl 1 rfl) ?_
  refine w_cVi (As := [.int b]) (rest := []) S hK hN hP hS hl (5 + 21 * i) (by have := h4; omega) ((ceP0 h4) _) rfl (c_X2_keep l D g hg x hI i h4 b) (cwV 1 hts gX2_endLine_X2_keep rfl rfl rfl (by decide +kernel) ⟨Nat.le_of_ble_eq_true rfl, Nat.le_of_ble_eq_true rfl⟩) rfl rfl (Nat.le_of_ble_eq_true rfl) dX2_endLine_2 ⟨Nat.zero_le _, Nat.zero_le _⟩ (fun r2 x1 H locs hq3 hP hS => ?_)
  obtain ⟨hI4, hT5, hf6⟩ := hq3
  have hT7 : Same (TC) x x1 := hT.tr hT5 (fun _ _ h => h)
  refine lv_istore_n (lv' := [(2, .int r2), (0, .ref (g.1 (5 + 21 * i))), (1, .int b)]) S.1 S.2.1 dX2_endLine_5 rfl hl (by decide) rfl (fun ls hl => ?_)
  refine lv_iload_n S.1 S.2.1 dX2_endLine_6 rfl (lv_at hl 0 rfl) ?_
  refine w_if_eq (tgt := 17) S dX2_endLine_7 (by decide) (fun hb8 => ?_) (fun hb8 => ?_)
  · refine lv_iload_n S.1 S.2.1 dX2_endLine_17 rfl (lv_at hl 0 rfl) ?_
    exact w_zret S hr0 hlk hP hS dX2_endLine_18 (z01 (by omega) (by omega)) (⟨hI4, hT7, by omega⟩)
  · refine lv_aload_n S.1 S.2.1 dX2_endLine_10 rfl (lv_at hl 1 rfl) ?_
    refine w_get (C := RX2) (T := TX2) (N := 15) S (fun _ h => List.mem_cons_of_mem _ (List.mem_append_left _ (List.mem_append_left _ (List.mem_append_right _ h)))) hK hP (5 + 21 * i) (by have := h4; omega) ((ceP0 h4) _) rfl 3 (by decide) (hts _ (List.mem_of_getElem? (i := 1) rfl)) (v := .ref (g.1 (5 + 21 * i + 4))) rfl dX2_endLine_11 ?_
    refine w_cVv (As := []) (rest := []) S hK hN hP hS hl (5 + 21 * i + 4) (by have := h4; omega) ((ceP4 h4) _) rfl (c_X4_releaseAll l D g hg x1 hI4 i h4) (cwV 0 hts gX2_endLine_X4_releaseAll rfl rfl rfl (by decide +kernel) ⟨Nat.le_of_ble_eq_true rfl, Nat.le_of_ble_eq_true rfl⟩) rfl rfl (Nat.le_of_ble_eq_true rfl) dX2_endLine_14 ⟨Nat.zero_le _, Nat.zero_le _⟩ (fun x9 H locs hq11 hP hS => ?_)
    obtain ⟨hI12, hT13, hf14⟩ := hq11
    have hT15 : Same (TC) x x9 := hT7.tr hT13 (fun _ _ h => h)
    refine lv_iload_n S.1 S.2.1 dX2_endLine_17 rfl (lv_at hl 0 rfl) ?_
    exact w_zret S hr0 hlk hP hS dX2_endLine_18 (z01 (by omega) (by omega)) (⟨hI12, hT15, by omega⟩)
set_option maxRecDepth 100000 in
set_option maxHeartbeats 4000000 in
theorem c_X2_signal (l : Launch) (D : va_G) (g : GA) (hg : Inj g) (x : St) (hI : Inv x) (i : Nat) (h4 : i < 4) (sg : Int32) (b : Int32) : Met l yX2_signal wsX2_signal ({ frames := 3, cells := 0, slots := 0, locals := 65 } : Room) (va_Pc [.ref (g.1 (5 + 21 * i)), .int sg, .int b] (WI D g x)) (va_Qv (fun x2 => Inv x2 ∧ Same TC x x2 ∧ True) (WO D g) (AQ g)) 0 0 (AQ g) := by
  refine w_met (cc := cX2_signal) (maxL := 3) (ret := none) (own := RX2) (by decide) rfl rfl (Nat.le_of_ble_eq_true rfl) (fun p e s m below meth co S hr0 hlk hK hN hP hS ls hl => ?_)
  have hts := S.2.2.2.2
  have hl : lv_has ls 3 [(0, .ref (g.1 (5 + 21 * i))), (1, .int sg), (2, .int b)] := hl
  have hT : Same (TC) x x := Same.rf
  have J57 : ∀ (x_57 : St) (H : Heap) (locs : List Loc) (ls : Array Slot), Inv x_57 → Same (TC) x x_57 → va_P D vwCl (WL g x_57) H → va_S (AQ g) s.heap H locs → lv_has ls 3 [(0, .ref (g.1 (5 + 21 * i))), (1, .int sg), (2, .int b)] → W p l e ({ frames := 3, cells := 0, slots := 0, locals := 65 } : Room) s m ([.ref (g.1 (5 + 21 * i)), .int sg, .int b] : List Value).toArray below meth co H locs 0 0 (MQ below (va_Qv (fun x2 => Inv x2 ∧ Same TC x x2 ∧ True) (WO D g) (AQ g)) ([.ref (g.1 (5 + 21 * i)), .int sg, .int b] : List Value).toArray s 0 0 (AQ g)) (F0 m 57 ls []) := by
    intro x_57 H locs ls hI_57 hT_57 hP hS hl
    refine lv_iload_n S.1 S.2.1 dX2_signal_57 rfl (lv_at hl 2 rfl) ?_
    refine w_sipush S dX2_signal_58 (by decide) (fun k1 hk1 => ?_)
    refine w_icmp_eq (tgt := 73) S dX2_signal_61 (by decide) (fun hb2 => ?_) (fun hb2 => ?_)
    · exact w_vret S hr0 hlk hP hS dX2_signal_73 (⟨hI_57, hT_57, trivial⟩)
    · refine lv_aload_n S.1 S.2.1 dX2_signal_64 rfl (lv_at hl 0 rfl) ?_
      refine lv_iload_n S.1 S.2.1 dX2_signal_65 rfl (lv_at hl 2 rfl) ?_
      refine w_cVv (As := [.int b]) (rest := []) S hK hN hP hS hl (5 + 21 * i) (by have := h4; omega) ((ceP0 h4) _) rfl (c_X2_draftForm l D g hg x_57 hI_57 i h4 b) (cwV 1 hts gX2_signal_X2_draftForm rfl rfl rfl (by decide +kernel) ⟨Nat.le_of_ble_eq_true rfl, Nat.le_of_ble_eq_true rfl⟩) rfl rfl (Nat.le_of_ble_eq_true rfl) dX2_signal_66 ⟨Nat.zero_le _, Nat.zero_le _⟩ (fun x3 H locs hq5 hP hS => ?_)
      obtain ⟨hI6, hT7, hf8⟩ := hq5
      have hT9 : Same (TC) x x3 := hT_57.tr hT7 (fun _ _ h => h)
      refine lv_aload_n S.1 S.2.1 dX2_signal_69 rfl (lv_at hl 0 rfl) ?_
      refine w_cVv (As := []) (rest := []) S hK hN hP hS hl (5 + 21 * i) (by have := h4; omega) ((ceP0 h4) _) rfl (c_X2_echo l D g hg x3 hI6 i h4) (cwV 0 hts gX2_signal_X2_echo rfl rfl rfl (by decide +kernel) ⟨Nat.le_of_ble_eq_true rfl, Nat.le_of_ble_eq_true rfl⟩) rfl rfl (Nat.le_of_ble_eq_true rfl) dX2_signal_70 ⟨Nat.zero_le _, Nat.zero_le _⟩ (fun x10 H locs hq12 hP hS => ?_)
      obtain ⟨hI13, hT14, hf15⟩ := hq12
      have hT16 : Same (TC) x x10 := hT9.tr hT14 (fun _ _ h => h)
      exact w_vret S hr0 hlk hP hS dX2_signal_73 (⟨hI13, hT16, trivial⟩)
  refine lv_aload_n S.1 S.2.1 dX2_signal_0 rfl (lv_at hl 0 rfl) ?_
  refine w_get (C := RX2) (T := TX2) (N := 15) S (fun _ h => List.mem_cons_of_mem _ (List.mem_append_left _ (List.mem_append_left _ (List.mem_append_left _ (List.mem_append_left _ (List.mem_append_left _ (List.mem_append_right _ h))))))) hK hP (5 + 21 * i) (by have := h4; omega) ((ceP0 h4) _) rfl 0 (by decide) (hts _ (List.mem_of_getElem? (i := 1) rfl)) (v := .ref (g.1 2)) rfl dX2_signal_1 ?_
  refine lv_aload_n S.1 S.2.1 dX2_signal_4 rfl (lv_at hl 0 rfl) ?_
  refine w_get (C := RX2) (T := TX2) (N := 15) S (fun _ h => List.mem_cons_of_mem _ (List.mem_append_left _ (List.mem_append_left _ (List.mem_append_left _ (List.mem_append_left _ (List.mem_append_left _ (List.mem_append_right _ h))))))) hK hP (5 + 21 * i) (by have := h4; omega) ((ceP0 h4) _) rfl 12 (by decide) (hts _ (List.mem_of_getElem? (i := 2) rfl)) (v := .int (x (5 + 21 * i) 12)) rfl dX2_signal_5 ?_
  refine lv_topi (fun v17 ev17 => ?_)
  have wv17 : v17.toInt = (x (5 + 21 * i) 12).toInt := by rw [ev17]
  refine lv_iload_n S.1 S.2.1 dX2_signal_8 rfl (lv_at hl 1 rfl) ?_
  refine w_cVv (As := [.int v17, .int sg]) (rest := []) S hK hN hP hS hl 2 (by decide) (ceK2 _) rfl (c_X0_raise l D g hg x hI v17 sg) (cwV 2 hts gX2_signal_X0_raise rfl rfl rfl (by decide +kernel) ⟨Nat.le_of_ble_eq_true rfl, Nat.le_of_ble_eq_true rfl⟩) rfl rfl (Nat.le_of_ble_eq_true rfl) dX2_signal_9 ⟨Nat.zero_le _, Nat.zero_le _⟩ (fun x18 H locs hq20 hP hS => ?_)
  obtain ⟨hI21, hT22, hf23⟩ := hq20
  have hT24 : Same (TC) x x18 := hT.tr hT22 (fun _ _ h => h)
  refine lv_aload_n S.1 S.2.1 dX2_signal_12 rfl (lv_at hl 0 rfl) ?_
  refine w_bipush S dX2_signal_13 (by decide) (fun k25 hk25 => ?_)
  refine w_cVi (As := [.int k25]) (rest := []) S hK hN hP hS hl (5 + 21 * i) (by have := h4; omega) ((ceP0 h4) _) rfl (c_X2_isOn l D g hg x18 hI21 i h4 k25 (by omega)) (cwV 1 hts gX2_signal_X2_isOn rfl rfl rfl (by decide +kernel) ⟨Nat.le_of_ble_eq_true rfl, Nat.le_of_ble_eq_true rfl⟩) rfl rfl (Nat.le_of_ble_eq_true rfl) dX2_signal_15 ⟨Nat.zero_le _, Nat.zero_le _⟩ (fun r27 x26 H locs hq28 hP hS => ?_)
  obtain ⟨ex29, hf30⟩ := hq28
  rw [ex29] at hP
  refine w_if_ne (tgt := 57) S dX2_signal_18 (by decide) (fun hb31 => ?_) (fun hb31 => ?_)
  · exact J57 _ _ _ _ hI21 hT24 hP hS (lv_sub hl [0, 1, 2] rfl)
  · refine lv_aload_n S.1 S.2.1 dX2_signal_21 rfl (lv_at hl 0 rfl) ?_
    refine w_cVv (As := []) (rest := []) S hK hN hP hS hl (5 + 21 * i) (by have := h4; omega) ((ceP0 h4) _) rfl (c_X2_emptyStore l D g hg x18 hI21 i h4) (cwV 0 hts gX2_signal_X2_emptyStore rfl rfl rfl (by decide +kernel) ⟨Nat.le_of_ble_eq_true rfl, Nat.le_of_ble_eq_true rfl⟩) rfl rfl (Nat.le_of_ble_eq_true rfl) dX2_signal_22 ⟨Nat.zero_le _, Nat.zero_le _⟩ (fun x32 H locs hq34 hP hS => ?_)
    obtain ⟨hI35, hT36, hf37⟩ := hq34
    have hT38 : Same (TC) x x32 := hT24.tr hT36 (fun _ _ h => h)
    refine lv_iload_n S.1 S.2.1 dX2_signal_25 rfl (lv_at hl 1 rfl) ?_
    refine w_iconst S dX2_signal_26 (by decide) (fun k39 hk39 => ?_)
    refine w_icmp_eq (tgt := 57) S dX2_signal_27 (by decide) (fun hb40 => ?_) (fun hb40 => ?_)
    · exact J57 _ _ _ _ hI35 hT38 hP hS (lv_sub hl [0, 1, 2] rfl)
    · refine lv_aload_n S.1 S.2.1 dX2_signal_30 rfl (lv_at hl 0 rfl) ?_
      refine w_get (C := RX2) (T := TX2) (N := 15) S (fun _ h => List.mem_cons_of_mem _ (List.mem_append_left _ (List.mem_append_left _ (List.mem_append_left _ (List.mem_append_left _ (List.mem_append_left _ (List.mem_append_right _ h))))))) hK hP (5 + 21 * i) (by have := h4; omega) ((ceP0 h4) _) rfl 4 (by decide) (hts _ (List.mem_of_getElem? (i := 3) rfl)) (v := .ref (g.1 (5 + 21 * i + 7))) rfl dX2_signal_31 ?_
      refine w_getN (C := RX1) (T := TX1) (N := 5) S (fun _ h => List.mem_cons_of_mem _ (List.mem_append_left _ (List.mem_append_left _ (List.mem_append_left _ (List.mem_append_left _ (List.mem_append_right _ h)))))) hK hP (5 + 21 * i + 7) (by have := h4; omega) ((ceP7 h4) _) rfl 0 (by decide) (hN.1 _ (List.mem_of_getElem? (i := 11) rfl)) (v := .ref (g.1 (5 + 21 * i + 8))) rfl dX2_signal_34 ?_
      refine w_cVv (As := []) (rest := []) S hK hN hP hS hl (5 + 21 * i + 8) (by have := h4; omega) ((ceP8 h4) _) rfl (c_X3_empty l D g hg x32 hI35 (5 + 21 * i + 8) 64 (isRow8 h4)) (cwV 0 hts gX2_signal_X3_empty rfl rfl rfl (by decide +kernel) ⟨Nat.le_of_ble_eq_true rfl, Nat.le_of_ble_eq_true rfl⟩) rfl rfl (Nat.le_of_ble_eq_true rfl) dX2_signal_37 ⟨Nat.zero_le _, Nat.zero_le _⟩ (fun x41 H locs hq43 hP hS => ?_)
      obtain ⟨hI44, hT45, hf46⟩ := hq43
      have hT47 : Same (TC) x x41 := hT38.tr hT45 (fun c0 k0 h => by unfold TC TrC at h; unfold TR; omega)
      refine lv_aload_n S.1 S.2.1 dX2_signal_40 rfl (lv_at hl 0 rfl) ?_
      refine w_get (C := RX2) (T := TX2) (N := 15) S (fun _ h => List.mem_cons_of_mem _ (List.mem_append_left _ (List.mem_append_left _ (List.mem_append_left _ (List.mem_append_left _ (List.mem_append_left _ (List.mem_append_right _ h))))))) hK hP (5 + 21 * i) (by have := h4; omega) ((ceP0 h4) _) rfl 5 (by decide) (hts _ (List.mem_of_getElem? (i := 4) rfl)) (v := .ref (g.1 (5 + 21 * i + 12))) rfl dX2_signal_41 ?_
      refine lv_aload_n S.1 S.2.1 dX2_signal_44 rfl (lv_at hl 0 rfl) ?_
      refine w_get (C := RX2) (T := TX2) (N := 15) S (fun _ h => List.mem_cons_of_mem _ (List.mem_append_left _ (List.mem_append_left _ (List.mem_append_left _ (List.mem_append_left _ (List.mem_append_left _ (List.mem_append_right _ h))))))) hK hP (5 + 21 * i) (by have := h4; omega) ((ceP0 h4) _) rfl 4 (by decide) (hts _ (List.mem_of_getElem? (i := 3) rfl)) (v := .ref (g.1 (5 + 21 * i + 7))) rfl dX2_signal_45 ?_
      refine w_getN (C := RX1) (T := TX1) (N := 5) S (fun _ h => List.mem_cons_of_mem _ (List.mem_append_left _ (List.mem_append_left _ (List.mem_append_left _ (List.mem_append_left _ (List.mem_append_right _ h)))))) hK hP (5 + 21 * i + 7) (by have := h4; omega) ((ceP7 h4) _) rfl 1 (by decide) (hN.1 _ (List.mem_of_getElem? (i := 13) rfl)) (v := .ref (g.1 (5 + 21 * i + 10))) rfl dX2_signal_48 ?_
      refine w_getN (C := RX3) (T := TX3) (N := 3) S (fun _ h => List.mem_cons_of_mem _ (List.mem_append_left _ (List.mem_append_left _ (List.mem_append_left _ (List.mem_append_right _ h))))) hK hP (5 + 21 * i + 10) (by have := h4; omega) ((ceP10 h4) _) rfl 2 (by decide) (hN.1 _ (List.mem_of_getElem? (i := 6) rfl)) (v := .int (x41 (5 + 21 * i + 10) 2)) rfl dX2_signal_51 ?_
      refine lv_topi (fun v48 ev48 => ?_)
      have wv48 : v48.toInt = (x41 (5 + 21 * i + 10) 2).toInt := by rw [ev48]
      have rv48 : (0 : Int) ≤ v48.toInt ∧ v48.toInt ≤ (8 : Int) := by rw [ev48]; exact hI44.atP (j := 10) (k := 2) h4 (by decide)
      refine w_cVv (As := [.int v48]) (rest := []) S hK hN hP hS hl (5 + 21 * i + 12) (by have := h4; omega) ((ceP12 h4) _) rfl (c_X5_onlyLeft l D g hg x41 hI44 i h4 v48) (cwV 1 hts gX2_signal_X5_onlyLeft rfl rfl rfl (by decide +kernel) ⟨Nat.le_of_ble_eq_true rfl, Nat.le_of_ble_eq_true rfl⟩) rfl rfl (Nat.le_of_ble_eq_true rfl) dX2_signal_54 ⟨Nat.zero_le _, Nat.zero_le _⟩ (fun x49 H locs hq51 hP hS => ?_)
      obtain ⟨hI52, hT53, hf54⟩ := hq51
      have hT55 : Same (TC) x x49 := hT47.tr hT53 (fun _ _ h => h)
      exact J57 _ _ _ _ hI52 hT55 hP hS (lv_sub hl [0, 1, 2] rfl)
set_option maxRecDepth 100000 in
set_option maxHeartbeats 4000000 in
theorem c_X2_takeFlagged (l : Launch) (D : va_G) (g : GA) (hg : Inj g) (x : St) (hI : Inv x) (i : Nat) (h4 : i < 4) (br : Int32) : Met l yX2_takeFlagged wsX2_takeFlagged ({ frames := 4, cells := 0, slots := 0, locals := 87 } : Room) (va_Pc [.ref (g.1 (5 + 21 * i)), .int br] (WI D g x)) (va_Qv (fun x2 => Inv x2 ∧ Same TC x x2 ∧ True) (WO D g) (AQ g)) 0 0 (AQ g) := by
  refine w_met (cc := cX2_takeFlagged) (maxL := 2) (ret := none) (own := RX2) (by decide) rfl rfl (Nat.le_of_ble_eq_true rfl) (fun p e s m below meth co S hr0 hlk hK hN hP hS ls hl => ?_)
  have hts := S.2.2.2.2
  have hl : lv_has ls 2 [(0, .ref (g.1 (5 + 21 * i))), (1, .int br)] := hl
  have hT : Same (TC) x x := Same.rf
  have J40 : ∀ (H : Heap) (locs : List Loc) (ls : Array Slot), va_P D vwCl (WL g x) H → va_S (AQ g) s.heap H locs → lv_has ls 2 [(0, .ref (g.1 (5 + 21 * i))), (1, .int br)] → W p l e ({ frames := 4, cells := 0, slots := 0, locals := 87 } : Room) s m ([.ref (g.1 (5 + 21 * i)), .int br] : List Value).toArray below meth co H locs 0 0 (MQ below (va_Qv (fun x2 => Inv x2 ∧ Same TC x x2 ∧ True) (WO D g) (AQ g)) ([.ref (g.1 (5 + 21 * i)), .int br] : List Value).toArray s 0 0 (AQ g)) (F0 m 40 ls []) := by
    intro H locs ls hP hS hl
    refine lv_aload_n S.1 S.2.1 dX2_takeFlagged_40 rfl (lv_at hl 0 rfl) ?_
    refine w_iconst S dX2_takeFlagged_41 (by decide) (fun k1 hk1 => ?_)
    refine w_put (C := RX2) (T := TX2) (N := 15) (F := FPort g (5 + 21 * i)) S (fun _ h => List.mem_cons_of_mem _ (List.mem_append_left _ (List.mem_append_left _ (List.mem_append_left _ (List.mem_append_left _ (List.mem_append_left _ (List.mem_append_right _ h))))))) tyX2_ok nmX2 hK hg hP hS (5 + 21 * i) (by have := h4; omega) (ceP0 h4) rfl 9 (by decide) (hts _ (List.mem_of_getElem? (i := 2) rfl)) rfl (tz_narrow (z01 (by omega) (by omega))) (tz_fits (z01 (by omega) (by omega))) (fun _ => Nat.le_of_ble_eq_true rfl) (fun _ => rfl) dX2_takeFlagged_42 (fun x2 H locs ex2 hP hS => ?_)
    have hI3 : Inv x2 := by rw [ex2]; exact hI.upP0 h4 (show (0 : Int) ≤ _ by omega) (show _ ≤ (1 : Int) by omega)
    have hT4 : Same (TC) x x2 := by rw [ex2]; exact hT.up (by unfold TC TrC; omega)
    refine lv_aload_n S.1 S.2.1 dX2_takeFlagged_45 rfl (lv_at hl 0 rfl) ?_
    refine w_iconst S dX2_takeFlagged_46 (by decide) (fun k5 hk5 => ?_)
    refine w_cVv (As := [.int k5]) (rest := []) S hK hN hP hS hl (5 + 21 * i) (by have := h4; omega) ((ceP0 h4) _) rfl (c_X2_keepAndEcho l D g hg x2 hI3 i h4 k5) (cwV 1 hts gX2_takeFlagged_X2_keepAndEcho rfl rfl rfl (by decide +kernel) ⟨Nat.le_of_ble_eq_true rfl, Nat.le_of_ble_eq_true rfl⟩) rfl rfl (Nat.le_of_ble_eq_true rfl) dX2_takeFlagged_47 ⟨Nat.zero_le _, Nat.zero_le _⟩ (fun x6 H locs hq8 hP hS => ?_)
    obtain ⟨hI9, hT10, hf11⟩ := hq8
    have hT12 : Same (TC) x x6 := hT4.tr hT10 (fun _ _ h => h)
    refine lv_goto (tgt := 63) S.1 S.2.1 dX2_takeFlagged_50 (by decide) ?_
    exact w_vret S hr0 hlk hP hS dX2_takeFlagged_63 (⟨hI9, hT12, trivial⟩)
  have J27 : ∀ (H : Heap) (locs : List Loc) (ls : Array Slot), va_P D vwCl (WL g x) H → va_S (AQ g) s.heap H locs → lv_has ls 2 [(0, .ref (g.1 (5 + 21 * i))), (1, .int br)] → W p l e ({ frames := 4, cells := 0, slots := 0, locals := 87 } : Room) s m ([.ref (g.1 (5 + 21 * i)), .int br] : List Value).toArray below meth co H locs 0 0 (MQ below (va_Qv (fun x2 => Inv x2 ∧ Same TC x x2 ∧ True) (WO D g) (AQ g)) ([.ref (g.1 (5 + 21 * i)), .int br] : List Value).toArray s 0 0 (AQ g)) (F0 m 27 ls []) := by
    intro H locs ls hP hS hl
    refine lv_iload_n S.1 S.2.1 dX2_takeFlagged_27 rfl (lv_at hl 1 rfl) ?_
    refine w_if_ne (tgt := 40) S dX2_takeFlagged_28 (by decide) (fun hb13 => ?_) (fun hb13 => ?_)
    · exact J40 _ _ _ hP hS (lv_sub hl [0, 1] rfl)
    · refine lv_aload_n S.1 S.2.1 dX2_takeFlagged_31 rfl (lv_at hl 0 rfl) ?_
      refine w_bipush S dX2_takeFlagged_32 (by decide) (fun k14 hk14 => ?_)
      refine w_cVi (As := [.int k14]) (rest := []) S hK hN hP hS hl (5 + 21 * i) (by have := h4; omega) ((ceP0 h4) _) rfl (c_X2_isOn l D g hg x hI i h4 k14 (by omega)) (cwV 1 hts gX2_takeFlagged_X2_isOn rfl rfl rfl (by decide +kernel) ⟨Nat.le_of_ble_eq_true rfl, Nat.le_of_ble_eq_true rfl⟩) rfl rfl (Nat.le_of_ble_eq_true rfl) dX2_takeFlagged_34 ⟨Nat.zero_le _, Nat.zero_le _⟩ (fun r16 x15 H locs hq17 hP hS => ?_)
      obtain ⟨ex18, hf19⟩ := hq17
      rw [ex18] at hP
      refine w_if_eq (tgt := 53) S dX2_takeFlagged_37 (by decide) (fun hb20 => ?_) (fun hb20 => ?_)
      · refine lv_aload_n S.1 S.2.1 dX2_takeFlagged_53 rfl (lv_at hl 0 rfl) ?_
        refine w_get (C := RX2) (T := TX2) (N := 15) S (fun _ h => List.mem_cons_of_mem _ (List.mem_append_left _ (List.mem_append_left _ (List.mem_append_left _ (List.mem_append_left _ (List.mem_append_left _ (List.mem_append_right _ h))))))) hK hP (5 + 21 * i) (by have := h4; omega) ((ceP0 h4) _) rfl 8 (by decide) (hts _ (List.mem_of_getElem? (i := 3) rfl)) (v := .ref (g.1 (5 + 21 * i + 20))) rfl dX2_takeFlagged_54 ?_
        refine w_iconst S dX2_takeFlagged_57 (by decide) (fun k21 hk21 => ?_)
        refine lv_dup2_11 S.1 S.2.1 dX2_takeFlagged_58 rfl rfl ?_
        refine w_iald S hK hP (5 + 21 * i + 20) (by have := h4; omega) (ceP20 h4) (by omega) (by omega) dX2_takeFlagged_59 (fun v22 ev22 => ?_)
        have wv22 : v22.toInt = (x (5 + 21 * i + 20) k21.toInt.toNat).toInt := by rw [ev22]
        refine w_iconst S dX2_takeFlagged_60 (by decide) (fun k23 hk23 => ?_)
        refine lv_iadd S.1 S.2.1 dX2_takeFlagged_61 ?_
        refine w_any1 (fun v24 => ?_)
        refine w_iast S hK hg hP hS (5 + 21 * i + 20) (by have := h4; omega) (ceP20 h4) (by omega) (by omega) dX2_takeFlagged_62 (fun x25 H locs ex25 hP hS => ?_)
        have hI26 : Inv x25 := by rw [ex25]; exact hI.upP (j := 20) h4 (by decide) (i_ge _) (i_le _)
        have hT27 : Same (TC) x x25 := by rw [ex25]; exact hT.up (by unfold TC TrC; omega)
        exact w_vret S hr0 hlk hP hS dX2_takeFlagged_63 (⟨hI26, hT27, trivial⟩)
      · exact J40 _ _ _ hP hS (lv_sub hl [0, 1] rfl)
  refine lv_iload_n S.1 S.2.1 dX2_takeFlagged_0 rfl (lv_at hl 1 rfl) ?_
  refine w_if_eq (tgt := 27) S dX2_takeFlagged_1 (by decide) (fun hb28 => ?_) (fun hb28 => ?_)
  · exact J27 _ _ _ hP hS (lv_sub hl [0, 1] rfl)
  · refine lv_aload_n S.1 S.2.1 dX2_takeFlagged_4 rfl (lv_at hl 0 rfl) ?_
    refine w_iconst S dX2_takeFlagged_5 (by decide) (fun k29 hk29 => ?_)
    refine w_cVi (As := [.int k29]) (rest := []) S hK hN hP hS hl (5 + 21 * i) (by have := h4; omega) ((ceP0 h4) _) rfl (c_X2_isOn l D g hg x hI i h4 k29 (by omega)) (cwV 1 hts gX2_takeFlagged_X2_isOn rfl rfl rfl (by decide +kernel) ⟨Nat.le_of_ble_eq_true rfl, Nat.le_of_ble_eq_true rfl⟩) rfl rfl (Nat.le_of_ble_eq_true rfl) dX2_takeFlagged_6 ⟨Nat.zero_le _, Nat.zero_le _⟩ (fun r31 x30 H locs hq32 hP hS => ?_)
    obtain ⟨ex33, hf34⟩ := hq32
    rw [ex33] at hP
    refine w_if_eq (tgt := 27) S dX2_takeFlagged_9 (by decide) (fun hb35 => ?_) (fun hb35 => ?_)
    · exact J27 _ _ _ hP hS (lv_sub hl [0, 1] rfl)
    · refine lv_aload_n S.1 S.2.1 dX2_takeFlagged_12 rfl (lv_at hl 0 rfl) ?_
      refine w_iconst S dX2_takeFlagged_13 (by decide) (fun k36 hk36 => ?_)
      refine lv_aload_n S.1 S.2.1 dX2_takeFlagged_14 rfl (lv_at hl 0 rfl) ?_
      refine w_get (C := RX2) (T := TX2) (N := 15) S (fun _ h => List.mem_cons_of_mem _ (List.mem_append_left _ (List.mem_append_left _ (List.mem_append_left _ (List.mem_append_left _ (List.mem_append_left _ (List.mem_append_right _ h))))))) hK hP (5 + 21 * i) (by have := h4; omega) ((ceP0 h4) _) rfl 1 (by decide) (hts _ (List.mem_of_getElem? (i := 1) rfl)) (v := .ref (g.1 (5 + 21 * i + 1))) rfl dX2_takeFlagged_15 ?_
      refine w_bipush S dX2_takeFlagged_18 (by decide) (fun k37 hk37 => ?_)
      refine w_iald S hK hP (5 + 21 * i + 1) (by have := h4; omega) (ceP1 h4) (by omega) (by omega) dX2_takeFlagged_20 (fun v38 ev38 => ?_)
      have wv38 : v38.toInt = (x (5 + 21 * i + 1) k37.toInt.toNat).toInt := by rw [ev38]
      refine w_cVv (As := [.int k36, .int v38]) (rest := []) S hK hN hP hS hl (5 + 21 * i) (by have := h4; omega) ((ceP0 h4) _) rfl (c_X2_signal l D g hg x hI i h4 k36 v38) (cwV 2 hts gX2_takeFlagged_X2_signal rfl rfl rfl (by decide +kernel) ⟨Nat.le_of_ble_eq_true rfl, Nat.le_of_ble_eq_true rfl⟩) rfl rfl (Nat.le_of_ble_eq_true rfl) dX2_takeFlagged_21 ⟨Nat.zero_le _, Nat.zero_le _⟩ (fun x39 H locs hq41 hP hS => ?_)
      obtain ⟨hI42, hT43, hf44⟩ := hq41
      have hT45 : Same (TC) x x39 := hT.tr hT43 (fun _ _ h => h)
      refine lv_goto (tgt := 63) S.1 S.2.1 dX2_takeFlagged_24 (by decide) ?_
      exact w_vret S hr0 hlk hP hS dX2_takeFlagged_63 (⟨hI42, hT45, trivial⟩)
set_option maxRecDepth 100000 in
set_option maxHeartbeats 4000000 in
theorem c_X2_settledAsFlow (l : Launch) (D : va_G) (g : GA) (hg : Inj g) (x : St) (hI : Inv x) (i : Nat) (h4 : i < 4) (b : Int32) : Met l yX2_settledAsFlow wsX2_settledAsFlow ({ frames := 1, cells := 0, slots := 0, locals := 21 } : Room) (va_Pc [.ref (g.1 (5 + 21 * i)), .int b] (WI D g x)) (va_Qi (fun r x2 => Inv x2 ∧ Same TC x x2 ∧ (0 ≤ r.toInt ∧ r.toInt ≤ 1)) (WO D g) (AQ g)) 0 0 (AQ g) := by
  refine w_met (cc := cX2_settledAsFlow) (maxL := 2) (ret := (some .boolean)) (own := RX2) (by decide) rfl rfl (Nat.le_of_ble_eq_true rfl) (fun p e s m below meth co S hr0 hlk hK hN hP hS ls hl => ?_)
  have hts := S.2.2.2.2
  have hl : lv_has ls 2 [(0, .ref (g.1 (5 + 21 * i))), (1, .int b)] := hl
  have hT : Same (TC) x x := Same.rf
  refine lv_aload_n S.1 S.2.1 dX2_settledAsFlow_0 rfl (lv_at hl 0 rfl) ?_
  refine w_iconst S dX2_settledAsFlow_1 (by decide) (fun k1 hk1 => ?_)
  refine w_cVi (As := [.int k1]) (rest := []) S hK hN hP hS hl (5 + 21 * i) (by have := h4; omega) ((ceP0 h4) _) rfl (c_X2_isOn l D g hg x hI i h4 k1 (by omega)) (cwV 1 hts gX2_settledAsFlow_X2_isOn rfl rfl rfl (by decide +kernel) ⟨Nat.le_of_ble_eq_true rfl, Nat.le_of_ble_eq_true rfl⟩) rfl rfl (Nat.le_of_ble_eq_true rfl) dX2_settledAsFlow_2 ⟨Nat.zero_le _, Nat.zero_le _⟩ (fun r3 x2 H locs hq4 hP hS => ?_)
  obtain ⟨ex5, hf6⟩ := hq4
  rw [ex5] at hP
  refine w_if_ne (tgt := 10) S dX2_settledAsFlow_5 (by decide) (fun hb7 => ?_) (fun hb7 => ?_)
  · refine lv_iload_n S.1 S.2.1 dX2_settledAsFlow_10 rfl (lv_at hl 1 rfl) ?_
    refine lv_aload_n S.1 S.2.1 dX2_settledAsFlow_11 rfl (lv_at hl 0 rfl) ?_
    refine w_get (C := RX2) (T := TX2) (N := 15) S (fun _ h => List.mem_cons_of_mem _ (List.mem_append_left _ (List.mem_append_right _ h))) hK hP (5 + 21 * i) (by have := h4; omega) ((ceP0 h4) _) rfl 1 (by decide) (hts _ (List.mem_of_getElem? (i := 1) rfl)) (v := .ref (g.1 (5 + 21 * i + 1))) rfl dX2_settledAsFlow_12 ?_
    refine w_bipush S dX2_settledAsFlow_15 (by decide) (fun k8 hk8 => ?_)
    refine w_iald S hK hP (5 + 21 * i + 1) (by have := h4; omega) (ceP1 h4) (by omega) (by omega) dX2_settledAsFlow_17 (fun v9 ev9 => ?_)
    have wv9 : v9.toInt = (x (5 + 21 * i + 1) k8.toInt.toNat).toInt := by rw [ev9]
    refine w_icmp_ne (tgt := 31) S dX2_settledAsFlow_18 (by decide) (fun hb10 => ?_) (fun hb10 => ?_)
    · refine lv_iload_n S.1 S.2.1 dX2_settledAsFlow_31 rfl (lv_at hl 1 rfl) ?_
      refine lv_aload_n S.1 S.2.1 dX2_settledAsFlow_32 rfl (lv_at hl 0 rfl) ?_
      refine w_get (C := RX2) (T := TX2) (N := 15) S (fun _ h => List.mem_cons_of_mem _ (List.mem_append_left _ (List.mem_append_right _ h))) hK hP (5 + 21 * i) (by have := h4; omega) ((ceP0 h4) _) rfl 1 (by decide) (hts _ (List.mem_of_getElem? (i := 1) rfl)) (v := .ref (g.1 (5 + 21 * i + 1))) rfl dX2_settledAsFlow_33 ?_
      refine w_bipush S dX2_settledAsFlow_36 (by decide) (fun k11 hk11 => ?_)
      refine w_iald S hK hP (5 + 21 * i + 1) (by have := h4; omega) (ceP1 h4) (by omega) (by omega) dX2_settledAsFlow_38 (fun v12 ev12 => ?_)
      have wv12 : v12.toInt = (x (5 + 21 * i + 1) k11.toInt.toNat).toInt := by rw [ev12]
      refine w_icmp_ne (tgt := 52) S dX2_settledAsFlow_39 (by decide) (fun hb13 => ?_) (fun hb13 => ?_)
      · refine lv_aload_n S.1 S.2.1 dX2_settledAsFlow_52 rfl (lv_at hl 0 rfl) ?_
        refine w_iconst S dX2_settledAsFlow_53 (by decide) (fun k14 hk14 => ?_)
        refine w_cVi (As := [.int k14]) (rest := []) S hK hN hP hS hl (5 + 21 * i) (by have := h4; omega) ((ceP0 h4) _) rfl (c_X2_isOn l D g hg x hI i h4 k14 (by omega)) (cwV 1 hts gX2_settledAsFlow_X2_isOn rfl rfl rfl (by decide +kernel) ⟨Nat.le_of_ble_eq_true rfl, Nat.le_of_ble_eq_true rfl⟩) rfl rfl (Nat.le_of_ble_eq_true rfl) dX2_settledAsFlow_54 ⟨Nat.zero_le _, Nat.zero_le _⟩ (fun r16 x15 H locs hq17 hP hS => ?_)
        obtain ⟨ex18, hf19⟩ := hq17
        rw [ex18] at hP
        refine w_if_eq (tgt := 68) S dX2_settledAsFlow_57 (by decide) (fun hb20 => ?_) (fun hb20 => ?_)
        · refine w_iconst S dX2_settledAsFlow_68 (by decide) (fun k21 hk21 => ?_)
          exact w_zret S hr0 hlk hP hS dX2_settledAsFlow_69 (z01 (by omega) (by omega)) (⟨hI, hT, by omega⟩)
        · refine lv_aload_n S.1 S.2.1 dX2_settledAsFlow_60 rfl (lv_at hl 0 rfl) ?_
          refine w_get (C := RX2) (T := TX2) (N := 15) S (fun _ h => List.mem_cons_of_mem _ (List.mem_append_left _ (List.mem_append_right _ h))) hK hP (5 + 21 * i) (by have := h4; omega) ((ceP0 h4) _) rfl 4 (by decide) (hts _ (List.mem_of_getElem? (i := 2) rfl)) (v := .ref (g.1 (5 + 21 * i + 7))) rfl dX2_settledAsFlow_61 ?_
          refine w_iconst S dX2_settledAsFlow_64 (by decide) (fun k22 hk22 => ?_)
          refine w_putN (C := RX1) (T := TX1) (N := 5) (F := FOut g (5 + 21 * i)) S (fun _ h => List.mem_cons_of_mem _ (List.mem_append_right _ h)) tyX1_ok nmX1 hK hg hP hS (5 + 21 * i + 7) (by have := h4; omega) (ceP7 h4) rfl 3 (by decide) (hN.1 _ (List.mem_of_getElem? (i := 16) rfl)) rfl (tz_narrow (z01 (by omega) (by omega))) (tz_fits (z01 (by omega) (by omega))) (fun _ => Nat.le_of_ble_eq_true rfl) (fun _ => rfl) dX2_settledAsFlow_65 (fun x23 H locs ex23 hP hS => ?_)
          have hI24 : Inv x23 := by rw [ex23]; exact hI.upP (j := 7) h4 (by decide) (show (0 : Int) ≤ _ by omega) (show _ ≤ (1 : Int) by omega)
          have hT25 : Same (TC) x x23 := by rw [ex23]; exact hT.up (by unfold TC TrC; omega)
          refine w_iconst S dX2_settledAsFlow_68 (by decide) (fun k26 hk26 => ?_)
          exact w_zret S hr0 hlk hP hS dX2_settledAsFlow_69 (z01 (by omega) (by omega)) (⟨hI24, hT25, by omega⟩)
      · refine lv_aload_n S.1 S.2.1 dX2_settledAsFlow_42 rfl (lv_at hl 0 rfl) ?_
        refine w_get (C := RX2) (T := TX2) (N := 15) S (fun _ h => List.mem_cons_of_mem _ (List.mem_append_left _ (List.mem_append_right _ h))) hK hP (5 + 21 * i) (by have := h4; omega) ((ceP0 h4) _) rfl 4 (by decide) (hts _ (List.mem_of_getElem? (i := 2) rfl)) (v := .ref (g.1 (5 + 21 * i + 7))) rfl dX2_settledAsFlow_43 ?_
        refine w_iconst S dX2_settledAsFlow_46 (by decide) (fun k27 hk27 => ?_)
        refine w_putN (C := RX1) (T := TX1) (N := 5) (F := FOut g (5 + 21 * i)) S (fun _ h => List.mem_cons_of_mem _ (List.mem_append_right _ h)) tyX1_ok nmX1 hK hg hP hS (5 + 21 * i + 7) (by have := h4; omega) (ceP7 h4) rfl 3 (by decide) (hN.1 _ (List.mem_of_getElem? (i := 16) rfl)) rfl (tz_narrow (z01 (by omega) (by omega))) (tz_fits (z01 (by omega) (by omega))) (fun _ => Nat.le_of_ble_eq_true rfl) (fun _ => rfl) dX2_settledAsFlow_47 (fun x28 H locs ex28 hP hS => ?_)
        have hI29 : Inv x28 := by rw [ex28]; exact hI.upP (j := 7) h4 (by decide) (show (0 : Int) ≤ _ by omega) (show _ ≤ (1 : Int) by omega)
        have hT30 : Same (TC) x x28 := by rw [ex28]; exact hT.up (by unfold TC TrC; omega)
        refine w_iconst S dX2_settledAsFlow_50 (by decide) (fun k31 hk31 => ?_)
        exact w_zret S hr0 hlk hP hS dX2_settledAsFlow_51 (z01 (by omega) (by omega)) (⟨hI29, hT30, by omega⟩)
    · refine lv_aload_n S.1 S.2.1 dX2_settledAsFlow_21 rfl (lv_at hl 0 rfl) ?_
      refine w_get (C := RX2) (T := TX2) (N := 15) S (fun _ h => List.mem_cons_of_mem _ (List.mem_append_left _ (List.mem_append_right _ h))) hK hP (5 + 21 * i) (by have := h4; omega) ((ceP0 h4) _) rfl 4 (by decide) (hts _ (List.mem_of_getElem? (i := 2) rfl)) (v := .ref (g.1 (5 + 21 * i + 7))) rfl dX2_settledAsFlow_22 ?_
      refine w_iconst S dX2_settledAsFlow_25 (by decide) (fun k32 hk32 => ?_)
      refine w_putN (C := RX1) (T := TX1) (N := 5) (F := FOut g (5 + 21 * i)) S (fun _ h => List.mem_cons_of_mem _ (List.mem_append_right _ h)) tyX1_ok nmX1 hK hg hP hS (5 + 21 * i + 7) (by have := h4; omega) (ceP7 h4) rfl 3 (by decide) (hN.1 _ (List.mem_of_getElem? (i := 16) rfl)) rfl (tz_narrow (z01 (by omega) (by omega))) (tz_fits (z01 (by omega) (by omega))) (fun _ => Nat.le_of_ble_eq_true rfl) (fun _ => rfl) dX2_settledAsFlow_26 (fun x33 H locs ex33 hP hS => ?_)
      have hI34 : Inv x33 := by rw [ex33]; exact hI.upP (j := 7) h4 (by decide) (show (0 : Int) ≤ _ by omega) (show _ ≤ (1 : Int) by omega)
      have hT35 : Same (TC) x x33 := by rw [ex33]; exact hT.up (by unfold TC TrC; omega)
      refine w_iconst S dX2_settledAsFlow_29 (by decide) (fun k36 hk36 => ?_)
      exact w_zret S hr0 hlk hP hS dX2_settledAsFlow_30 (z01 (by omega) (by omega)) (⟨hI34, hT35, by omega⟩)
  · refine w_iconst S dX2_settledAsFlow_8 (by decide) (fun k37 hk37 => ?_)
    exact w_zret S hr0 hlk hP hS dX2_settledAsFlow_9 (z01 (by omega) (by omega)) (⟨hI, hT, by omega⟩)
set_option maxRecDepth 100000 in
set_option maxHeartbeats 4000000 in
theorem c_X2_settledAsSignal (l : Launch) (D : va_G) (g : GA) (hg : Inj g) (x : St) (hI : Inv x) (i : Nat) (h4 : i < 4) (b : Int32) : Met l yX2_settledAsSignal wsX2_settledAsSignal ({ frames := 4, cells := 0, slots := 0, locals := 87 } : Room) (va_Pc [.ref (g.1 (5 + 21 * i)), .int b] (WI D g x)) (va_Qi (fun r x2 => Inv x2 ∧ Same TC x x2 ∧ (0 ≤ r.toInt ∧ r.toInt ≤ 1)) (WO D g) (AQ g)) 0 0 (AQ g) := by
  refine w_met (cc := cX2_settledAsSignal) (maxL := 2) (ret := (some .boolean)) (own := RX2) (by decide) rfl rfl (Nat.le_of_ble_eq_true rfl) (fun p e s m below meth co S hr0 hlk hK hN hP hS ls hl => ?_)
  have hts := S.2.2.2.2
  have hl : lv_has ls 2 [(0, .ref (g.1 (5 + 21 * i))), (1, .int b)] := hl
  have hT : Same (TC) x x := Same.rf
  refine lv_aload_n S.1 S.2.1 dX2_settledAsSignal_0 rfl (lv_at hl 0 rfl) ?_
  refine w_iconst S dX2_settledAsSignal_1 (by decide) (fun k1 hk1 => ?_)
  refine w_cVi (As := [.int k1]) (rest := []) S hK hN hP hS hl (5 + 21 * i) (by have := h4; omega) ((ceP0 h4) _) rfl (c_X2_isOn l D g hg x hI i h4 k1 (by omega)) (cwV 1 hts gX2_settledAsSignal_X2_isOn rfl rfl rfl (by decide +kernel) ⟨Nat.le_of_ble_eq_true rfl, Nat.le_of_ble_eq_true rfl⟩) rfl rfl (Nat.le_of_ble_eq_true rfl) dX2_settledAsSignal_2 ⟨Nat.zero_le _, Nat.zero_le _⟩ (fun r3 x2 H locs hq4 hP hS => ?_)
  obtain ⟨ex5, hf6⟩ := hq4
  rw [ex5] at hP
  refine w_if_ne (tgt := 10) S dX2_settledAsSignal_5 (by decide) (fun hb7 => ?_) (fun hb7 => ?_)
  · refine lv_iload_n S.1 S.2.1 dX2_settledAsSignal_10 rfl (lv_at hl 1 rfl) ?_
    refine lv_aload_n S.1 S.2.1 dX2_settledAsSignal_11 rfl (lv_at hl 0 rfl) ?_
    refine w_get (C := RX2) (T := TX2) (N := 15) S (fun _ h => List.mem_cons_of_mem _ (List.mem_append_left _ (List.mem_append_left _ (List.mem_append_left _ (List.mem_append_left _ (List.mem_append_left _ (List.mem_append_right _ h))))))) hK hP (5 + 21 * i) (by have := h4; omega) ((ceP0 h4) _) rfl 1 (by decide) (hts _ (List.mem_of_getElem? (i := 1) rfl)) (v := .ref (g.1 (5 + 21 * i + 1))) rfl dX2_settledAsSignal_12 ?_
    refine w_bipush S dX2_settledAsSignal_15 (by decide) (fun k8 hk8 => ?_)
    refine w_iald S hK hP (5 + 21 * i + 1) (by have := h4; omega) (ceP1 h4) (by omega) (by omega) dX2_settledAsSignal_17 (fun v9 ev9 => ?_)
    have wv9 : v9.toInt = (x (5 + 21 * i + 1) k8.toInt.toNat).toInt := by rw [ev9]
    refine w_icmp_ne (tgt := 30) S dX2_settledAsSignal_18 (by decide) (fun hb10 => ?_) (fun hb10 => ?_)
    · refine lv_iload_n S.1 S.2.1 dX2_settledAsSignal_30 rfl (lv_at hl 1 rfl) ?_
      refine lv_aload_n S.1 S.2.1 dX2_settledAsSignal_31 rfl (lv_at hl 0 rfl) ?_
      refine w_get (C := RX2) (T := TX2) (N := 15) S (fun _ h => List.mem_cons_of_mem _ (List.mem_append_left _ (List.mem_append_left _ (List.mem_append_left _ (List.mem_append_left _ (List.mem_append_left _ (List.mem_append_right _ h))))))) hK hP (5 + 21 * i) (by have := h4; omega) ((ceP0 h4) _) rfl 1 (by decide) (hts _ (List.mem_of_getElem? (i := 1) rfl)) (v := .ref (g.1 (5 + 21 * i + 1))) rfl dX2_settledAsSignal_32 ?_
      refine w_bipush S dX2_settledAsSignal_35 (by decide) (fun k11 hk11 => ?_)
      refine w_iald S hK hP (5 + 21 * i + 1) (by have := h4; omega) (ceP1 h4) (by omega) (by omega) dX2_settledAsSignal_37 (fun v12 ev12 => ?_)
      have wv12 : v12.toInt = (x (5 + 21 * i + 1) k11.toInt.toNat).toInt := by rw [ev12]
      refine w_icmp_ne (tgt := 50) S dX2_settledAsSignal_38 (by decide) (fun hb13 => ?_) (fun hb13 => ?_)
      · refine lv_iload_n S.1 S.2.1 dX2_settledAsSignal_50 rfl (lv_at hl 1 rfl) ?_
        refine lv_aload_n S.1 S.2.1 dX2_settledAsSignal_51 rfl (lv_at hl 0 rfl) ?_
        refine w_get (C := RX2) (T := TX2) (N := 15) S (fun _ h => List.mem_cons_of_mem _ (List.mem_append_left _ (List.mem_append_left _ (List.mem_append_left _ (List.mem_append_left _ (List.mem_append_left _ (List.mem_append_right _ h))))))) hK hP (5 + 21 * i) (by have := h4; omega) ((ceP0 h4) _) rfl 1 (by decide) (hts _ (List.mem_of_getElem? (i := 1) rfl)) (v := .ref (g.1 (5 + 21 * i + 1))) rfl dX2_settledAsSignal_52 ?_
        refine w_bipush S dX2_settledAsSignal_55 (by decide) (fun k14 hk14 => ?_)
        refine w_iald S hK hP (5 + 21 * i + 1) (by have := h4; omega) (ceP1 h4) (by omega) (by omega) dX2_settledAsSignal_57 (fun v15 ev15 => ?_)
        have wv15 : v15.toInt = (x (5 + 21 * i + 1) k14.toInt.toNat).toInt := by rw [ev15]
        refine w_icmp_ne (tgt := 70) S dX2_settledAsSignal_58 (by decide) (fun hb16 => ?_) (fun hb16 => ?_)
        · refine w_iconst S dX2_settledAsSignal_70 (by decide) (fun k17 hk17 => ?_)
          exact w_zret S hr0 hlk hP hS dX2_settledAsSignal_71 (z01 (by omega) (by omega)) (⟨hI, hT, by omega⟩)
        · refine lv_aload_n S.1 S.2.1 dX2_settledAsSignal_61 rfl (lv_at hl 0 rfl) ?_
          refine w_iconst S dX2_settledAsSignal_62 (by decide) (fun k18 hk18 => ?_)
          refine lv_iload_n S.1 S.2.1 dX2_settledAsSignal_63 rfl (lv_at hl 1 rfl) ?_
          refine w_cVv (As := [.int k18, .int b]) (rest := []) S hK hN hP hS hl (5 + 21 * i) (by have := h4; omega) ((ceP0 h4) _) rfl (c_X2_signal l D g hg x hI i h4 k18 b) (cwV 2 hts gX2_settledAsSignal_X2_signal rfl rfl rfl (by decide +kernel) ⟨Nat.le_of_ble_eq_true rfl, Nat.le_of_ble_eq_true rfl⟩) rfl rfl (Nat.le_of_ble_eq_true rfl) dX2_settledAsSignal_64 ⟨Nat.zero_le _, Nat.zero_le _⟩ (fun x19 H locs hq21 hP hS => ?_)
          obtain ⟨hI22, hT23, hf24⟩ := hq21
          have hT25 : Same (TC) x x19 := hT.tr hT23 (fun _ _ h => h)
          refine lv_goto (tgt := 72) S.1 S.2.1 dX2_settledAsSignal_67 (by decide) ?_
          refine w_iconst S dX2_settledAsSignal_72 (by decide) (fun k26 hk26 => ?_)
          exact w_zret S hr0 hlk hP hS dX2_settledAsSignal_73 (z01 (by omega) (by omega)) (⟨hI22, hT25, by omega⟩)
      · refine lv_aload_n S.1 S.2.1 dX2_settledAsSignal_41 rfl (lv_at hl 0 rfl) ?_
        refine w_iconst S dX2_settledAsSignal_42 (by decide) (fun k27 hk27 => ?_)
        refine lv_iload_n S.1 S.2.1 dX2_settledAsSignal_43 rfl (lv_at hl 1 rfl) ?_
        refine w_cVv (As := [.int k27, .int b]) (rest := []) S hK hN hP hS hl (5 + 21 * i) (by have := h4; omega) ((ceP0 h4) _) rfl (c_X2_signal l D g hg x hI i h4 k27 b) (cwV 2 hts gX2_settledAsSignal_X2_signal rfl rfl rfl (by decide +kernel) ⟨Nat.le_of_ble_eq_true rfl, Nat.le_of_ble_eq_true rfl⟩) rfl rfl (Nat.le_of_ble_eq_true rfl) dX2_settledAsSignal_44 ⟨Nat.zero_le _, Nat.zero_le _⟩ (fun x28 H locs hq30 hP hS => ?_)
        obtain ⟨hI31, hT32, hf33⟩ := hq30
        have hT34 : Same (TC) x x28 := hT.tr hT32 (fun _ _ h => h)
        refine lv_goto (tgt := 72) S.1 S.2.1 dX2_settledAsSignal_47 (by decide) ?_
        refine w_iconst S dX2_settledAsSignal_72 (by decide) (fun k35 hk35 => ?_)
        exact w_zret S hr0 hlk hP hS dX2_settledAsSignal_73 (z01 (by omega) (by omega)) (⟨hI31, hT34, by omega⟩)
    · refine lv_aload_n S.1 S.2.1 dX2_settledAsSignal_21 rfl (lv_at hl 0 rfl) ?_
      refine w_iconst S dX2_settledAsSignal_22 (by decide) (fun k36 hk36 => ?_)
      refine lv_iload_n S.1 S.2.1 dX2_settledAsSignal_23 rfl (lv_at hl 1 rfl) ?_
      refine w_cVv (As := [.int k36, .int b]) (rest := []) S hK hN hP hS hl (5 + 21 * i) (by have := h4; omega) ((ceP0 h4) _) rfl (c_X2_signal l D g hg x hI i h4 k36 b) (cwV 2 hts gX2_settledAsSignal_X2_signal rfl rfl rfl (by decide +kernel) ⟨Nat.le_of_ble_eq_true rfl, Nat.le_of_ble_eq_true rfl⟩) rfl rfl (Nat.le_of_ble_eq_true rfl) dX2_settledAsSignal_24 ⟨Nat.zero_le _, Nat.zero_le _⟩ (fun x37 H locs hq39 hP hS => ?_)
      obtain ⟨hI40, hT41, hf42⟩ := hq39
      have hT43 : Same (TC) x x37 := hT.tr hT41 (fun _ _ h => h)
      refine lv_goto (tgt := 72) S.1 S.2.1 dX2_settledAsSignal_27 (by decide) ?_
      refine w_iconst S dX2_settledAsSignal_72 (by decide) (fun k44 hk44 => ?_)
      exact w_zret S hr0 hlk hP hS dX2_settledAsSignal_73 (z01 (by omega) (by omega)) (⟨hI40, hT43, by omega⟩)
  · refine w_iconst S dX2_settledAsSignal_8 (by decide) (fun k45 hk45 => ?_)
    exact w_zret S hr0 hlk hP hS dX2_settledAsSignal_9 (z01 (by omega) (by omega)) (⟨hI, hT, by omega⟩)
set_option maxRecDepth 100000 in
set_option maxHeartbeats 4000000 in
theorem c_X2_takeAway (l : Launch) (D : va_G) (g : GA) (hg : Inj g) (x : St) (hI : Inv x) (i : Nat) (h4 : i < 4) (k : Int32) : Met l yX2_takeAway wsX2_takeAway ({ frames := 3, cells := 0, slots := 0, locals := 65 } : Room) (va_Pc [.ref (g.1 (5 + 21 * i)), .int k] (WI D g x)) (va_Qv (fun x2 => Inv x2 ∧ Same TC x x2 ∧ True) (WO D g) (AQ g)) 0 0 (AQ g) := by
  refine w_met (cc := cX2_takeAway) (maxL := 5) (ret := none) (own := RX2) (by decide) rfl rfl (Nat.le_of_ble_eq_true rfl) (fun p e s m below meth co S hr0 hlk hK hN hP hS ls hl => ?_)
  have hts := S.2.2.2.2
  have hl : lv_has ls 5 [(0, .ref (g.1 (5 + 21 * i))), (1, .int k)] := hl
  have hT : Same (TC) x x := Same.rf
  have J2 : ∀ (n0 : Nat) (x_2 : St) (H : Heap) (locs : List Loc) (ls : Array Slot) (y2_2 : Int32), Inv x_2 → Same (TC) x x_2 → (0 ≤ y2_2.toInt) → (k.toInt - y2_2.toInt).toNat < n0 → va_P D vwCl (WL g x_2) H → va_S (AQ g) s.heap H locs → lv_has ls 5 [(0, .ref (g.1 (5 + 21 * i))), (1, .int k), (2, .int y2_2)] → W p l e ({ frames := 3, cells := 0, slots := 0, locals := 65 } : Room) s m ([.ref (g.1 (5 + 21 * i)), .int k] : List Value).toArray below meth co H locs 0 0 (MQ below (va_Qv (fun x2 => Inv x2 ∧ Same TC x x2 ∧ True) (WO D g) (AQ g)) ([.ref (g.1 (5 + 21 * i)), .int k] : List Value).toArray s 0 0 (AQ g)) (F0 m 2 ls []) := by
    intro n0
    induction n0 with
    | zero => intro x_2 H locs ls y2_2 hI_2 hT_2 hf2_0 hm_2 hP hS hl; exact absurd hm_2 (Nat.not_lt_zero _)
    | succ n0 ih2 =>
      intro x_2 H locs ls y2_2 hI_2 hT_2 hf2_0 hm_2 hP hS hl
      have hb_ := i_le k
      have J39 : ∀ (n0 : Nat) (x_39 : St) (H : Heap) (locs : List Loc) (ls : Array Slot) (y39_3 : Int32) (y39_4 : Int32), Inv x_39 → Same (TC) x x_39 → (0 ≤ y39_4.toInt) → (y2_2.toInt < k.toInt) → (y39_3.toInt - y39_4.toInt).toNat < n0 → va_P D vwCl (WL g x_39) H → va_S (AQ g) s.heap H locs → lv_has ls 5 [(0, .ref (g.1 (5 + 21 * i))), (1, .int k), (2, .int y2_2), (3, .int y39_3), (4, .int y39_4)] → W p l e ({ frames := 3, cells := 0, slots := 0, locals := 65 } : Room) s m ([.ref (g.1 (5 + 21 * i)), .int k] : List Value).toArray below meth co H locs 0 0 (MQ below (va_Qv (fun x2 => Inv x2 ∧ Same TC x x2 ∧ True) (WO D g) (AQ g)) ([.ref (g.1 (5 + 21 * i)), .int k] : List Value).toArray s 0 0 (AQ g)) (F0 m 39 ls []) := by
        intro n0
        induction n0 with
        | zero => intro x_39 H locs ls y39_3 y39_4 hI_39 hT_39 hf39_0 hf39_1 hm_39 hP hS hl; exact absurd hm_39 (Nat.not_lt_zero _)
        | succ n0 ih39 =>
          intro x_39 H locs ls y39_3 y39_4 hI_39 hT_39 hf39_0 hf39_1 hm_39 hP hS hl
          have hc_ := i_le y39_3
          refine lv_iload S.1 S.2.1 dX2_takeAway_39 (lv_at hl 4 rfl) ?_
          refine lv_iload_n S.1 S.2.1 dX2_takeAway_41 rfl (lv_at hl 3 rfl) ?_
          refine w_icmp_ge (tgt := 78) S dX2_takeAway_42 (by decide) (fun hb1 => ?_) (fun hb1 => ?_)
          · refine lv_aload_n S.1 S.2.1 dX2_takeAway_78 rfl (lv_at hl 0 rfl) ?_
            refine w_cVv (As := []) (rest := []) S hK hN hP hS hl (5 + 21 * i) (by have := h4; omega) ((ceP0 h4) _) rfl (c_X2_echo l D g hg x_39 hI_39 i h4) (cwV 0 hts gX2_takeAway_X2_echo rfl rfl rfl (by decide +kernel) ⟨Nat.le_of_ble_eq_true rfl, Nat.le_of_ble_eq_true rfl⟩) rfl rfl (Nat.le_of_ble_eq_true rfl) dX2_takeAway_79 ⟨Nat.zero_le _, Nat.zero_le _⟩ (fun x2 H locs hq4 hP hS => ?_)
            obtain ⟨hI5, hT6, hf7⟩ := hq4
            have hT8 : Same (TC) x x2 := hT_39.tr hT6 (fun _ _ h => h)
            refine w_iinc (lv' := [(0, .ref (g.1 (5 + 21 * i))), (1, .int k), (3, .int y39_3), (4, .int y39_4)]) S dX2_takeAway_82 hl (k := 2) rfl (by decide) (by decide) (by omega) (by omega) (fun _ => rfl) (fun v9 ls hv9 hl => ?_)
            refine lv_goto (tgt := 2) S.1 S.2.1 dX2_takeAway_85 (by decide) ?_
            exact ih2 _ _ _ _ v9 hI5 hT8 (by omega) (by omega) hP hS (lv_sub hl [1, 2, 0] rfl)
          · refine lv_aload_n S.1 S.2.1 dX2_takeAway_45 rfl (lv_at hl 0 rfl) ?_
            refine w_get (C := RX2) (T := TX2) (N := 15) S (fun _ h => List.mem_cons_of_mem _ (List.mem_append_left _ (List.mem_append_left _ (List.mem_append_left _ (List.mem_append_right _ h))))) hK hP (5 + 21 * i) (by have := h4; omega) ((ceP0 h4) _) rfl 6 (by decide) (hts _ (List.mem_of_getElem? (i := 1) rfl)) (v := .ref (g.1 (5 + 21 * i + 17))) rfl dX2_takeAway_46 ?_
            refine w_bipush S dX2_takeAway_49 (by decide) (fun k10 hk10 => ?_)
            refine w_cVv (As := [.int k10]) (rest := []) S hK hN hP hS hl (5 + 21 * i + 17) (by have := h4; omega) ((ceP17 h4) _) rfl (c_X3_add l D g hg x_39 hI_39 (5 + 21 * i + 17) 134 (isRow17 h4) k10) (cwV 1 hts gX2_takeAway_X3_add rfl rfl rfl (by decide +kernel) ⟨Nat.le_of_ble_eq_true rfl, Nat.le_of_ble_eq_true rfl⟩) rfl rfl (Nat.le_of_ble_eq_true rfl) dX2_takeAway_51 ⟨Nat.zero_le _, Nat.zero_le _⟩ (fun x11 H locs hq13 hP hS => ?_)
            obtain ⟨hI14, hT15, hf16⟩ := hq13
            have hT17 : Same (TC) x x11 := hT_39.tr hT15 (fun c0 k0 h => by unfold TC TrC at h; unfold TR; omega)
            refine lv_aload_n S.1 S.2.1 dX2_takeAway_54 rfl (lv_at hl 0 rfl) ?_
            refine w_get (C := RX2) (T := TX2) (N := 15) S (fun _ h => List.mem_cons_of_mem _ (List.mem_append_left _ (List.mem_append_left _ (List.mem_append_left _ (List.mem_append_right _ h))))) hK hP (5 + 21 * i) (by have := h4; omega) ((ceP0 h4) _) rfl 6 (by decide) (hts _ (List.mem_of_getElem? (i := 1) rfl)) (v := .ref (g.1 (5 + 21 * i + 17))) rfl dX2_takeAway_55 ?_
            refine w_bipush S dX2_takeAway_58 (by decide) (fun k18 hk18 => ?_)
            refine w_cVv (As := [.int k18]) (rest := []) S hK hN hP hS hl (5 + 21 * i + 17) (by have := h4; omega) ((ceP17 h4) _) rfl (c_X3_add l D g hg x11 hI14 (5 + 21 * i + 17) 134 (isRow17 h4) k18) (cwV 1 hts gX2_takeAway_X3_add rfl rfl rfl (by decide +kernel) ⟨Nat.le_of_ble_eq_true rfl, Nat.le_of_ble_eq_true rfl⟩) rfl rfl (Nat.le_of_ble_eq_true rfl) dX2_takeAway_60 ⟨Nat.zero_le _, Nat.zero_le _⟩ (fun x19 H locs hq21 hP hS => ?_)
            obtain ⟨hI22, hT23, hf24⟩ := hq21
            have hT25 : Same (TC) x x19 := hT17.tr hT23 (fun c0 k0 h => by unfold TC TrC at h; unfold TR; omega)
            refine lv_aload_n S.1 S.2.1 dX2_takeAway_63 rfl (lv_at hl 0 rfl) ?_
            refine w_get (C := RX2) (T := TX2) (N := 15) S (fun _ h => List.mem_cons_of_mem _ (List.mem_append_left _ (List.mem_append_left _ (List.mem_append_left _ (List.mem_append_right _ h))))) hK hP (5 + 21 * i) (by have := h4; omega) ((ceP0 h4) _) rfl 6 (by decide) (hts _ (List.mem_of_getElem? (i := 1) rfl)) (v := .ref (g.1 (5 + 21 * i + 17))) rfl dX2_takeAway_64 ?_
            refine w_bipush S dX2_takeAway_67 (by decide) (fun k26 hk26 => ?_)
            refine w_cVv (As := [.int k26]) (rest := []) S hK hN hP hS hl (5 + 21 * i + 17) (by have := h4; omega) ((ceP17 h4) _) rfl (c_X3_add l D g hg x19 hI22 (5 + 21 * i + 17) 134 (isRow17 h4) k26) (cwV 1 hts gX2_takeAway_X3_add rfl rfl rfl (by decide +kernel) ⟨Nat.le_of_ble_eq_true rfl, Nat.le_of_ble_eq_true rfl⟩) rfl rfl (Nat.le_of_ble_eq_true rfl) dX2_takeAway_69 ⟨Nat.zero_le _, Nat.zero_le _⟩ (fun x27 H locs hq29 hP hS => ?_)
            obtain ⟨hI30, hT31, hf32⟩ := hq29
            have hT33 : Same (TC) x x27 := hT25.tr hT31 (fun c0 k0 h => by unfold TC TrC at h; unfold TR; omega)
            refine w_iinc (lv' := [(0, .ref (g.1 (5 + 21 * i))), (1, .int k), (2, .int y2_2), (3, .int y39_3)]) S dX2_takeAway_72 hl (k := 4) rfl (by decide) (by decide) (by omega) (by omega) (fun _ => rfl) (fun v34 ls hv34 hl => ?_)
            refine lv_goto (tgt := 39) S.1 S.2.1 dX2_takeAway_75 (by decide) ?_
            exact ih39 _ _ _ _ y39_3 v34 hI30 hT33 (by omega) (by omega) (by omega) hP hS (lv_sub hl [1, 2, 3, 4, 0] rfl)
      refine lv_iload_n S.1 S.2.1 dX2_takeAway_2 rfl (lv_at hl 2 rfl) ?_
      refine lv_iload_n S.1 S.2.1 dX2_takeAway_3 rfl (lv_at hl 1 rfl) ?_
      refine w_icmp_ge (tgt := 88) S dX2_takeAway_4 (by decide) (fun hb35 => ?_) (fun hb35 => ?_)
      · refine lv_aload_n S.1 S.2.1 dX2_takeAway_88 rfl (lv_at hl 0 rfl) ?_
        refine w_cVv (As := []) (rest := []) S hK hN hP hS hl (5 + 21 * i) (by have := h4; omega) ((ceP0 h4) _) rfl (c_X2_relax l D g hg x_2 hI_2 i h4) (cwV 0 hts gX2_takeAway_X2_relax rfl rfl rfl (by decide +kernel) ⟨Nat.le_of_ble_eq_true rfl, Nat.le_of_ble_eq_true rfl⟩) rfl rfl (Nat.le_of_ble_eq_true rfl) dX2_takeAway_89 ⟨Nat.zero_le _, Nat.zero_le _⟩ (fun x36 H locs hq38 hP hS => ?_)
        obtain ⟨hI39, hT40, hf41⟩ := hq38
        have hT42 : Same (TC) x x36 := hT_2.tr hT40 (fun _ _ h => h)
        exact w_vret S hr0 hlk hP hS dX2_takeAway_92 (⟨hI39, hT42, trivial⟩)
      · refine lv_aload_n S.1 S.2.1 dX2_takeAway_7 rfl (lv_at hl 0 rfl) ?_
        refine w_get (C := RX2) (T := TX2) (N := 15) S (fun _ h => List.mem_cons_of_mem _ (List.mem_append_left _ (List.mem_append_left _ (List.mem_append_left _ (List.mem_append_right _ h))))) hK hP (5 + 21 * i) (by have := h4; omega) ((ceP0 h4) _) rfl 6 (by decide) (hts _ (List.mem_of_getElem? (i := 1) rfl)) (v := .ref (g.1 (5 + 21 * i + 17))) rfl dX2_takeAway_8 ?_
        refine w_cVv (As := []) (rest := []) S hK hN hP hS hl (5 + 21 * i + 17) (by have := h4; omega) ((ceP17 h4) _) rfl (c_X3_empty l D g hg x_2 hI_2 (5 + 21 * i + 17) 134 (isRow17 h4)) (cwV 0 hts gX2_takeAway_X3_empty rfl rfl rfl (by decide +kernel) ⟨Nat.le_of_ble_eq_true rfl, Nat.le_of_ble_eq_true rfl⟩) rfl rfl (Nat.le_of_ble_eq_true rfl) dX2_takeAway_11 ⟨Nat.zero_le _, Nat.zero_le _⟩ (fun x43 H locs hq45 hP hS => ?_)
        obtain ⟨hI46, hT47, hf48⟩ := hq45
        have hT49 : Same (TC) x x43 := hT_2.tr hT47 (fun c0 k0 h => by unfold TC TrC at h; unfold TR; omega)
        refine lv_aload_n S.1 S.2.1 dX2_takeAway_14 rfl (lv_at hl 0 rfl) ?_
        refine w_get (C := RX2) (T := TX2) (N := 15) S (fun _ h => List.mem_cons_of_mem _ (List.mem_append_left _ (List.mem_append_left _ (List.mem_append_left _ (List.mem_append_right _ h))))) hK hP (5 + 21 * i) (by have := h4; omega) ((ceP0 h4) _) rfl 3 (by decide) (hts _ (List.mem_of_getElem? (i := 2) rfl)) (v := .ref (g.1 (5 + 21 * i + 4))) rfl dX2_takeAway_15 ?_
        refine w_getN (C := RX4) (T := TX4) (N := 3) S (fun _ h => List.mem_cons_of_mem _ (List.mem_append_left _ (List.mem_append_left _ (List.mem_append_right _ h)))) hK hP (5 + 21 * i + 4) (by have := h4; omega) ((ceP4 h4) _) rfl 0 (by decide) (hN.1 _ (List.mem_of_getElem? (i := 7) rfl)) (v := .ref (g.1 (5 + 21 * i + 5))) rfl dX2_takeAway_18 ?_
        refine w_cVi (As := []) (rest := []) S hK hN hP hS hl (5 + 21 * i + 5) (by have := h4; omega) ((ceP5 h4) _) rfl (c_X3_takeLast l D g hg x43 hI46 (5 + 21 * i + 5) 65 (isRow5 h4)) (cwV 0 hts gX2_takeAway_X3_takeLast rfl rfl rfl (by decide +kernel) ⟨Nat.le_of_ble_eq_true rfl, Nat.le_of_ble_eq_true rfl⟩) rfl rfl (Nat.le_of_ble_eq_true rfl) dX2_takeAway_21 ⟨Nat.zero_le _, Nat.zero_le _⟩ (fun r51 x50 H locs hq52 hP hS => ?_)
        obtain ⟨hI53, hT54, hf55⟩ := hq52
        have hT56 : Same (TC) x x50 := hT49.tr hT54 (fun c0 k0 h => by unfold TC TrC at h; unfold TR; omega)
        refine w_cSi (As := [.int r51]) (rest := []) S hK hN hP hS hl (c_X2_isPlain l D g hg x50 hI53 r51) (va_cwS 1 hts gX2_takeAway_X2_isPlain rfl rfl rfl (by decide +kernel) ⟨Nat.le_of_ble_eq_true rfl, Nat.le_of_ble_eq_true rfl⟩) rfl rfl (Nat.le_of_ble_eq_true rfl) dX2_takeAway_24 ⟨Nat.zero_le _, Nat.zero_le _⟩ (fun r58 x57 H locs hq59 hP hS => ?_)
        obtain ⟨ex60, hf61⟩ := hq59
        rw [ex60] at hP
        refine w_if_eq (tgt := 34) S dX2_takeAway_27 (by decide) (fun hb62 => ?_) (fun hb62 => ?_)
        · refine w_iconst S dX2_takeAway_34 (by decide) (fun k63 hk63 => ?_)
          refine lv_istore_n (lv' := [(3, .int k63), (0, .ref (g.1 (5 + 21 * i))), (1, .int k), (2, .int y2_2)]) S.1 S.2.1 dX2_takeAway_35 rfl hl (by decide) rfl (fun ls hl => ?_)
          refine w_iconst S dX2_takeAway_36 (by decide) (fun k64 hk64 => ?_)
          refine lv_istore (lv' := [(4, .int k64), (3, .int k63), (0, .ref (g.1 (5 + 21 * i))), (1, .int k), (2, .int y2_2)]) S.1 S.2.1 dX2_takeAway_37 hl (by decide) rfl (fun ls hl => ?_)
          exact J39 _ _ _ _ _ k63 k64 hI53 hT56 (by omega) (by omega) (Nat.lt_succ_self _) hP hS (lv_sub hl [2, 3, 4, 1, 0] rfl)
        · refine w_iconst S dX2_takeAway_30 (by decide) (fun k65 hk65 => ?_)
          refine lv_goto (tgt := 35) S.1 S.2.1 dX2_takeAway_31 (by decide) ?_
          refine lv_istore_n (lv' := [(3, .int k65), (0, .ref (g.1 (5 + 21 * i))), (1, .int k), (2, .int y2_2)]) S.1 S.2.1 dX2_takeAway_35 rfl hl (by decide) rfl (fun ls hl => ?_)
          refine w_iconst S dX2_takeAway_36 (by decide) (fun k66 hk66 => ?_)
          refine lv_istore (lv' := [(4, .int k66), (3, .int k65), (0, .ref (g.1 (5 + 21 * i))), (1, .int k), (2, .int y2_2)]) S.1 S.2.1 dX2_takeAway_37 hl (by decide) rfl (fun ls hl => ?_)
          exact J39 _ _ _ _ _ k65 k66 hI53 hT56 (by omega) (by omega) (Nat.lt_succ_self _) hP hS (lv_sub hl [2, 3, 4, 1, 0] rfl)
  refine w_iconst S dX2_takeAway_0 (by decide) (fun k67 hk67 => ?_)
  refine lv_istore_n (lv' := [(2, .int k67), (0, .ref (g.1 (5 + 21 * i))), (1, .int k)]) S.1 S.2.1 dX2_takeAway_1 rfl hl (by decide) rfl (fun ls hl => ?_)
  exact J2 _ _ _ _ _ k67 hI hT (by omega) (Nat.lt_succ_self _) hP hS (lv_sub hl [1, 2, 0] rfl)
set_option maxRecDepth 100000 in
set_option maxHeartbeats 4000000 in
theorem c_X2_reprint (l : Launch) (D : va_G) (g : GA) (hg : Inj g) (x : St) (hI : Inv x) (i : Nat) (h4 : i < 4) (b : Int32) : Met l yX2_reprint wsX2_reprint ({ frames := 3, cells := 0, slots := 0, locals := 65 } : Room) (va_Pc [.ref (g.1 (5 + 21 * i)), .int b] (WI D g x)) (va_Qv (fun x2 => Inv x2 ∧ Same TC x x2 ∧ True) (WO D g) (AQ g)) 0 0 (AQ g) := by
  refine w_met (cc := cX2_reprint) (maxL := 3) (ret := none) (own := RX2) (by decide) rfl rfl (Nat.le_of_ble_eq_true rfl) (fun p e s m below meth co S hr0 hlk hK hN hP hS ls hl => ?_)
  have hts := S.2.2.2.2
  have hl : lv_has ls 3 [(0, .ref (g.1 (5 + 21 * i))), (1, .int b)] := hl
  have hT : Same (TC) x x := Same.rf
  have J31 : ∀ (n0 : Nat) (x_31 : St) (H : Heap) (locs : List Loc) (ls : Array Slot) (y31_2 : Int32), Inv x_31 → Same (TC) x x_31 → (65 - y31_2.toInt).toNat < n0 → va_P D vwCl (WL g x_31) H → va_S (AQ g) s.heap H locs → lv_has ls 3 [(0, .ref (g.1 (5 + 21 * i))), (1, .int b), (2, .int y31_2)] → W p l e ({ frames := 3, cells := 0, slots := 0, locals := 65 } : Room) s m ([.ref (g.1 (5 + 21 * i)), .int b] : List Value).toArray below meth co H locs 0 0 (MQ below (va_Qv (fun x2 => Inv x2 ∧ Same TC x x2 ∧ True) (WO D g) (AQ g)) ([.ref (g.1 (5 + 21 * i)), .int b] : List Value).toArray s 0 0 (AQ g)) (F0 m 31 ls []) := by
    intro n0
    induction n0 with
    | zero => intro x_31 H locs ls y31_2 hI_31 hT_31 hm_31 hP hS hl; exact absurd hm_31 (Nat.not_lt_zero _)
    | succ n0 ih31 =>
      intro x_31 H locs ls y31_2 hI_31 hT_31 hm_31 hP hS hl
      have hb_ := i_ge y31_2
      refine lv_iload_n S.1 S.2.1 dX2_reprint_31 rfl (lv_at hl 2 rfl) ?_
      refine lv_aload_n S.1 S.2.1 dX2_reprint_32 rfl (lv_at hl 0 rfl) ?_
      refine w_get (C := RX2) (T := TX2) (N := 15) S (fun _ h => List.mem_cons_of_mem _ (List.mem_append_left _ (List.mem_append_left _ (List.mem_append_left _ (List.mem_append_right _ h))))) hK hP (5 + 21 * i) (by have := h4; omega) ((ceP0 h4) _) rfl 3 (by decide) (hts _ (List.mem_of_getElem? (i := 2) rfl)) (v := .ref (g.1 (5 + 21 * i + 4))) rfl dX2_reprint_33 ?_
      refine w_getN (C := RX4) (T := TX4) (N := 3) S (fun _ h => List.mem_cons_of_mem _ (List.mem_append_left _ (List.mem_append_left _ (List.mem_append_right _ h)))) hK hP (5 + 21 * i + 4) (by have := h4; omega) ((ceP4 h4) _) rfl 0 (by decide) (hN.1 _ (List.mem_of_getElem? (i := 7) rfl)) (v := .ref (g.1 (5 + 21 * i + 5))) rfl dX2_reprint_36 ?_
      refine w_getN (C := RX3) (T := TX3) (N := 3) S (fun _ h => List.mem_cons_of_mem _ (List.mem_append_left _ (List.mem_append_right _ h))) hK hP (5 + 21 * i + 5) (by have := h4; omega) ((ceP5 h4) _) rfl 2 (by decide) (hN.1 _ (List.mem_of_getElem? (i := 6) rfl)) (v := .int (x_31 (5 + 21 * i + 5) 2)) rfl dX2_reprint_39 ?_
      refine lv_topi (fun v1 ev1 => ?_)
      have wv1 : v1.toInt = (x_31 (5 + 21 * i + 5) 2).toInt := by rw [ev1]
      have rv1 : (0 : Int) ≤ v1.toInt ∧ v1.toInt ≤ (65 : Int) := by rw [ev1]; exact hI_31.atP (j := 5) (k := 2) h4 (by decide)
      refine w_icmp_ge (tgt := 66) S dX2_reprint_42 (by decide) (fun hb2 => ?_) (fun hb2 => ?_)
      · refine lv_aload_n S.1 S.2.1 dX2_reprint_66 rfl (lv_at hl 0 rfl) ?_
        refine w_cVv (As := []) (rest := []) S hK hN hP hS hl (5 + 21 * i) (by have := h4; omega) ((ceP0 h4) _) rfl (c_X2_echo l D g hg x_31 hI_31 i h4) (cwV 0 hts gX2_reprint_X2_echo rfl rfl rfl (by decide +kernel) ⟨Nat.le_of_ble_eq_true rfl, Nat.le_of_ble_eq_true rfl⟩) rfl rfl (Nat.le_of_ble_eq_true rfl) dX2_reprint_67 ⟨Nat.zero_le _, Nat.zero_le _⟩ (fun x3 H locs hq5 hP hS => ?_)
        obtain ⟨hI6, hT7, hf8⟩ := hq5
        have hT9 : Same (TC) x x3 := hT_31.tr hT7 (fun _ _ h => h)
        exact w_vret S hr0 hlk hP hS dX2_reprint_70 (⟨hI6, hT9, trivial⟩)
      · refine lv_aload_n S.1 S.2.1 dX2_reprint_45 rfl (lv_at hl 0 rfl) ?_
        refine lv_aload_n S.1 S.2.1 dX2_reprint_46 rfl (lv_at hl 0 rfl) ?_
        refine w_get (C := RX2) (T := TX2) (N := 15) S (fun _ h => List.mem_cons_of_mem _ (List.mem_append_left _ (List.mem_append_left _ (List.mem_append_left _ (List.mem_append_right _ h))))) hK hP (5 + 21 * i) (by have := h4; omega) ((ceP0 h4) _) rfl 3 (by decide) (hts _ (List.mem_of_getElem? (i := 2) rfl)) (v := .ref (g.1 (5 + 21 * i + 4))) rfl dX2_reprint_47 ?_
        refine w_getN (C := RX4) (T := TX4) (N := 3) S (fun _ h => List.mem_cons_of_mem _ (List.mem_append_left _ (List.mem_append_left _ (List.mem_append_right _ h)))) hK hP (5 + 21 * i + 4) (by have := h4; omega) ((ceP4 h4) _) rfl 0 (by decide) (hN.1 _ (List.mem_of_getElem? (i := 7) rfl)) (v := .ref (g.1 (5 + 21 * i + 5))) rfl dX2_reprint_50 ?_
        refine lv_iload_n S.1 S.2.1 dX2_reprint_53 rfl (lv_at hl 2 rfl) ?_
        refine w_cVi (As := [.int y31_2]) (rest := [.ref (g.1 (5 + 21 * i))]) S hK hN hP hS hl (5 + 21 * i + 5) (by have := h4; omega) ((ceP5 h4) _) rfl (c_X3_at l D g hg x_31 hI_31 (5 + 21 * i + 5) 65 (isRow5 h4) y31_2) (cwV 1 hts gX2_reprint_X3_at rfl rfl rfl (by decide +kernel) ⟨Nat.le_of_ble_eq_true rfl, Nat.le_of_ble_eq_true rfl⟩) rfl rfl (Nat.le_of_ble_eq_true rfl) dX2_reprint_54 ⟨Nat.zero_le _, Nat.zero_le _⟩ (fun r11 x10 H locs hq12 hP hS => ?_)
        obtain ⟨ex13, hf14⟩ := hq12
        rw [ex13] at hP
        refine w_cVv (As := [.int r11]) (rest := []) S hK hN hP hS hl (5 + 21 * i) (by have := h4; omega) ((ceP0 h4) _) rfl (c_X2_addForm l D g hg x_31 hI_31 i h4 r11) (cwV 1 hts gX2_reprint_X2_addForm rfl rfl rfl (by decide +kernel) ⟨Nat.le_of_ble_eq_true rfl, Nat.le_of_ble_eq_true rfl⟩) rfl rfl (Nat.le_of_ble_eq_true rfl) dX2_reprint_57 ⟨Nat.zero_le _, Nat.zero_le _⟩ (fun x15 H locs hq17 hP hS => ?_)
        obtain ⟨hI18, hT19, hf20⟩ := hq17
        have hT21 : Same (TC) x x15 := hT_31.tr hT19 (fun _ _ h => h)
        refine w_iinc (lv' := [(0, .ref (g.1 (5 + 21 * i))), (1, .int b)]) S dX2_reprint_60 hl (k := 2) rfl (by decide) (by decide) (by omega) (by omega) (fun _ => rfl) (fun v22 ls hv22 hl => ?_)
        refine lv_goto (tgt := 31) S.1 S.2.1 dX2_reprint_63 (by decide) ?_
        exact ih31 _ _ _ _ v22 hI18 hT21 (by omega) hP hS (lv_sub hl [1, 2, 0] rfl)
  refine lv_aload_n S.1 S.2.1 dX2_reprint_0 rfl (lv_at hl 0 rfl) ?_
  refine lv_iload_n S.1 S.2.1 dX2_reprint_1 rfl (lv_at hl 1 rfl) ?_
  refine w_cVv (As := [.int b]) (rest := []) S hK hN hP hS hl (5 + 21 * i) (by have := h4; omega) ((ceP0 h4) _) rfl (c_X2_draftForm l D g hg x hI i h4 b) (cwV 1 hts gX2_reprint_X2_draftForm rfl rfl rfl (by decide +kernel) ⟨Nat.le_of_ble_eq_true rfl, Nat.le_of_ble_eq_true rfl⟩) rfl rfl (Nat.le_of_ble_eq_true rfl) dX2_reprint_2 ⟨Nat.zero_le _, Nat.zero_le _⟩ (fun x23 H locs hq25 hP hS => ?_)
  obtain ⟨hI26, hT27, hf28⟩ := hq25
  have hT29 : Same (TC) x x23 := hT.tr hT27 (fun _ _ h => h)
  refine lv_aload_n S.1 S.2.1 dX2_reprint_5 rfl (lv_at hl 0 rfl) ?_
  refine w_get (C := RX2) (T := TX2) (N := 15) S (fun _ h => List.mem_cons_of_mem _ (List.mem_append_left _ (List.mem_append_left _ (List.mem_append_left _ (List.mem_append_right _ h))))) hK hP (5 + 21 * i) (by have := h4; omega) ((ceP0 h4) _) rfl 6 (by decide) (hts _ (List.mem_of_getElem? (i := 1) rfl)) (v := .ref (g.1 (5 + 21 * i + 17))) rfl dX2_reprint_6 ?_
  refine w_bipush S dX2_reprint_9 (by decide) (fun k30 hk30 => ?_)
  refine w_cVv (As := [.int k30]) (rest := []) S hK hN hP hS hl (5 + 21 * i + 17) (by have := h4; omega) ((ceP17 h4) _) rfl (c_X3_add l D g hg x23 hI26 (5 + 21 * i + 17) 134 (isRow17 h4) k30) (cwV 1 hts gX2_reprint_X3_add rfl rfl rfl (by decide +kernel) ⟨Nat.le_of_ble_eq_true rfl, Nat.le_of_ble_eq_true rfl⟩) rfl rfl (Nat.le_of_ble_eq_true rfl) dX2_reprint_11 ⟨Nat.zero_le _, Nat.zero_le _⟩ (fun x31 H locs hq33 hP hS => ?_)
  obtain ⟨hI34, hT35, hf36⟩ := hq33
  have hT37 : Same (TC) x x31 := hT29.tr hT35 (fun c0 k0 h => by unfold TC TrC at h; unfold TR; omega)
  refine lv_aload_n S.1 S.2.1 dX2_reprint_14 rfl (lv_at hl 0 rfl) ?_
  refine w_get (C := RX2) (T := TX2) (N := 15) S (fun _ h => List.mem_cons_of_mem _ (List.mem_append_left _ (List.mem_append_left _ (List.mem_append_left _ (List.mem_append_right _ h))))) hK hP (5 + 21 * i) (by have := h4; omega) ((ceP0 h4) _) rfl 6 (by decide) (hts _ (List.mem_of_getElem? (i := 1) rfl)) (v := .ref (g.1 (5 + 21 * i + 17))) rfl dX2_reprint_15 ?_
  refine w_bipush S dX2_reprint_18 (by decide) (fun k38 hk38 => ?_)
  refine w_cVv (As := [.int k38]) (rest := []) S hK hN hP hS hl (5 + 21 * i + 17) (by have := h4; omega) ((ceP17 h4) _) rfl (c_X3_add l D g hg x31 hI34 (5 + 21 * i + 17) 134 (isRow17 h4) k38) (cwV 1 hts gX2_reprint_X3_add rfl rfl rfl (by decide +kernel) ⟨Nat.le_of_ble_eq_true rfl, Nat.le_of_ble_eq_true rfl⟩) rfl rfl (Nat.le_of_ble_eq_true rfl) dX2_reprint_20 ⟨Nat.zero_le _, Nat.zero_le _⟩ (fun x39 H locs hq41 hP hS => ?_)
  obtain ⟨hI42, hT43, hf44⟩ := hq41
  have hT45 : Same (TC) x x39 := hT37.tr hT43 (fun c0 k0 h => by unfold TC TrC at h; unfold TR; omega)
  refine lv_aload_n S.1 S.2.1 dX2_reprint_23 rfl (lv_at hl 0 rfl) ?_
  refine w_get (C := RX2) (T := TX2) (N := 15) S (fun _ h => List.mem_cons_of_mem _ (List.mem_append_left _ (List.mem_append_left _ (List.mem_append_left _ (List.mem_append_right _ h))))) hK hP (5 + 21 * i) (by have := h4; omega) ((ceP0 h4) _) rfl 3 (by decide) (hts _ (List.mem_of_getElem? (i := 2) rfl)) (v := .ref (g.1 (5 + 21 * i + 4))) rfl dX2_reprint_24 ?_
  refine w_getN (C := RX4) (T := TX4) (N := 3) S (fun _ h => List.mem_cons_of_mem _ (List.mem_append_left _ (List.mem_append_left _ (List.mem_append_right _ h)))) hK hP (5 + 21 * i + 4) (by have := h4; omega) ((ceP4 h4) _) rfl 1 (by decide) (hN.1 _ (List.mem_of_getElem? (i := 8) rfl)) (v := .int (x39 (5 + 21 * i + 4) 1)) rfl dX2_reprint_27 ?_
  refine lv_topi (fun v46 ev46 => ?_)
  have wv46 : v46.toInt = (x39 (5 + 21 * i + 4) 1).toInt := by rw [ev46]
  refine lv_istore_n (lv' := [(2, .int v46), (0, .ref (g.1 (5 + 21 * i))), (1, .int b)]) S.1 S.2.1 dX2_reprint_30 rfl hl (by decide) rfl (fun ls hl => ?_)
  exact J31 _ _ _ _ _ v46 hI42 hT45 (Nat.lt_succ_self _) hP hS (lv_sub hl [1, 2, 0] rfl)
set_option maxRecDepth 100000 in
set_option maxHeartbeats 4000000 in
theorem c_X2_edit (l : Launch) (D : va_G) (g : GA) (hg : Inj g) (x : St) (hI : Inv x) (i : Nat) (h4 : i < 4) (b : Int32) : Met l yX2_edit wsX2_edit ({ frames := 4, cells := 0, slots := 0, locals := 89 } : Room) (va_Pc [.ref (g.1 (5 + 21 * i)), .int b] (WI D g x)) (va_Qv (fun x2 => Inv x2 ∧ Same TC x x2 ∧ True) (WO D g) (AQ g)) 0 0 (AQ g) := by
  refine w_met (cc := cX2_edit) (maxL := 2) (ret := none) (own := RX2) (by decide) rfl rfl (Nat.le_of_ble_eq_true rfl) (fun p e s m below meth co S hr0 hlk hK hN hP hS ls hl => ?_)
  have hts := S.2.2.2.2
  have hl : lv_has ls 2 [(0, .ref (g.1 (5 + 21 * i))), (1, .int b)] := hl
  have hT : Same (TC) x x := Same.rf
  refine lv_aload_n S.1 S.2.1 dX2_edit_0 rfl (lv_at hl 0 rfl) ?_
  refine w_iconst S dX2_edit_1 (by decide) (fun k1 hk1 => ?_)
  refine w_cVi (As := [.int k1]) (rest := []) S hK hN hP hS hl (5 + 21 * i) (by have := h4; omega) ((ceP0 h4) _) rfl (c_X2_isOn l D g hg x hI i h4 k1 (by omega)) (cwV 1 hts gX2_edit_X2_isOn rfl rfl rfl (by decide +kernel) ⟨Nat.le_of_ble_eq_true rfl, Nat.le_of_ble_eq_true rfl⟩) rfl rfl (Nat.le_of_ble_eq_true rfl) dX2_edit_2 ⟨Nat.zero_le _, Nat.zero_le _⟩ (fun r3 x2 H locs hq4 hP hS => ?_)
  obtain ⟨ex5, hf6⟩ := hq4
  rw [ex5] at hP
  refine w_if_ne (tgt := 16) S dX2_edit_5 (by decide) (fun hb7 => ?_) (fun hb7 => ?_)
  · refine lv_iload_n S.1 S.2.1 dX2_edit_16 rfl (lv_at hl 1 rfl) ?_
    refine lv_aload_n S.1 S.2.1 dX2_edit_17 rfl (lv_at hl 0 rfl) ?_
    refine w_get (C := RX2) (T := TX2) (N := 15) S (fun _ h => List.mem_cons_of_mem _ (List.mem_append_left _ (List.mem_append_left _ (List.mem_append_left _ (List.mem_append_right _ h))))) hK hP (5 + 21 * i) (by have := h4; omega) ((ceP0 h4) _) rfl 1 (by decide) (hts _ (List.mem_of_getElem? (i := 1) rfl)) (v := .ref (g.1 (5 + 21 * i + 1))) rfl dX2_edit_18 ?_
    refine w_bipush S dX2_edit_21 (by decide) (fun k8 hk8 => ?_)
    refine w_iald S hK hP (5 + 21 * i + 1) (by have := h4; omega) (ceP1 h4) (by omega) (by omega) dX2_edit_23 (fun v9 ev9 => ?_)
    have wv9 : v9.toInt = (x (5 + 21 * i + 1) k8.toInt.toNat).toInt := by rw [ev9]
    refine w_icmp_ne (tgt := 45) S dX2_edit_24 (by decide) (fun hb10 => ?_) (fun hb10 => ?_)
    · refine lv_iload_n S.1 S.2.1 dX2_edit_45 rfl (lv_at hl 1 rfl) ?_
      refine lv_aload_n S.1 S.2.1 dX2_edit_46 rfl (lv_at hl 0 rfl) ?_
      refine w_get (C := RX2) (T := TX2) (N := 15) S (fun _ h => List.mem_cons_of_mem _ (List.mem_append_left _ (List.mem_append_left _ (List.mem_append_left _ (List.mem_append_right _ h))))) hK hP (5 + 21 * i) (by have := h4; omega) ((ceP0 h4) _) rfl 1 (by decide) (hts _ (List.mem_of_getElem? (i := 1) rfl)) (v := .ref (g.1 (5 + 21 * i + 1))) rfl dX2_edit_47 ?_
      refine w_bipush S dX2_edit_50 (by decide) (fun k11 hk11 => ?_)
      refine w_iald S hK hP (5 + 21 * i + 1) (by have := h4; omega) (ceP1 h4) (by omega) (by omega) dX2_edit_52 (fun v12 ev12 => ?_)
      have wv12 : v12.toInt = (x (5 + 21 * i + 1) k11.toInt.toNat).toInt := by rw [ev12]
      refine w_icmp_ne (tgt := 70) S dX2_edit_53 (by decide) (fun hb13 => ?_) (fun hb13 => ?_)
      · refine lv_iload_n S.1 S.2.1 dX2_edit_70 rfl (lv_at hl 1 rfl) ?_
        refine lv_aload_n S.1 S.2.1 dX2_edit_71 rfl (lv_at hl 0 rfl) ?_
        refine w_get (C := RX2) (T := TX2) (N := 15) S (fun _ h => List.mem_cons_of_mem _ (List.mem_append_left _ (List.mem_append_left _ (List.mem_append_left _ (List.mem_append_right _ h))))) hK hP (5 + 21 * i) (by have := h4; omega) ((ceP0 h4) _) rfl 1 (by decide) (hts _ (List.mem_of_getElem? (i := 1) rfl)) (v := .ref (g.1 (5 + 21 * i + 1))) rfl dX2_edit_72 ?_
        refine w_bipush S dX2_edit_75 (by decide) (fun k14 hk14 => ?_)
        refine w_iald S hK hP (5 + 21 * i + 1) (by have := h4; omega) (ceP1 h4) (by omega) (by omega) dX2_edit_77 (fun v15 ev15 => ?_)
        have wv15 : v15.toInt = (x (5 + 21 * i + 1) k14.toInt.toNat).toInt := by rw [ev15]
        refine w_icmp_ne (tgt := 95) S dX2_edit_78 (by decide) (fun hb16 => ?_) (fun hb16 => ?_)
        · refine lv_iload_n S.1 S.2.1 dX2_edit_95 rfl (lv_at hl 1 rfl) ?_
          refine lv_aload_n S.1 S.2.1 dX2_edit_96 rfl (lv_at hl 0 rfl) ?_
          refine w_get (C := RX2) (T := TX2) (N := 15) S (fun _ h => List.mem_cons_of_mem _ (List.mem_append_left _ (List.mem_append_left _ (List.mem_append_left _ (List.mem_append_right _ h))))) hK hP (5 + 21 * i) (by have := h4; omega) ((ceP0 h4) _) rfl 1 (by decide) (hts _ (List.mem_of_getElem? (i := 1) rfl)) (v := .ref (g.1 (5 + 21 * i + 1))) rfl dX2_edit_97 ?_
          refine w_bipush S dX2_edit_100 (by decide) (fun k17 hk17 => ?_)
          refine w_iald S hK hP (5 + 21 * i + 1) (by have := h4; omega) (ceP1 h4) (by omega) (by omega) dX2_edit_102 (fun v18 ev18 => ?_)
          have wv18 : v18.toInt = (x (5 + 21 * i + 1) k17.toInt.toNat).toInt := by rw [ev18]
          refine w_icmp_ne (tgt := 114) S dX2_edit_103 (by decide) (fun hb19 => ?_) (fun hb19 => ?_)
          · refine lv_iload_n S.1 S.2.1 dX2_edit_114 rfl (lv_at hl 1 rfl) ?_
            refine lv_aload_n S.1 S.2.1 dX2_edit_115 rfl (lv_at hl 0 rfl) ?_
            refine w_get (C := RX2) (T := TX2) (N := 15) S (fun _ h => List.mem_cons_of_mem _ (List.mem_append_left _ (List.mem_append_left _ (List.mem_append_left _ (List.mem_append_right _ h))))) hK hP (5 + 21 * i) (by have := h4; omega) ((ceP0 h4) _) rfl 1 (by decide) (hts _ (List.mem_of_getElem? (i := 1) rfl)) (v := .ref (g.1 (5 + 21 * i + 1))) rfl dX2_edit_116 ?_
            refine w_bipush S dX2_edit_119 (by decide) (fun k20 hk20 => ?_)
            refine w_iald S hK hP (5 + 21 * i + 1) (by have := h4; omega) (ceP1 h4) (by omega) (by omega) dX2_edit_121 (fun v21 ev21 => ?_)
            have wv21 : v21.toInt = (x (5 + 21 * i + 1) k20.toInt.toNat).toInt := by rw [ev21]
            refine w_icmp_ne (tgt := 133) S dX2_edit_122 (by decide) (fun hb22 => ?_) (fun hb22 => ?_)
            · refine lv_iload_n S.1 S.2.1 dX2_edit_133 rfl (lv_at hl 1 rfl) ?_
              refine lv_aload_n S.1 S.2.1 dX2_edit_134 rfl (lv_at hl 0 rfl) ?_
              refine w_get (C := RX2) (T := TX2) (N := 15) S (fun _ h => List.mem_cons_of_mem _ (List.mem_append_left _ (List.mem_append_left _ (List.mem_append_left _ (List.mem_append_right _ h))))) hK hP (5 + 21 * i) (by have := h4; omega) ((ceP0 h4) _) rfl 1 (by decide) (hts _ (List.mem_of_getElem? (i := 1) rfl)) (v := .ref (g.1 (5 + 21 * i + 1))) rfl dX2_edit_135 ?_
              refine w_bipush S dX2_edit_138 (by decide) (fun k23 hk23 => ?_)
              refine w_iald S hK hP (5 + 21 * i + 1) (by have := h4; omega) (ceP1 h4) (by omega) (by omega) dX2_edit_140 (fun v24 ev24 => ?_)
              have wv24 : v24.toInt = (x (5 + 21 * i + 1) k23.toInt.toNat).toInt := by rw [ev24]
              refine w_icmp_ne (tgt := 155) S dX2_edit_141 (by decide) (fun hb25 => ?_) (fun hb25 => ?_)
              · refine lv_iload_n S.1 S.2.1 dX2_edit_155 rfl (lv_at hl 1 rfl) ?_
                refine w_bipush S dX2_edit_156 (by decide) (fun k26 hk26 => ?_)
                refine w_icmp_ne (tgt := 181) S dX2_edit_158 (by decide) (fun hb27 => ?_) (fun hb27 => ?_)
                · refine lv_aload_n S.1 S.2.1 dX2_edit_181 rfl (lv_at hl 0 rfl) ?_
                  refine lv_iload_n S.1 S.2.1 dX2_edit_182 rfl (lv_at hl 1 rfl) ?_
                  refine w_cVv (As := [.int b]) (rest := []) S hK hN hP hS hl (5 + 21 * i) (by have := h4; omega) ((ceP0 h4) _) rfl (c_X2_keepAndEcho l D g hg x hI i h4 b) (cwV 1 hts gX2_edit_X2_keepAndEcho rfl rfl rfl (by decide +kernel) ⟨Nat.le_of_ble_eq_true rfl, Nat.le_of_ble_eq_true rfl⟩) rfl rfl (Nat.le_of_ble_eq_true rfl) dX2_edit_183 ⟨Nat.zero_le _, Nat.zero_le _⟩ (fun x28 H locs hq30 hP hS => ?_)
                  obtain ⟨hI31, hT32, hf33⟩ := hq30
                  have hT34 : Same (TC) x x28 := hT.tr hT32 (fun _ _ h => h)
                  exact w_vret S hr0 hlk hP hS dX2_edit_186 (⟨hI31, hT34, trivial⟩)
                · refine lv_aload_n S.1 S.2.1 dX2_edit_161 rfl (lv_at hl 0 rfl) ?_
                  refine w_bipush S dX2_edit_162 (by decide) (fun k35 hk35 => ?_)
                  refine w_cVi (As := [.int k35]) (rest := []) S hK hN hP hS hl (5 + 21 * i) (by have := h4; omega) ((ceP0 h4) _) rfl (c_X2_endLine l D g hg x hI i h4 k35) (cwV 1 hts gX2_edit_X2_endLine rfl rfl rfl (by decide +kernel) ⟨Nat.le_of_ble_eq_true rfl, Nat.le_of_ble_eq_true rfl⟩) rfl rfl (Nat.le_of_ble_eq_true rfl) dX2_edit_164 ⟨Nat.zero_le _, Nat.zero_le _⟩ (fun r37 x36 H locs hq38 hP hS => ?_)
                  obtain ⟨hI39, hT40, hf41⟩ := hq38
                  have hT42 : Same (TC) x x36 := hT.tr hT40 (fun _ _ h => h)
                  refine w_if_eq (tgt := 186) S dX2_edit_167 (by decide) (fun hb43 => ?_) (fun hb43 => ?_)
                  · exact w_vret S hr0 hlk hP hS dX2_edit_186 (⟨hI39, hT42, trivial⟩)
                  · refine lv_aload_n S.1 S.2.1 dX2_edit_170 rfl (lv_at hl 0 rfl) ?_
                    refine w_cVv (As := []) (rest := []) S hK hN hP hS hl (5 + 21 * i) (by have := h4; omega) ((ceP0 h4) _) rfl (c_X2_draftNewline l D g hg x36 hI39 i h4) (cwV 0 hts gX2_edit_X2_draftNewline rfl rfl rfl (by decide +kernel) ⟨Nat.le_of_ble_eq_true rfl, Nat.le_of_ble_eq_true rfl⟩) rfl rfl (Nat.le_of_ble_eq_true rfl) dX2_edit_171 ⟨Nat.zero_le _, Nat.zero_le _⟩ (fun x44 H locs hq46 hP hS => ?_)
                    obtain ⟨hI47, hT48, hf49⟩ := hq46
                    have hT50 : Same (TC) x x44 := hT42.tr hT48 (fun _ _ h => h)
                    refine lv_aload_n S.1 S.2.1 dX2_edit_174 rfl (lv_at hl 0 rfl) ?_
                    refine w_cVv (As := []) (rest := []) S hK hN hP hS hl (5 + 21 * i) (by have := h4; omega) ((ceP0 h4) _) rfl (c_X2_echo l D g hg x44 hI47 i h4) (cwV 0 hts gX2_edit_X2_echo rfl rfl rfl (by decide +kernel) ⟨Nat.le_of_ble_eq_true rfl, Nat.le_of_ble_eq_true rfl⟩) rfl rfl (Nat.le_of_ble_eq_true rfl) dX2_edit_175 ⟨Nat.zero_le _, Nat.zero_le _⟩ (fun x51 H locs hq53 hP hS => ?_)
                    obtain ⟨hI54, hT55, hf56⟩ := hq53
                    have hT57 : Same (TC) x x51 := hT50.tr hT55 (fun _ _ h => h)
                    refine lv_goto (tgt := 186) S.1 S.2.1 dX2_edit_178 (by decide) ?_
                    exact w_vret S hr0 hlk hP hS dX2_edit_186 (⟨hI54, hT57, trivial⟩)
              · refine lv_aload_n S.1 S.2.1 dX2_edit_144 rfl (lv_at hl 0 rfl) ?_
                refine w_sipush S dX2_edit_145 (by decide) (fun k58 hk58 => ?_)
                refine w_cVi (As := [.int k58]) (rest := []) S hK hN hP hS hl (5 + 21 * i) (by have := h4; omega) ((ceP0 h4) _) rfl (c_X2_endLine l D g hg x hI i h4 k58) (cwV 1 hts gX2_edit_X2_endLine rfl rfl rfl (by decide +kernel) ⟨Nat.le_of_ble_eq_true rfl, Nat.le_of_ble_eq_true rfl⟩) rfl rfl (Nat.le_of_ble_eq_true rfl) dX2_edit_148 ⟨Nat.zero_le _, Nat.zero_le _⟩ (fun r60 x59 H locs hq61 hP hS => ?_)
                obtain ⟨hI62, hT63, hf64⟩ := hq61
                have hT65 : Same (TC) x x59 := hT.tr hT63 (fun _ _ h => h)
                refine lv_pop S.1 S.2.1 dX2_edit_151 rfl ?_
                refine lv_goto (tgt := 186) S.1 S.2.1 dX2_edit_152 (by decide) ?_
                exact w_vret S hr0 hlk hP hS dX2_edit_186 (⟨hI62, hT65, trivial⟩)
            · refine lv_aload_n S.1 S.2.1 dX2_edit_125 rfl (lv_at hl 0 rfl) ?_
              refine lv_iload_n S.1 S.2.1 dX2_edit_126 rfl (lv_at hl 1 rfl) ?_
              refine w_cVv (As := [.int b]) (rest := []) S hK hN hP hS hl (5 + 21 * i) (by have := h4; omega) ((ceP0 h4) _) rfl (c_X2_reprint l D g hg x hI i h4 b) (cwV 1 hts gX2_edit_X2_reprint rfl rfl rfl (by decide +kernel) ⟨Nat.le_of_ble_eq_true rfl, Nat.le_of_ble_eq_true rfl⟩) rfl rfl (Nat.le_of_ble_eq_true rfl) dX2_edit_127 ⟨Nat.zero_le _, Nat.zero_le _⟩ (fun x66 H locs hq68 hP hS => ?_)
              obtain ⟨hI69, hT70, hf71⟩ := hq68
              have hT72 : Same (TC) x x66 := hT.tr hT70 (fun _ _ h => h)
              refine lv_goto (tgt := 186) S.1 S.2.1 dX2_edit_130 (by decide) ?_
              exact w_vret S hr0 hlk hP hS dX2_edit_186 (⟨hI69, hT72, trivial⟩)
          · refine lv_aload_n S.1 S.2.1 dX2_edit_106 rfl (lv_at hl 0 rfl) ?_
            refine w_iconst S dX2_edit_107 (by decide) (fun k73 hk73 => ?_)
            refine w_put (C := RX2) (T := TX2) (N := 15) (F := FPort g (5 + 21 * i)) S (fun _ h => List.mem_cons_of_mem _ (List.mem_append_left _ (List.mem_append_left _ (List.mem_append_left _ (List.mem_append_right _ h))))) tyX2_ok nmX2 hK hg hP hS (5 + 21 * i) (by have := h4; omega) (ceP0 h4) rfl 9 (by decide) (hts _ (List.mem_of_getElem? (i := 7) rfl)) rfl (tz_narrow (z01 (by omega) (by omega))) (tz_fits (z01 (by omega) (by omega))) (fun _ => Nat.le_of_ble_eq_true rfl) (fun _ => rfl) dX2_edit_108 (fun x74 H locs ex74 hP hS => ?_)
            have hI75 : Inv x74 := by rw [ex74]; exact hI.upP0 h4 (show (0 : Int) ≤ _ by omega) (show _ ≤ (1 : Int) by omega)
            have hT76 : Same (TC) x x74 := by rw [ex74]; exact hT.up (by unfold TC TrC; omega)
            refine lv_goto (tgt := 186) S.1 S.2.1 dX2_edit_111 (by decide) ?_
            exact w_vret S hr0 hlk hP hS dX2_edit_186 (⟨hI75, hT76, trivial⟩)
        · refine lv_aload_n S.1 S.2.1 dX2_edit_81 rfl (lv_at hl 0 rfl) ?_
          refine lv_aload_n S.1 S.2.1 dX2_edit_82 rfl (lv_at hl 0 rfl) ?_
          refine w_get (C := RX2) (T := TX2) (N := 15) S (fun _ h => List.mem_cons_of_mem _ (List.mem_append_left _ (List.mem_append_left _ (List.mem_append_left _ (List.mem_append_right _ h))))) hK hP (5 + 21 * i) (by have := h4; omega) ((ceP0 h4) _) rfl 3 (by decide) (hts _ (List.mem_of_getElem? (i := 2) rfl)) (v := .ref (g.1 (5 + 21 * i + 4))) rfl dX2_edit_83 ?_
          refine w_cVi (As := []) (rest := [.ref (g.1 (5 + 21 * i))]) S hK hN hP hS hl (5 + 21 * i + 4) (by have := h4; omega) ((ceP4 h4) _) rfl (c_X4_openLine l D g hg x hI i h4) (cwV 0 hts gX2_edit_X4_openLine rfl rfl rfl (by decide +kernel) ⟨Nat.le_of_ble_eq_true rfl, Nat.le_of_ble_eq_true rfl⟩) rfl rfl (Nat.le_of_ble_eq_true rfl) dX2_edit_86 ⟨Nat.zero_le _, Nat.zero_le _⟩ (fun r78 x77 H locs hq79 hP hS => ?_)
          obtain ⟨ex80, hf81⟩ := hq79
          rw [ex80] at hP
          refine w_cVv (As := [.int r78]) (rest := []) S hK hN hP hS hl (5 + 21 * i) (by have := h4; omega) ((ceP0 h4) _) rfl (c_X2_takeAway l D g hg x hI i h4 r78) (cwV 1 hts gX2_edit_X2_takeAway rfl rfl rfl (by decide +kernel) ⟨Nat.le_of_ble_eq_true rfl, Nat.le_of_ble_eq_true rfl⟩) rfl rfl (Nat.le_of_ble_eq_true rfl) dX2_edit_89 ⟨Nat.zero_le _, Nat.zero_le _⟩ (fun x82 H locs hq84 hP hS => ?_)
          obtain ⟨hI85, hT86, hf87⟩ := hq84
          have hT88 : Same (TC) x x82 := hT.tr hT86 (fun _ _ h => h)
          refine lv_goto (tgt := 186) S.1 S.2.1 dX2_edit_92 (by decide) ?_
          exact w_vret S hr0 hlk hP hS dX2_edit_186 (⟨hI85, hT88, trivial⟩)
      · refine lv_aload_n S.1 S.2.1 dX2_edit_56 rfl (lv_at hl 0 rfl) ?_
        refine lv_aload_n S.1 S.2.1 dX2_edit_57 rfl (lv_at hl 0 rfl) ?_
        refine w_get (C := RX2) (T := TX2) (N := 15) S (fun _ h => List.mem_cons_of_mem _ (List.mem_append_left _ (List.mem_append_left _ (List.mem_append_left _ (List.mem_append_right _ h))))) hK hP (5 + 21 * i) (by have := h4; omega) ((ceP0 h4) _) rfl 3 (by decide) (hts _ (List.mem_of_getElem? (i := 2) rfl)) (v := .ref (g.1 (5 + 21 * i + 4))) rfl dX2_edit_58 ?_
        refine w_cVi (As := []) (rest := [.ref (g.1 (5 + 21 * i))]) S hK hN hP hS hl (5 + 21 * i + 4) (by have := h4; omega) ((ceP4 h4) _) rfl (c_X4_lastWord l D g hg x hI i h4) (cwV 0 hts gX2_edit_X4_lastWord rfl rfl rfl (by decide +kernel) ⟨Nat.le_of_ble_eq_true rfl, Nat.le_of_ble_eq_true rfl⟩) rfl rfl (Nat.le_of_ble_eq_true rfl) dX2_edit_61 ⟨Nat.zero_le _, Nat.zero_le _⟩ (fun r90 x89 H locs hq91 hP hS => ?_)
        obtain ⟨ex92, hf93⟩ := hq91
        rw [ex92] at hP
        refine w_cVv (As := [.int r90]) (rest := []) S hK hN hP hS hl (5 + 21 * i) (by have := h4; omega) ((ceP0 h4) _) rfl (c_X2_takeAway l D g hg x hI i h4 r90) (cwV 1 hts gX2_edit_X2_takeAway rfl rfl rfl (by decide +kernel) ⟨Nat.le_of_ble_eq_true rfl, Nat.le_of_ble_eq_true rfl⟩) rfl rfl (Nat.le_of_ble_eq_true rfl) dX2_edit_64 ⟨Nat.zero_le _, Nat.zero_le _⟩ (fun x94 H locs hq96 hP hS => ?_)
        obtain ⟨hI97, hT98, hf99⟩ := hq96
        have hT100 : Same (TC) x x94 := hT.tr hT98 (fun _ _ h => h)
        refine lv_goto (tgt := 186) S.1 S.2.1 dX2_edit_67 (by decide) ?_
        exact w_vret S hr0 hlk hP hS dX2_edit_186 (⟨hI97, hT100, trivial⟩)
    · refine lv_aload_n S.1 S.2.1 dX2_edit_27 rfl (lv_at hl 0 rfl) ?_
      refine w_iconst S dX2_edit_28 (by decide) (fun k101 hk101 => ?_)
      refine lv_aload_n S.1 S.2.1 dX2_edit_29 rfl (lv_at hl 0 rfl) ?_
      refine w_get (C := RX2) (T := TX2) (N := 15) S (fun _ h => List.mem_cons_of_mem _ (List.mem_append_left _ (List.mem_append_left _ (List.mem_append_left _ (List.mem_append_right _ h))))) hK hP (5 + 21 * i) (by have := h4; omega) ((ceP0 h4) _) rfl 3 (by decide) (hts _ (List.mem_of_getElem? (i := 2) rfl)) (v := .ref (g.1 (5 + 21 * i + 4))) rfl dX2_edit_30 ?_
      refine w_cVi (As := []) (rest := [.int k101, .ref (g.1 (5 + 21 * i))]) S hK hN hP hS hl (5 + 21 * i + 4) (by have := h4; omega) ((ceP4 h4) _) rfl (c_X4_openLine l D g hg x hI i h4) (cwV 0 hts gX2_edit_X4_openLine rfl rfl rfl (by decide +kernel) ⟨Nat.le_of_ble_eq_true rfl, Nat.le_of_ble_eq_true rfl⟩) rfl rfl (Nat.le_of_ble_eq_true rfl) dX2_edit_33 ⟨Nat.zero_le _, Nat.zero_le _⟩ (fun r103 x102 H locs hq104 hP hS => ?_)
      obtain ⟨ex105, hf106⟩ := hq104
      rw [ex105] at hP
      refine va_mmin S.1 S.2.1 (by rw [S.2.2.1]; exact hl.1.symm) S.2.2.2.1 (hts _ (List.mem_of_getElem? (i := 3) rfl)) (hts _ (List.mem_of_getElem? (i := 4) rfl)) (hts _ (List.mem_of_getElem? (i := 5) rfl)) (hts _ (List.mem_of_getElem? (i := 6) rfl)) (Nat.le_of_ble_eq_true rfl) (Nat.le_of_ble_eq_true rfl) (Nat.zero_le _) (Nat.zero_le _) dX2_edit_36 ?_
      refine lv_topi (fun v107 ev107 => ?_)
      have hv107 := t_min ev107
      refine w_cVv (As := [.int v107]) (rest := []) S hK hN hP hS hl (5 + 21 * i) (by have := h4; omega) ((ceP0 h4) _) rfl (c_X2_takeAway l D g hg x hI i h4 v107) (cwV 1 hts gX2_edit_X2_takeAway rfl rfl rfl (by decide +kernel) ⟨Nat.le_of_ble_eq_true rfl, Nat.le_of_ble_eq_true rfl⟩) rfl rfl (Nat.le_of_ble_eq_true rfl) dX2_edit_39 ⟨Nat.zero_le _, Nat.zero_le _⟩ (fun x108 H locs hq110 hP hS => ?_)
      obtain ⟨hI111, hT112, hf113⟩ := hq110
      have hT114 : Same (TC) x x108 := hT.tr hT112 (fun _ _ h => h)
      refine lv_goto (tgt := 186) S.1 S.2.1 dX2_edit_42 (by decide) ?_
      exact w_vret S hr0 hlk hP hS dX2_edit_186 (⟨hI111, hT114, trivial⟩)
  · refine lv_aload_n S.1 S.2.1 dX2_edit_8 rfl (lv_at hl 0 rfl) ?_
    refine lv_iload_n S.1 S.2.1 dX2_edit_9 rfl (lv_at hl 1 rfl) ?_
    refine w_cVv (As := [.int b]) (rest := []) S hK hN hP hS hl (5 + 21 * i) (by have := h4; omega) ((ceP0 h4) _) rfl (c_X2_keepAndEcho l D g hg x hI i h4 b) (cwV 1 hts gX2_edit_X2_keepAndEcho rfl rfl rfl (by decide +kernel) ⟨Nat.le_of_ble_eq_true rfl, Nat.le_of_ble_eq_true rfl⟩) rfl rfl (Nat.le_of_ble_eq_true rfl) dX2_edit_10 ⟨Nat.zero_le _, Nat.zero_le _⟩ (fun x115 H locs hq117 hP hS => ?_)
    obtain ⟨hI118, hT119, hf120⟩ := hq117
    have hT121 : Same (TC) x x115 := hT.tr hT119 (fun _ _ h => h)
    refine lv_goto (tgt := 186) S.1 S.2.1 dX2_edit_13 (by decide) ?_
    exact w_vret S hr0 hlk hP hS dX2_edit_186 (⟨hI118, hT121, trivial⟩)
set_option maxRecDepth 100000 in
set_option maxHeartbeats 4000000 in
theorem c_X2_pass (l : Launch) (D : va_G) (g : GA) (hg : Inj g) (x : St) (hI : Inv x) (i : Nat) (h4 : i < 4) : Met l yX2_pass wsX2_pass ({ frames := 5, cells := 0, slots := 0, locals := 110 } : Room) (va_Pc [.ref (g.1 (5 + 21 * i))] (WI D g x)) (va_Qv (fun x2 => Inv x2 ∧ Same (TCr i) x x2 ∧ (x2 (5 + 21 * i + 2) 2).toInt = 0 ∧ ((x (5 + 21 * i + 2) 2).toInt = 0 → x2 = x)) (WO D g) (AQ g)) 0 0 (AQ g) := by
  refine w_met (cc := cX2_pass) (maxL := 5) (ret := none) (own := RX2) (by decide) rfl rfl (Nat.le_of_ble_eq_true rfl) (fun p e s m below meth co S hr0 hlk hK hN hP hS ls hl => ?_)
  have hts := S.2.2.2.2
  have hl : lv_has ls 5 [(0, .ref (g.1 (5 + 21 * i)))] := hl
  have hT : Same (TCr i) x x := Same.rf
  have J2 : ∀ (n0 : Nat) (x_2 : St) (H : Heap) (locs : List Loc) (ls : Array Slot) (y2_1 : Int32), Inv x_2 → Same (TCr i) x x_2 → (0 ≤ y2_1.toInt) → (y2_1.toInt ≤ 8) → ((x_2 (5 + 21 * i + 2) 2).toInt + y2_1.toInt ≤ 8) → ((x (5 + 21 * i + 2) 2).toInt = 0 → x_2 = x) → (8 - y2_1.toInt).toNat < n0 → va_P D vwCl (WL g x_2) H → va_S (AQ g) s.heap H locs → lv_has ls 5 [(0, .ref (g.1 (5 + 21 * i))), (1, .int y2_1)] → W p l e ({ frames := 5, cells := 0, slots := 0, locals := 110 } : Room) s m ([.ref (g.1 (5 + 21 * i))] : List Value).toArray below meth co H locs 0 0 (MQ below (va_Qv (fun x2 => Inv x2 ∧ Same (TCr i) x x2 ∧ (x2 (5 + 21 * i + 2) 2).toInt = 0 ∧ ((x (5 + 21 * i + 2) 2).toInt = 0 → x2 = x)) (WO D g) (AQ g)) ([.ref (g.1 (5 + 21 * i))] : List Value).toArray s 0 0 (AQ g)) (F0 m 2 ls []) := by
    intro n0
    induction n0 with
    | zero => intro x_2 H locs ls y2_1 hI_2 hT_2 hf2_0 hf2_1 hf2_2 hf2_3 hm_2 hP hS hl; exact absurd hm_2 (Nat.not_lt_zero _)
    | succ n0 ih2 =>
      intro x_2 H locs ls y2_1 hI_2 hT_2 hf2_0 hf2_1 hf2_2 hf2_3 hm_2 hP hS hl
      have hz_ : (0 : Int) ≤ (x_2 (5 + 21 * i + 2) 2).toInt := (hI_2.atP (j := 2) (k := 2) h4 (by decide)).1
      have J122 : ∀ (x_122 : St) (H : Heap) (locs : List Loc) (ls : Array Slot), Inv x_122 → Same (TCr i) x x_122 → ((x_122 (5 + 21 * i + 2) 2).toInt + y2_1.toInt + 1 ≤ 8) → (0 < (x_2 (5 + 21 * i + 2) 2).toInt) → va_P D vwCl (WL g x_122) H → va_S (AQ g) s.heap H locs → lv_has ls 5 [(0, .ref (g.1 (5 + 21 * i))), (1, .int y2_1)] → W p l e ({ frames := 5, cells := 0, slots := 0, locals := 110 } : Room) s m ([.ref (g.1 (5 + 21 * i))] : List Value).toArray below meth co H locs 0 0 (MQ below (va_Qv (fun x2 => Inv x2 ∧ Same (TCr i) x x2 ∧ (x2 (5 + 21 * i + 2) 2).toInt = 0 ∧ ((x (5 + 21 * i + 2) 2).toInt = 0 → x2 = x)) (WO D g) (AQ g)) ([.ref (g.1 (5 + 21 * i))] : List Value).toArray s 0 0 (AQ g)) (F0 m 122 ls []) := by
        intro x_122 H locs ls hI_122 hT_122 hf122_0 hf122_1 hP hS hl
        refine w_iinc (lv' := [(0, .ref (g.1 (5 + 21 * i)))]) S dX2_pass_122 hl (k := 1) rfl (by decide) (by decide) (by omega) (by omega) (fun _ => rfl) (fun v1 ls hv1 hl => ?_)
        refine lv_goto (tgt := 2) S.1 S.2.1 dX2_pass_125 (by decide) ?_
        exact ih2 _ _ _ _ v1 hI_122 hT_122 (by omega) (by omega) (by first | omega | (have := hI.atP (j := 2) (k := 2) h4 (by decide); have h8 : (x (5 + 21 * i + 2) 2).toInt ≤ 8 := this.2; omega)) (by first | exact fun _ => rfl | (intro h0; exfalso; have e9 := hf2_3 h0; subst e9; omega)) (by omega) hP hS (lv_sub hl [1, 0] rfl)
      refine lv_iload_n S.1 S.2.1 dX2_pass_2 rfl (lv_at hl 1 rfl) ?_
      refine w_bipush S dX2_pass_3 (by decide) (fun k2 hk2 => ?_)
      refine w_icmp_ge (tgt := 128) S dX2_pass_5 (by decide) (fun hb3 => ?_) (fun hb3 => ?_)
      · exact w_vret S hr0 hlk hP hS dX2_pass_128 (⟨hI_2, hT_2, by omega, by assumption⟩)
      · refine lv_aload_n S.1 S.2.1 dX2_pass_8 rfl (lv_at hl 0 rfl) ?_
        refine w_get (C := RX2) (T := TX2) (N := 15) S (fun _ h => List.mem_cons_of_mem _ (List.mem_append_left _ (List.mem_append_left _ (List.mem_append_left _ (List.mem_append_left _ (List.mem_append_left _ (List.mem_append_right _ h))))))) hK hP (5 + 21 * i) (by have := h4; omega) ((ceP0 h4) _) rfl 2 (by decide) (hts _ (List.mem_of_getElem? (i := 1) rfl)) (v := .ref (g.1 (5 + 21 * i + 2))) rfl dX2_pass_9 ?_
        refine w_getN (C := RX3) (T := TX3) (N := 3) S (fun _ h => List.mem_cons_of_mem _ (List.mem_append_left _ (List.mem_append_left _ (List.mem_append_left _ (List.mem_append_left _ (List.mem_append_right _ h)))))) hK hP (5 + 21 * i + 2) (by have := h4; omega) ((ceP2 h4) _) rfl 2 (by decide) (hN.1 _ (List.mem_of_getElem? (i := 6) rfl)) (v := .int (x_2 (5 + 21 * i + 2) 2)) rfl dX2_pass_12 ?_
        refine lv_topi (fun v4 ev4 => ?_)
        have wv4 : v4.toInt = (x_2 (5 + 21 * i + 2) 2).toInt := by rw [ev4]
        have rv4 : (0 : Int) ≤ v4.toInt ∧ v4.toInt ≤ (8 : Int) := by rw [ev4]; exact hI_2.atP (j := 2) (k := 2) h4 (by decide)
        refine w_if_le (tgt := 128) S dX2_pass_15 (by decide) (fun hb5 => ?_) (fun hb5 => ?_)
        · exact w_vret S hr0 hlk hP hS dX2_pass_128 (⟨hI_2, hT_2, by omega, by assumption⟩)
        · refine lv_aload_n S.1 S.2.1 dX2_pass_18 rfl (lv_at hl 0 rfl) ?_
          refine w_get (C := RX2) (T := TX2) (N := 15) S (fun _ h => List.mem_cons_of_mem _ (List.mem_append_left _ (List.mem_append_left _ (List.mem_append_left _ (List.mem_append_left _ (List.mem_append_left _ (List.mem_append_right _ h))))))) hK hP (5 + 21 * i) (by have := h4; omega) ((ceP0 h4) _) rfl 2 (by decide) (hts _ (List.mem_of_getElem? (i := 1) rfl)) (v := .ref (g.1 (5 + 21 * i + 2))) rfl dX2_pass_19 ?_
          refine w_cVi (As := []) (rest := []) S hK hN hP hS hl (5 + 21 * i + 2) (by have := h4; omega) ((ceP2 h4) _) rfl (c_X3_takeFirst l D g hg x_2 hI_2 (5 + 21 * i + 2) 8 (isRow2 h4)) (cwV 0 hts gX2_pass_X3_takeFirst rfl rfl rfl (by decide +kernel) ⟨Nat.le_of_ble_eq_true rfl, Nat.le_of_ble_eq_true rfl⟩) rfl rfl (Nat.le_of_ble_eq_true rfl) dX2_pass_22 ⟨Nat.zero_le _, Nat.zero_le _⟩ (fun r7 x6 H locs hq8 hP hS => ?_)
          obtain ⟨hI9, hT10, hf11⟩ := hq8
          have hT12 : Same (TCr i) x x6 := hT_2.tr hT10 (fun c0 k0 h => by unfold TCr TC TrC at h; unfold TR; omega)
          refine lv_istore_n (lv' := [(2, .int r7), (0, .ref (g.1 (5 + 21 * i))), (1, .int y2_1)]) S.1 S.2.1 dX2_pass_25 rfl hl (by decide) rfl (fun ls hl => ?_)
          refine lv_iload_n S.1 S.2.1 dX2_pass_26 rfl (lv_at hl 0 rfl) ?_
          refine w_sipush S dX2_pass_27 (by decide) (fun k13 hk13 => ?_)
          refine lv_iand S.1 S.2.1 dX2_pass_30 ?_
          refine w_any1 (fun v14 => ?_)
          refine lv_istore_n (lv' := [(3, .int v14), (2, .int r7), (0, .ref (g.1 (5 + 21 * i))), (1, .int y2_1)]) S.1 S.2.1 dX2_pass_31 rfl hl (by decide) rfl (fun ls hl => ?_)
          refine lv_iload_n S.1 S.2.1 dX2_pass_32 rfl (lv_at hl 1 rfl) ?_
          refine w_bipush S dX2_pass_33 (by decide) (fun k15 hk15 => ?_)
          refine lv_ishr S.1 S.2.1 dX2_pass_35 ?_
          refine w_any1 (fun v16 => ?_)
          refine lv_istore (lv' := [(4, .int v16), (3, .int v14), (2, .int r7), (0, .ref (g.1 (5 + 21 * i))), (1, .int y2_1)]) S.1 S.2.1 dX2_pass_36 hl (by decide) rfl (fun ls hl => ?_)
          refine lv_iload S.1 S.2.1 dX2_pass_38 (lv_at hl 0 rfl) ?_
          refine w_if_eq (tgt := 62) S dX2_pass_40 (by decide) (fun hb17 => ?_) (fun hb17 => ?_)
          · refine lv_aload_n S.1 S.2.1 dX2_pass_62 rfl (lv_at hl 3 rfl) ?_
            refine w_get (C := RX2) (T := TX2) (N := 15) S (fun _ h => List.mem_cons_of_mem _ (List.mem_append_left _ (List.mem_append_left _ (List.mem_append_left _ (List.mem_append_left _ (List.mem_append_left _ (List.mem_append_right _ h))))))) hK hP (5 + 21 * i) (by have := h4; omega) ((ceP0 h4) _) rfl 9 (by decide) (hts _ (List.mem_of_getElem? (i := 2) rfl)) (v := .int (x6 (5 + 21 * i) 9)) rfl dX2_pass_63 ?_
            refine lv_topi (fun v18 ev18 => ?_)
            have wv18 : v18.toInt = (x6 (5 + 21 * i) 9).toInt := by rw [ev18]
            have rv18 : (0 : Int) ≤ v18.toInt ∧ v18.toInt ≤ (1 : Int) := by rw [ev18]; exact hI9.atP0 (k := 9) h4
            refine w_if_eq (tgt := 82) S dX2_pass_66 (by decide) (fun hb19 => ?_) (fun hb19 => ?_)
            · refine lv_aload_n S.1 S.2.1 dX2_pass_82 rfl (lv_at hl 3 rfl) ?_
              refine lv_iload_n S.1 S.2.1 dX2_pass_83 rfl (lv_at hl 1 rfl) ?_
              refine w_cVi (As := [.int v14]) (rest := []) S hK hN hP hS hl (5 + 21 * i) (by have := h4; omega) ((ceP0 h4) _) rfl (c_X2_settledAsFlow l D g hg x6 hI9 i h4 v14) (cwV 1 hts gX2_pass_X2_settledAsFlow rfl rfl rfl (by decide +kernel) ⟨Nat.le_of_ble_eq_true rfl, Nat.le_of_ble_eq_true rfl⟩) rfl rfl (Nat.le_of_ble_eq_true rfl) dX2_pass_84 ⟨Nat.zero_le _, Nat.zero_le _⟩ (fun r21 x20 H locs hq22 hP hS => ?_)
              obtain ⟨hI23, hT24, hf25⟩ := hq22
              have hT26 : Same (TCr i) x x20 := hT12.tr hT24 (fun _ _ h => h.1)
              have u27 : (x20 (5 + 21 * i + 2) 2).toInt = (x6 (5 + 21 * i + 2) 2).toInt := by rw [hT24 (5 + 21 * i + 2) 2 (by unfold TC TrC; omega)]
              refine w_if_ne (tgt := 122) S dX2_pass_87 (by decide) (fun hb28 => ?_) (fun hb28 => ?_)
              · exact J122 _ _ _ _ hI23 hT26 (by omega) (by omega) hP hS (lv_sub hl [3, 4] rfl)
              · refine lv_aload_n S.1 S.2.1 dX2_pass_90 rfl (lv_at hl 3 rfl) ?_
                refine lv_iload_n S.1 S.2.1 dX2_pass_91 rfl (lv_at hl 1 rfl) ?_
                refine w_cVi (As := [.int v14]) (rest := []) S hK hN hP hS hl (5 + 21 * i) (by have := h4; omega) ((ceP0 h4) _) rfl (c_X2_settledAsSignal l D g hg x20 hI23 i h4 v14) (cwV 1 hts gX2_pass_X2_settledAsSignal rfl rfl rfl (by decide +kernel) ⟨Nat.le_of_ble_eq_true rfl, Nat.le_of_ble_eq_true rfl⟩) rfl rfl (Nat.le_of_ble_eq_true rfl) dX2_pass_92 ⟨Nat.zero_le _, Nat.zero_le _⟩ (fun r30 x29 H locs hq31 hP hS => ?_)
                obtain ⟨hI32, hT33, hf34⟩ := hq31
                have hT35 : Same (TCr i) x x29 := hT26.tr hT33 (fun _ _ h => h.1)
                have u36 : (x29 (5 + 21 * i + 2) 2).toInt = (x20 (5 + 21 * i + 2) 2).toInt := by rw [hT33 (5 + 21 * i + 2) 2 (by unfold TC TrC; omega)]
                refine w_if_ne (tgt := 122) S dX2_pass_95 (by decide) (fun hb37 => ?_) (fun hb37 => ?_)
                · exact J122 _ _ _ _ hI32 hT35 (by omega) (by omega) hP hS (lv_sub hl [3, 4] rfl)
                · refine lv_aload_n S.1 S.2.1 dX2_pass_98 rfl (lv_at hl 3 rfl) ?_
                  refine lv_iload_n S.1 S.2.1 dX2_pass_99 rfl (lv_at hl 1 rfl) ?_
                  refine w_bipush S dX2_pass_100 (by decide) (fun k38 hk38 => ?_)
                  refine w_icmp_ne (tgt := 118) S dX2_pass_102 (by decide) (fun hb39 => ?_) (fun hb39 => ?_)
                  · refine lv_iload_n S.1 S.2.1 dX2_pass_118 rfl (lv_at hl 1 rfl) ?_
                    refine w_cVv (As := [.int v14]) (rest := []) S hK hN hP hS hl (5 + 21 * i) (by have := h4; omega) ((ceP0 h4) _) rfl (c_X2_edit l D g hg x29 hI32 i h4 v14) (cwV 1 hts gX2_pass_X2_edit rfl rfl rfl (by decide +kernel) ⟨Nat.le_of_ble_eq_true rfl, Nat.le_of_ble_eq_true rfl⟩) rfl rfl (Nat.le_of_ble_eq_true rfl) dX2_pass_119 ⟨Nat.zero_le _, Nat.zero_le _⟩ (fun x40 H locs hq42 hP hS => ?_)
                    obtain ⟨hI43, hT44, hf45⟩ := hq42
                    have hT46 : Same (TCr i) x x40 := hT35.tr hT44 (fun _ _ h => h.1)
                    have u47 : (x40 (5 + 21 * i + 2) 2).toInt = (x29 (5 + 21 * i + 2) 2).toInt := by rw [hT44 (5 + 21 * i + 2) 2 (by unfold TC TrC; omega)]
                    exact J122 _ _ _ _ hI43 hT46 (by omega) (by omega) hP hS (lv_sub hl [3, 4] rfl)
                  · refine lv_aload_n S.1 S.2.1 dX2_pass_105 rfl (lv_at hl 3 rfl) ?_
                    refine w_iconst S dX2_pass_106 (by decide) (fun k48 hk48 => ?_)
                    refine w_cVi (As := [.int k48]) (rest := [.ref (g.1 (5 + 21 * i))]) S hK hN hP hS hl (5 + 21 * i) (by have := h4; omega) ((ceP0 h4) _) rfl (c_X2_isOn l D g hg x29 hI32 i h4 k48 (by omega)) (cwV 1 hts gX2_pass_X2_isOn rfl rfl rfl (by decide +kernel) ⟨Nat.le_of_ble_eq_true rfl, Nat.le_of_ble_eq_true rfl⟩) rfl rfl (Nat.le_of_ble_eq_true rfl) dX2_pass_107 ⟨Nat.zero_le _, Nat.zero_le _⟩ (fun r50 x49 H locs hq51 hP hS => ?_)
                    obtain ⟨ex52, hf53⟩ := hq51
                    rw [ex52] at hP
                    refine w_if_eq (tgt := 118) S dX2_pass_110 (by decide) (fun hb54 => ?_) (fun hb54 => ?_)
                    · refine lv_iload_n S.1 S.2.1 dX2_pass_118 rfl (lv_at hl 1 rfl) ?_
                      refine w_cVv (As := [.int v14]) (rest := []) S hK hN hP hS hl (5 + 21 * i) (by have := h4; omega) ((ceP0 h4) _) rfl (c_X2_edit l D g hg x29 hI32 i h4 v14) (cwV 1 hts gX2_pass_X2_edit rfl rfl rfl (by decide +kernel) ⟨Nat.le_of_ble_eq_true rfl, Nat.le_of_ble_eq_true rfl⟩) rfl rfl (Nat.le_of_ble_eq_true rfl) dX2_pass_119 ⟨Nat.zero_le _, Nat.zero_le _⟩ (fun x55 H locs hq57 hP hS => ?_)
                      obtain ⟨hI58, hT59, hf60⟩ := hq57
                      have hT61 : Same (TCr i) x x55 := hT35.tr hT59 (fun _ _ h => h.1)
                      have u62 : (x55 (5 + 21 * i + 2) 2).toInt = (x29 (5 + 21 * i + 2) 2).toInt := by rw [hT59 (5 + 21 * i + 2) 2 (by unfold TC TrC; omega)]
                      exact J122 _ _ _ _ hI58 hT61 (by omega) (by omega) hP hS (lv_sub hl [3, 4] rfl)
                    · refine w_bipush S dX2_pass_113 (by decide) (fun k63 hk63 => ?_)
                      refine lv_goto (tgt := 119) S.1 S.2.1 dX2_pass_115 (by decide) ?_
                      refine w_cVv (As := [.int k63]) (rest := []) S hK hN hP hS hl (5 + 21 * i) (by have := h4; omega) ((ceP0 h4) _) rfl (c_X2_edit l D g hg x29 hI32 i h4 k63) (cwV 1 hts gX2_pass_X2_edit rfl rfl rfl (by decide +kernel) ⟨Nat.le_of_ble_eq_true rfl, Nat.le_of_ble_eq_true rfl⟩) rfl rfl (Nat.le_of_ble_eq_true rfl) dX2_pass_119 ⟨Nat.zero_le _, Nat.zero_le _⟩ (fun x64 H locs hq66 hP hS => ?_)
                      obtain ⟨hI67, hT68, hf69⟩ := hq66
                      have hT70 : Same (TCr i) x x64 := hT35.tr hT68 (fun _ _ h => h.1)
                      have u71 : (x64 (5 + 21 * i + 2) 2).toInt = (x29 (5 + 21 * i + 2) 2).toInt := by rw [hT68 (5 + 21 * i + 2) 2 (by unfold TC TrC; omega)]
                      exact J122 _ _ _ _ hI67 hT70 (by omega) (by omega) hP hS (lv_sub hl [3, 4] rfl)
            · refine lv_aload_n S.1 S.2.1 dX2_pass_69 rfl (lv_at hl 3 rfl) ?_
              refine w_iconst S dX2_pass_70 (by decide) (fun k72 hk72 => ?_)
              refine w_put (C := RX2) (T := TX2) (N := 15) (F := FPort g (5 + 21 * i)) S (fun _ h => List.mem_cons_of_mem _ (List.mem_append_left _ (List.mem_append_left _ (List.mem_append_left _ (List.mem_append_left _ (List.mem_append_left _ (List.mem_append_right _ h))))))) tyX2_ok nmX2 hK hg hP hS (5 + 21 * i) (by have := h4; omega) (ceP0 h4) rfl 9 (by decide) (hts _ (List.mem_of_getElem? (i := 2) rfl)) rfl (tz_narrow (z01 (by omega) (by omega))) (tz_fits (z01 (by omega) (by omega))) (fun _ => Nat.le_of_ble_eq_true rfl) (fun _ => rfl) dX2_pass_71 (fun x73 H locs ex73 hP hS => ?_)
              have hI74 : Inv x73 := by rw [ex73]; exact hI9.upP0 h4 (show (0 : Int) ≤ _ by omega) (show _ ≤ (1 : Int) by omega)
              have hT75 : Same (TCr i) x x73 := by rw [ex73]; exact hT12.up (by unfold TCr TC TrC; omega)
              have u76 : (x73 (5 + 21 * i + 2) 2).toInt = (x6 (5 + 21 * i + 2) 2).toInt := by rw [ex73, up2_ne _ _ (by omega)]
              refine lv_aload_n S.1 S.2.1 dX2_pass_74 rfl (lv_at hl 3 rfl) ?_
              refine lv_iload_n S.1 S.2.1 dX2_pass_75 rfl (lv_at hl 1 rfl) ?_
              refine w_cVv (As := [.int v14]) (rest := []) S hK hN hP hS hl (5 + 21 * i) (by have := h4; omega) ((ceP0 h4) _) rfl (c_X2_keepAndEcho l D g hg x73 hI74 i h4 v14) (cwV 1 hts gX2_pass_X2_keepAndEcho rfl rfl rfl (by decide +kernel) ⟨Nat.le_of_ble_eq_true rfl, Nat.le_of_ble_eq_true rfl⟩) rfl rfl (Nat.le_of_ble_eq_true rfl) dX2_pass_76 ⟨Nat.zero_le _, Nat.zero_le _⟩ (fun x77 H locs hq79 hP hS => ?_)
              obtain ⟨hI80, hT81, hf82⟩ := hq79
              have hT83 : Same (TCr i) x x77 := hT75.tr hT81 (fun _ _ h => h.1)
              have u84 : (x77 (5 + 21 * i + 2) 2).toInt = (x73 (5 + 21 * i + 2) 2).toInt := by rw [hT81 (5 + 21 * i + 2) 2 (by unfold TC TrC; omega)]
              refine lv_goto (tgt := 122) S.1 S.2.1 dX2_pass_79 (by decide) ?_
              exact J122 _ _ _ _ hI80 hT83 (by omega) (by omega) hP hS (lv_sub hl [3, 4] rfl)
          · refine lv_aload_n S.1 S.2.1 dX2_pass_43 rfl (lv_at hl 3 rfl) ?_
            refine lv_iload S.1 S.2.1 dX2_pass_44 (lv_at hl 0 rfl) ?_
            refine w_iconst S dX2_pass_46 (by decide) (fun k85 hk85 => ?_)
            refine lv_iand S.1 S.2.1 dX2_pass_47 ?_
            refine w_any1 (fun v86 => ?_)
            refine w_if_eq (tgt := 55) S dX2_pass_48 (by decide) (fun hb87 => ?_) (fun hb87 => ?_)
            · refine w_iconst S dX2_pass_55 (by decide) (fun k88 hk88 => ?_)
              refine w_cVv (As := [.int k88]) (rest := []) S hK hN hP hS hl (5 + 21 * i) (by have := h4; omega) ((ceP0 h4) _) rfl (c_X2_takeFlagged l D g hg x6 hI9 i h4 k88) (cwV 1 hts gX2_pass_X2_takeFlagged rfl rfl rfl (by decide +kernel) ⟨Nat.le_of_ble_eq_true rfl, Nat.le_of_ble_eq_true rfl⟩) rfl rfl (Nat.le_of_ble_eq_true rfl) dX2_pass_56 ⟨Nat.zero_le _, Nat.zero_le _⟩ (fun x89 H locs hq91 hP hS => ?_)
              obtain ⟨hI92, hT93, hf94⟩ := hq91
              have hT95 : Same (TCr i) x x89 := hT12.tr hT93 (fun _ _ h => h.1)
              have u96 : (x89 (5 + 21 * i + 2) 2).toInt = (x6 (5 + 21 * i + 2) 2).toInt := by rw [hT93 (5 + 21 * i + 2) 2 (by unfold TC TrC; omega)]
              refine lv_goto (tgt := 122) S.1 S.2.1 dX2_pass_59 (by decide) ?_
              exact J122 _ _ _ _ hI92 hT95 (by omega) (by omega) hP hS (lv_sub hl [3, 4] rfl)
            · refine w_iconst S dX2_pass_51 (by decide) (fun k97 hk97 => ?_)
              refine lv_goto (tgt := 56) S.1 S.2.1 dX2_pass_52 (by decide) ?_
              refine w_cVv (As := [.int k97]) (rest := []) S hK hN hP hS hl (5 + 21 * i) (by have := h4; omega) ((ceP0 h4) _) rfl (c_X2_takeFlagged l D g hg x6 hI9 i h4 k97) (cwV 1 hts gX2_pass_X2_takeFlagged rfl rfl rfl (by decide +kernel) ⟨Nat.le_of_ble_eq_true rfl, Nat.le_of_ble_eq_true rfl⟩) rfl rfl (Nat.le_of_ble_eq_true rfl) dX2_pass_56 ⟨Nat.zero_le _, Nat.zero_le _⟩ (fun x98 H locs hq100 hP hS => ?_)
              obtain ⟨hI101, hT102, hf103⟩ := hq100
              have hT104 : Same (TCr i) x x98 := hT12.tr hT102 (fun _ _ h => h.1)
              have u105 : (x98 (5 + 21 * i + 2) 2).toInt = (x6 (5 + 21 * i + 2) 2).toInt := by rw [hT102 (5 + 21 * i + 2) 2 (by unfold TC TrC; omega)]
              refine lv_goto (tgt := 122) S.1 S.2.1 dX2_pass_59 (by decide) ?_
              exact J122 _ _ _ _ hI101 hT104 (by omega) (by omega) hP hS (lv_sub hl [3, 4] rfl)
  refine w_iconst S dX2_pass_0 (by decide) (fun k106 hk106 => ?_)
  refine lv_istore_n (lv' := [(1, .int k106), (0, .ref (g.1 (5 + 21 * i)))]) S.1 S.2.1 dX2_pass_1 rfl hl (by decide) rfl (fun ls hl => ?_)
  exact J2 _ _ _ _ _ k106 hI hT (by omega) (by omega) (by first | omega | (have := hI.atP (j := 2) (k := 2) h4 (by decide); have h8 : (x (5 + 21 * i + 2) 2).toInt ≤ 8 := this.2; omega)) (by first | exact fun _ => rfl | (intro h0; exfalso; have e9 := hf2_3 h0; subst e9; omega)) (Nat.lt_succ_self _) hP hS (lv_sub hl [1, 0] rfl)
set_option maxRecDepth 100000 in
set_option maxHeartbeats 4000000 in
theorem c_X2_openFor (l : Launch) (D : va_G) (g : GA) (hg : Inj g) (x : St) (hI : Inv x) (i : Nat) (h4 : i < 4) (a : Int32) (ha : 0 ≤ a.toInt ∧ a.toInt < 8) : Met l yX2_openFor wsX2_openFor ({ frames := 0, cells := 0, slots := 0, locals := 0 } : Room) (va_Pc [.ref (g.1 (5 + 21 * i)), .int a] (WI D g x)) (va_Qi (fun r x2 => Inv x2 ∧ Same (TCo i) x x2 ∧ ((r.toInt = 0 ∧ x2 = x ∧ ((x (5 + 21 * i) 10).toInt = 0 ∨ ((x (5 + 21 * i + 19) a.toInt.toNat).toInt ≠ 0 ∧ (x (5 + 21 * i) 11).toInt = 0))) ∨ (r.toInt = 1 ∧ ((x (5 + 21 * i) 10).toInt ≠ 0 ∧ ((x (5 + 21 * i + 19) a.toInt.toNat).toInt = 0 ∨ (x (5 + 21 * i) 11).toInt ≠ 0)) ∧ (x2 (5 + 21 * i) 11).toInt = 0 ∧ ∀ k, k < 8 → (x2 (5 + 21 * i + 19) k) = if k = a.toInt.toNat then 1 else if (x (5 + 21 * i) 11).toInt = 0 then (x (5 + 21 * i + 19) k) else 0))) (WO D g) (AQ g)) 0 0 (AQ g) := by
  refine w_met (cc := cX2_openFor) (maxL := 3) (ret := (some .boolean)) (own := RX2) (by decide) rfl rfl (Nat.le_of_ble_eq_true rfl) (fun p e s m below meth co S hr0 hlk hK hN hP hS ls hl => ?_)
  have hts := S.2.2.2.2
  have hl : lv_has ls 3 [(0, .ref (g.1 (5 + 21 * i))), (1, .int a)] := hl
  have hT : Same (TCo i) x x := Same.rf
  have J53 : ∀ (x_53 : St) (H : Heap) (locs : List Loc) (ls : Array Slot), Inv x_53 → Same (TCo i) x x_53 → ((x (5 + 21 * i) 10).toInt ≠ 0 ∧ ((x (5 + 21 * i + 19) a.toInt.toNat).toInt = 0 ∨ (x (5 + 21 * i) 11).toInt ≠ 0)) → (∀ k, k < 8 → (x_53 (5 + 21 * i + 19) k) = if (x (5 + 21 * i) 11).toInt = 0 then (x (5 + 21 * i + 19) k) else 0) → va_P D vwCl (WL g x_53) H → va_S (AQ g) s.heap H locs → lv_has ls 3 [(0, .ref (g.1 (5 + 21 * i))), (1, .int a)] → W p l e ({ frames := 0, cells := 0, slots := 0, locals := 0 } : Room) s m ([.ref (g.1 (5 + 21 * i)), .int a] : List Value).toArray below meth co H locs 0 0 (MQ below (va_Qi (fun r x2 => Inv x2 ∧ Same (TCo i) x x2 ∧ ((r.toInt = 0 ∧ x2 = x ∧ ((x (5 + 21 * i) 10).toInt = 0 ∨ ((x (5 + 21 * i + 19) a.toInt.toNat).toInt ≠ 0 ∧ (x (5 + 21 * i) 11).toInt = 0))) ∨ (r.toInt = 1 ∧ ((x (5 + 21 * i) 10).toInt ≠ 0 ∧ ((x (5 + 21 * i + 19) a.toInt.toNat).toInt = 0 ∨ (x (5 + 21 * i) 11).toInt ≠ 0)) ∧ (x2 (5 + 21 * i) 11).toInt = 0 ∧ ∀ k, k < 8 → (x2 (5 + 21 * i + 19) k) = if k = a.toInt.toNat then 1 else if (x (5 + 21 * i) 11).toInt = 0 then (x (5 + 21 * i + 19) k) else 0))) (WO D g) (AQ g)) ([.ref (g.1 (5 + 21 * i)), .int a] : List Value).toArray s 0 0 (AQ g)) (F0 m 53 ls []) := by
    intro x_53 H locs ls hI_53 hT_53 hf53_0 hf53_1 hP hS hl
    refine lv_aload_n S.1 S.2.1 dX2_openFor_53 rfl (lv_at hl 0 rfl) ?_
    refine w_iconst S dX2_openFor_54 (by decide) (fun k1 hk1 => ?_)
    refine w_put (C := RX2) (T := TX2) (N := 15) (F := FPort g (5 + 21 * i)) S (fun _ h => List.mem_cons_of_mem _ (List.mem_append_right _ h)) tyX2_ok nmX2 hK hg hP hS (5 + 21 * i) (by have := h4; omega) (ceP0 h4) rfl 11 (by decide) (hts _ (List.mem_of_getElem? (i := 3) rfl)) rfl (tz_narrow (z01 (by omega) (by omega))) (tz_fits (z01 (by omega) (by omega))) (fun _ => Nat.le_of_ble_eq_true rfl) (fun _ => rfl) dX2_openFor_55 (fun x2 H locs ex2 hP hS => ?_)
    have hI3 : Inv x2 := by rw [ex2]; exact hI_53.upP0 h4 (show (0 : Int) ≤ _ by omega) (show _ ≤ (1 : Int) by omega)
    have hT4 : Same (TCo i) x x2 := by rw [ex2]; exact hT_53.up (by unfold TCo TC TrC; omega)
    have u5 : (x2 (5 + 21 * i) 11).toInt = k1.toInt := by rw [ex2, up2_at]
    have hp58 : ∀ k, (x2 (5 + 21 * i + 19) k) = (x_53 (5 + 21 * i + 19) k) := fun k => by rw [ex2, up2_ne _ _ (by omega)]
    refine lv_aload_n S.1 S.2.1 dX2_openFor_58 rfl (lv_at hl 0 rfl) ?_
    refine w_get (C := RX2) (T := TX2) (N := 15) S (fun _ h => List.mem_cons_of_mem _ (List.mem_append_right _ h)) hK hP (5 + 21 * i) (by have := h4; omega) ((ceP0 h4) _) rfl 7 (by decide) (hts _ (List.mem_of_getElem? (i := 2) rfl)) (v := .ref (g.1 (5 + 21 * i + 19))) rfl dX2_openFor_59 ?_
    refine lv_iload_n S.1 S.2.1 dX2_openFor_62 rfl (lv_at hl 1 rfl) ?_
    refine w_iconst S dX2_openFor_63 (by decide) (fun k6 hk6 => ?_)
    have hv64 : k6 = 1 := t_eq.mpr (by rw [hk6]; rfl)
    refine w_zast S hK hg hP hS (5 + 21 * i + 19) (by have := h4; omega) (ceP19 h4) (z01 (by omega) (by omega)) (by omega) (by omega) dX2_openFor_64 (fun x7 H locs ex7 hP hS => ?_)
    have hI8 : Inv x7 := by rw [ex7]; exact hI3.upP (j := 19) h4 (by decide) (show (0 : Int) ≤ _ by omega) (show _ ≤ (1 : Int) by omega)
    have hT9 : Same (TCo i) x x7 := by rw [ex7]; exact hT4.up (by unfold TCo TC TrC; omega)
    have u10 : (x7 (5 + 21 * i) 11).toInt = (x2 (5 + 21 * i) 11).toInt := by rw [ex7, up2_ne _ _ (by omega)]
    have hp66 : ∀ k, k < 8 → (x7 (5 + 21 * i + 19) k) = if k = a.toInt.toNat then 1 else if (x (5 + 21 * i) 11).toInt = 0 then (x (5 + 21 * i + 19) k) else 0 := by
      intro k hk
      rw [ex7]
      by_cases hk1 : k = a.toInt.toNat
      · rw [if_pos hk1, hk1, up2_at]; exact hv64
      · rw [if_neg hk1, up2_ne _ _ (by omega), hp58 k]; exact hf53_1 k hk
    refine w_iconst S dX2_openFor_65 (by decide) (fun k11 hk11 => ?_)
    exact w_zret S hr0 hlk hP hS dX2_openFor_66 (z01 (by omega) (by omega)) (⟨hI8, hT9, Or.inr ⟨by omega, hf53_0, by omega, hp66⟩⟩)
  have J34 : ∀ (n0 : Nat) (x_34 : St) (H : Heap) (locs : List Loc) (ls : Array Slot) (y34_2 : Int32), Inv x_34 → Same (TCo i) x x_34 → (0 ≤ y34_2.toInt) → (y34_2.toInt ≤ 8) → ((x (5 + 21 * i) 11).toInt ≠ 0) → (∀ k, k < 8 → (x_34 (5 + 21 * i + 19) k) = if (k : Int) < y34_2.toInt then 0 else (x (5 + 21 * i + 19) k)) → ((x (5 + 21 * i) 10).toInt ≠ 0 ∧ ((x (5 + 21 * i + 19) a.toInt.toNat).toInt = 0 ∨ (x (5 + 21 * i) 11).toInt ≠ 0)) → (8 - y34_2.toInt).toNat < n0 → va_P D vwCl (WL g x_34) H → va_S (AQ g) s.heap H locs → lv_has ls 3 [(0, .ref (g.1 (5 + 21 * i))), (1, .int a), (2, .int y34_2)] → W p l e ({ frames := 0, cells := 0, slots := 0, locals := 0 } : Room) s m ([.ref (g.1 (5 + 21 * i)), .int a] : List Value).toArray below meth co H locs 0 0 (MQ below (va_Qi (fun r x2 => Inv x2 ∧ Same (TCo i) x x2 ∧ ((r.toInt = 0 ∧ x2 = x ∧ ((x (5 + 21 * i) 10).toInt = 0 ∨ ((x (5 + 21 * i + 19) a.toInt.toNat).toInt ≠ 0 ∧ (x (5 + 21 * i) 11).toInt = 0))) ∨ (r.toInt = 1 ∧ ((x (5 + 21 * i) 10).toInt ≠ 0 ∧ ((x (5 + 21 * i + 19) a.toInt.toNat).toInt = 0 ∨ (x (5 + 21 * i) 11).toInt ≠ 0)) ∧ (x2 (5 + 21 * i) 11).toInt = 0 ∧ ∀ k, k < 8 → (x2 (5 + 21 * i + 19) k) = if k = a.toInt.toNat then 1 else if (x (5 + 21 * i) 11).toInt = 0 then (x (5 + 21 * i + 19) k) else 0))) (WO D g) (AQ g)) ([.ref (g.1 (5 + 21 * i)), .int a] : List Value).toArray s 0 0 (AQ g)) (F0 m 34 ls []) := by
    intro n0
    induction n0 with
    | zero => intro x_34 H locs ls y34_2 hI_34 hT_34 hf34_0 hf34_1 hf34_2 hf34_3 hf34_4 hm_34 hP hS hl; exact absurd hm_34 (Nat.not_lt_zero _)
    | succ n0 ih34 =>
      intro x_34 H locs ls y34_2 hI_34 hT_34 hf34_0 hf34_1 hf34_2 hf34_3 hf34_4 hm_34 hP hS hl
      refine lv_iload_n S.1 S.2.1 dX2_openFor_34 rfl (lv_at hl 2 rfl) ?_
      refine w_bipush S dX2_openFor_35 (by decide) (fun k12 hk12 => ?_)
      refine w_icmp_ge (tgt := 53) S dX2_openFor_37 (by decide) (fun hb13 => ?_) (fun hb13 => ?_)
      · exact J53 _ _ _ _ hI_34 hT_34 (by omega) (by intro k hk; first | (rw [if_pos (by omega)]; done) | (rw [if_neg (by omega), hf34_3 k hk, if_pos (by omega)])) hP hS (lv_sub hl [0, 1] rfl)
      · refine lv_aload_n S.1 S.2.1 dX2_openFor_40 rfl (lv_at hl 0 rfl) ?_
        refine w_get (C := RX2) (T := TX2) (N := 15) S (fun _ h => List.mem_cons_of_mem _ (List.mem_append_right _ h)) hK hP (5 + 21 * i) (by have := h4; omega) ((ceP0 h4) _) rfl 7 (by decide) (hts _ (List.mem_of_getElem? (i := 2) rfl)) (v := .ref (g.1 (5 + 21 * i + 19))) rfl dX2_openFor_41 ?_
        refine lv_iload_n S.1 S.2.1 dX2_openFor_44 rfl (lv_at hl 2 rfl) ?_
        refine w_iconst S dX2_openFor_45 (by decide) (fun k14 hk14 => ?_)
        have hv46 : k14 = 0 := t_eq.mpr (by rw [hk14]; rfl)
        refine w_zast S hK hg hP hS (5 + 21 * i + 19) (by have := h4; omega) (ceP19 h4) (z01 (by omega) (by omega)) (by omega) (by omega) dX2_openFor_46 (fun x15 H locs ex15 hP hS => ?_)
        have hI16 : Inv x15 := by rw [ex15]; exact hI_34.upP (j := 19) h4 (by decide) (show (0 : Int) ≤ _ by omega) (show _ ≤ (1 : Int) by omega)
        have hT17 : Same (TCo i) x x15 := by rw [ex15]; exact hT_34.up (by unfold TCo TC TrC; omega)
        have u18 : (x15 (5 + 21 * i) 11).toInt = (x_34 (5 + 21 * i) 11).toInt := by rw [ex15, up2_ne _ _ (by omega)]
        have hp47 : ∀ k, k < 8 → (x15 (5 + 21 * i + 19) k) = if (k : Int) < y34_2.toInt + 1 then 0 else (x (5 + 21 * i + 19) k) := by
          intro k hk
          rw [ex15]
          by_cases hk1 : k = y34_2.toInt.toNat
          · rw [hk1, up2_at, if_pos (by omega)]; exact hv46
          · rw [up2_ne _ _ (by omega), hf34_3 k hk]
            by_cases hk2 : (k : Int) < y34_2.toInt
            · rw [if_pos hk2, if_pos (by omega)]
            · rw [if_neg hk2, if_neg (by omega)]
        refine w_iinc (lv' := [(0, .ref (g.1 (5 + 21 * i))), (1, .int a)]) S dX2_openFor_47 hl (k := 2) rfl (by decide) (by decide) (by omega) (by omega) (fun _ => rfl) (fun v19 ls hv19 hl => ?_)
        refine lv_goto (tgt := 34) S.1 S.2.1 dX2_openFor_50 (by decide) ?_
        exact ih34 _ _ _ _ v19 hI16 hT17 (by omega) (by omega) (by omega) (by intro k hk; first | (rw [if_neg (by omega)]; done) | (rw [hp47 k hk]; by_cases h2 : (k : Int) < y34_2.toInt + 1; (rw [if_pos h2, if_pos (by omega)]); (rw [if_neg h2, if_neg (by omega)]))) (by omega) (by omega) hP hS (lv_sub hl [1, 2, 0] rfl)
  have J25 : ∀ (H : Heap) (locs : List Loc) (ls : Array Slot), ((x (5 + 21 * i) 10).toInt ≠ 0 ∧ ((x (5 + 21 * i + 19) a.toInt.toNat).toInt = 0 ∨ (x (5 + 21 * i) 11).toInt ≠ 0)) → va_P D vwCl (WL g x) H → va_S (AQ g) s.heap H locs → lv_has ls 3 [(0, .ref (g.1 (5 + 21 * i))), (1, .int a)] → W p l e ({ frames := 0, cells := 0, slots := 0, locals := 0 } : Room) s m ([.ref (g.1 (5 + 21 * i)), .int a] : List Value).toArray below meth co H locs 0 0 (MQ below (va_Qi (fun r x2 => Inv x2 ∧ Same (TCo i) x x2 ∧ ((r.toInt = 0 ∧ x2 = x ∧ ((x (5 + 21 * i) 10).toInt = 0 ∨ ((x (5 + 21 * i + 19) a.toInt.toNat).toInt ≠ 0 ∧ (x (5 + 21 * i) 11).toInt = 0))) ∨ (r.toInt = 1 ∧ ((x (5 + 21 * i) 10).toInt ≠ 0 ∧ ((x (5 + 21 * i + 19) a.toInt.toNat).toInt = 0 ∨ (x (5 + 21 * i) 11).toInt ≠ 0)) ∧ (x2 (5 + 21 * i) 11).toInt = 0 ∧ ∀ k, k < 8 → (x2 (5 + 21 * i + 19) k) = if k = a.toInt.toNat then 1 else if (x (5 + 21 * i) 11).toInt = 0 then (x (5 + 21 * i + 19) k) else 0))) (WO D g) (AQ g)) ([.ref (g.1 (5 + 21 * i)), .int a] : List Value).toArray s 0 0 (AQ g)) (F0 m 25 ls []) := by
    intro H locs ls hf25_0 hP hS hl
    refine lv_aload_n S.1 S.2.1 dX2_openFor_25 rfl (lv_at hl 0 rfl) ?_
    refine w_get (C := RX2) (T := TX2) (N := 15) S (fun _ h => List.mem_cons_of_mem _ (List.mem_append_right _ h)) hK hP (5 + 21 * i) (by have := h4; omega) ((ceP0 h4) _) rfl 11 (by decide) (hts _ (List.mem_of_getElem? (i := 3) rfl)) (v := .int (x (5 + 21 * i) 11)) rfl dX2_openFor_26 ?_
    refine lv_topi (fun v20 ev20 => ?_)
    have wv20 : v20.toInt = (x (5 + 21 * i) 11).toInt := by rw [ev20]
    have rv20 : (0 : Int) ≤ v20.toInt ∧ v20.toInt ≤ (1 : Int) := by rw [ev20]; exact hI.atP0 (k := 11) h4
    refine w_if_eq (tgt := 53) S dX2_openFor_29 (by decide) (fun hb21 => ?_) (fun hb21 => ?_)
    · exact J53 _ _ _ _ hI hT (by omega) (by intro k hk; first | (rw [if_pos (by omega)]; done) | (rw [if_neg (by omega), hf34_3 k hk, if_pos (by omega)])) hP hS (lv_sub hl [0, 1] rfl)
    · refine w_iconst S dX2_openFor_32 (by decide) (fun k22 hk22 => ?_)
      refine lv_istore_n (lv' := [(2, .int k22), (0, .ref (g.1 (5 + 21 * i))), (1, .int a)]) S.1 S.2.1 dX2_openFor_33 rfl hl (by decide) rfl (fun ls hl => ?_)
      exact J34 _ _ _ _ _ k22 hI hT (by omega) (by omega) (by omega) (by intro k hk; first | (rw [if_neg (by omega)]; done) | (rw [hp47 k hk]; by_cases h2 : (k : Int) < y34_2.toInt + 1; (rw [if_pos h2, if_pos (by omega)]); (rw [if_neg h2, if_neg (by omega)]))) (by omega) (Nat.lt_succ_self _) hP hS (lv_sub hl [1, 2, 0] rfl)
  refine lv_aload_n S.1 S.2.1 dX2_openFor_0 rfl (lv_at hl 0 rfl) ?_
  refine w_get (C := RX2) (T := TX2) (N := 15) S (fun _ h => List.mem_cons_of_mem _ (List.mem_append_right _ h)) hK hP (5 + 21 * i) (by have := h4; omega) ((ceP0 h4) _) rfl 10 (by decide) (hts _ (List.mem_of_getElem? (i := 1) rfl)) (v := .int (x (5 + 21 * i) 10)) rfl dX2_openFor_1 ?_
  refine lv_topi (fun v23 ev23 => ?_)
  have wv23 : v23.toInt = (x (5 + 21 * i) 10).toInt := by rw [ev23]
  have rv23 : (0 : Int) ≤ v23.toInt ∧ v23.toInt ≤ (1 : Int) := by rw [ev23]; exact hI.atP0 (k := 10) h4
  refine w_if_eq (tgt := 23) S dX2_openFor_4 (by decide) (fun hb24 => ?_) (fun hb24 => ?_)
  · refine w_iconst S dX2_openFor_23 (by decide) (fun k25 hk25 => ?_)
    exact w_zret S hr0 hlk hP hS dX2_openFor_24 (z01 (by omega) (by omega)) (⟨hI, hT, Or.inl ⟨by omega, rfl, by omega⟩⟩)
  · refine lv_aload_n S.1 S.2.1 dX2_openFor_7 rfl (lv_at hl 0 rfl) ?_
    refine w_get (C := RX2) (T := TX2) (N := 15) S (fun _ h => List.mem_cons_of_mem _ (List.mem_append_right _ h)) hK hP (5 + 21 * i) (by have := h4; omega) ((ceP0 h4) _) rfl 7 (by decide) (hts _ (List.mem_of_getElem? (i := 2) rfl)) (v := .ref (g.1 (5 + 21 * i + 19))) rfl dX2_openFor_8 ?_
    refine lv_iload_n S.1 S.2.1 dX2_openFor_11 rfl (lv_at hl 1 rfl) ?_
    refine w_zald S hK hP (5 + 21 * i + 19) (by have := h4; omega) (ceP19 h4) (by omega) (by omega) dX2_openFor_12 (fun v26 ev26 => ?_)
    have wv26 : v26.toInt = (x (5 + 21 * i + 19) a.toInt.toNat).toInt := by rw [ev26]
    have rv26 : (0 : Int) ≤ v26.toInt ∧ v26.toInt ≤ (1 : Int) := by rw [ev26]; exact hI.atP (j := 19) (k := _) h4 (by decide)
    refine w_if_eq (tgt := 25) S dX2_openFor_13 (by decide) (fun hb27 => ?_) (fun hb27 => ?_)
    · exact J25 _ _ _ (by omega) hP hS (lv_sub hl [0, 1] rfl)
    · refine lv_aload_n S.1 S.2.1 dX2_openFor_16 rfl (lv_at hl 0 rfl) ?_
      refine w_get (C := RX2) (T := TX2) (N := 15) S (fun _ h => List.mem_cons_of_mem _ (List.mem_append_right _ h)) hK hP (5 + 21 * i) (by have := h4; omega) ((ceP0 h4) _) rfl 11 (by decide) (hts _ (List.mem_of_getElem? (i := 3) rfl)) (v := .int (x (5 + 21 * i) 11)) rfl dX2_openFor_17 ?_
      refine lv_topi (fun v28 ev28 => ?_)
      have wv28 : v28.toInt = (x (5 + 21 * i) 11).toInt := by rw [ev28]
      have rv28 : (0 : Int) ≤ v28.toInt ∧ v28.toInt ≤ (1 : Int) := by rw [ev28]; exact hI.atP0 (k := 11) h4
      refine w_if_ne (tgt := 25) S dX2_openFor_20 (by decide) (fun hb29 => ?_) (fun hb29 => ?_)
      · exact J25 _ _ _ (by omega) hP hS (lv_sub hl [0, 1] rfl)
      · refine w_iconst S dX2_openFor_23 (by decide) (fun k30 hk30 => ?_)
        exact w_zret S hr0 hlk hP hS dX2_openFor_24 (z01 (by omega) (by omega)) (⟨hI, hT, Or.inl ⟨by omega, rfl, by omega⟩⟩)
