set_option maxRecDepth 100000 in
set_option maxHeartbeats 4000000 in
theorem c_X3_fits (l : Launch) (D : va_G) (g : GA) (hg : Inj g) (x : St) (hI : Inv x) (c n : Nat) (hr : IsRow g c n) (more : Int32) : Met l yX3_fits wsX3_fits ({ frames := 0, cells := 0, slots := 0, locals := 0 } : Room) (va_Pc [.ref (g.1 c), .int more] (WI D g x)) (va_Qi (fun r x2 => x2 = x ∧ ((r.toInt = 1 ∧ more.toInt ≤ n - (x c 2).toInt) ∨ (r.toInt = 0 ∧ n - (x c 2).toInt < more.toInt))) (WO D g) (AQ g)) 0 0 (AQ g) := by
  refine w_met (cc := cX3_fits) (maxL := 2) (ret := (some .boolean)) (own := RX3) (by decide) rfl rfl (Nat.le_of_ble_eq_true rfl) (fun p e s m below meth co S hr0 hlk hK hN hP hS ls hl => ?_)
  have hts := S.2.2.2.2
  have hl : lv_has ls 2 [(0, .ref (g.1 c)), (1, .int more)] := hl
  have hn := hr.2.2.2.1
  refine lv_iload_n S.1 S.2.1 dX3_fits_0 rfl (lv_at hl 1 rfl) ?_
  refine lv_aload_n S.1 S.2.1 dX3_fits_1 rfl (lv_at hl 0 rfl) ?_
  refine w_get (C := RX3) (T := TX3) (N := 3) S (fun _ h => List.mem_cons_of_mem _ (List.mem_append_right _ h)) hK hP c hr.lt (hr.2.1 _) rfl 0 (by decide) (hts _ (List.mem_of_getElem? (i := 1) rfl)) (v := .ref (g.1 (c + 1))) rfl dX3_fits_2 ?_
  refine w_alen S hK hP (c + 1) hr.lt1 hr.2.2.1 (by have := hr.2.2.2.1; omega) dX3_fits_5 (fun v1 hv1 => ?_)
  refine lv_aload_n S.1 S.2.1 dX3_fits_6 rfl (lv_at hl 0 rfl) ?_
  refine w_get (C := RX3) (T := TX3) (N := 3) S (fun _ h => List.mem_cons_of_mem _ (List.mem_append_right _ h)) hK hP c hr.lt (hr.2.1 _) rfl 2 (by decide) (hts _ (List.mem_of_getElem? (i := 2) rfl)) (v := .int (x c 2)) rfl dX3_fits_7 ?_
  refine lv_topi (fun v2 ev2 => ?_)
  have wv2 : v2.toInt = (x c 2).toInt := by rw [ev2]
  have rv2 := hr.size hI; rw [← ev2] at rv2
  refine w_isub S dX3_fits_10 (by omega) (by omega) (fun v3 hv3 => ?_)
  refine w_icmp_gt (tgt := 18) S dX3_fits_11 (by decide) (fun hb4 => ?_) (fun hb4 => ?_)
  · refine w_iconst S dX3_fits_18 (by decide) (fun k5 hk5 => ?_)
    exact w_zret S hr0 hlk hP hS dX3_fits_19 (z01 (by omega) (by omega)) (⟨rfl, by omega⟩)
  · refine w_iconst S dX3_fits_14 (by decide) (fun k6 hk6 => ?_)
    refine lv_goto (tgt := 19) S.1 S.2.1 dX3_fits_15 (by decide) ?_
    exact w_zret S hr0 hlk hP hS dX3_fits_19 (z01 (by omega) (by omega)) (⟨rfl, by omega⟩)
set_option maxRecDepth 100000 in
set_option maxHeartbeats 4000000 in
theorem c_X3_add (l : Launch) (D : va_G) (g : GA) (hg : Inj g) (x : St) (hI : Inv x) (c n : Nat) (hr : IsRow g c n) (b : Int32) : Met l yX3_add wsX3_add ({ frames := 0, cells := 0, slots := 0, locals := 0 } : Room) (va_Pc [.ref (g.1 c), .int b] (WI D g x)) (va_Qv (fun x2 => Inv x2 ∧ Same (TR c) x x2 ∧ ((x c 2).toInt < n → (x2 c 2).toInt = (x c 2).toInt + 1) ∧ ((x c 2).toInt = n → (x2 c 2).toInt = (x c 2).toInt)) (WO D g) (AQ g)) 0 0 (AQ g) := by
  refine w_met (cc := cX3_add) (maxL := 3) (ret := none) (own := RX3) (by decide) rfl rfl (Nat.le_of_ble_eq_true rfl) (fun p e s m below meth co S hr0 hlk hK hN hP hS ls hl => ?_)
  have hts := S.2.2.2.2
  have hl : lv_has ls 3 [(0, .ref (g.1 c)), (1, .int b)] := hl
  have hT : Same (TR c) x x := Same.rf
  have hn := hr.2.2.2.1
  refine lv_aload_n S.1 S.2.1 dX3_add_0 rfl (lv_at hl 0 rfl) ?_
  refine w_get (C := RX3) (T := TX3) (N := 3) S (fun _ h => List.mem_cons_of_mem _ (List.mem_append_right _ h)) hK hP c hr.lt (hr.2.1 _) rfl 2 (by decide) (hts _ (List.mem_of_getElem? (i := 1) rfl)) (v := .int (x c 2)) rfl dX3_add_1 ?_
  refine lv_topi (fun v1 ev1 => ?_)
  have wv1 : v1.toInt = (x c 2).toInt := by rw [ev1]
  have rv1 := hr.size hI; rw [← ev1] at rv1
  refine lv_aload_n S.1 S.2.1 dX3_add_4 rfl (lv_at hl 0 rfl) ?_
  refine w_get (C := RX3) (T := TX3) (N := 3) S (fun _ h => List.mem_cons_of_mem _ (List.mem_append_right _ h)) hK hP c hr.lt (hr.2.1 _) rfl 0 (by decide) (hts _ (List.mem_of_getElem? (i := 2) rfl)) (v := .ref (g.1 (c + 1))) rfl dX3_add_5 ?_
  refine w_alen S hK hP (c + 1) hr.lt1 hr.2.2.1 (by have := hr.2.2.2.1; omega) dX3_add_8 (fun v2 hv2 => ?_)
  refine w_icmp_ge (tgt := 58) S dX3_add_9 (by decide) (fun hb3 => ?_) (fun hb3 => ?_)
  · exact w_vret S hr0 hlk hP hS dX3_add_58 (⟨hI, hT, by omega, by omega⟩)
  · refine lv_aload_n S.1 S.2.1 dX3_add_12 rfl (lv_at hl 0 rfl) ?_
    refine w_get (C := RX3) (T := TX3) (N := 3) S (fun _ h => List.mem_cons_of_mem _ (List.mem_append_right _ h)) hK hP c hr.lt (hr.2.1 _) rfl 1 (by decide) (hts _ (List.mem_of_getElem? (i := 3) rfl)) (v := .int (x c 1)) rfl dX3_add_13 ?_
    refine lv_topi (fun v4 ev4 => ?_)
    have wv4 : v4.toInt = (x c 1).toInt := by rw [ev4]
    have rv4 := hr.first hI; rw [← ev4] at rv4
    refine lv_aload_n S.1 S.2.1 dX3_add_16 rfl (lv_at hl 0 rfl) ?_
    refine w_get (C := RX3) (T := TX3) (N := 3) S (fun _ h => List.mem_cons_of_mem _ (List.mem_append_right _ h)) hK hP c hr.lt (hr.2.1 _) rfl 2 (by decide) (hts _ (List.mem_of_getElem? (i := 1) rfl)) (v := .int (x c 2)) rfl dX3_add_17 ?_
    refine lv_topi (fun v5 ev5 => ?_)
    have wv5 : v5.toInt = (x c 2).toInt := by rw [ev5]
    have rv5 := hr.size hI; rw [← ev5] at rv5
    refine w_iadd S dX3_add_20 (by omega) (by omega) (fun v6 hv6 => ?_)
    refine lv_istore_n (lv' := [(2, .int v6), (0, .ref (g.1 c)), (1, .int b)]) S.1 S.2.1 dX3_add_21 rfl hl (by decide) rfl (fun ls hl => ?_)
    refine lv_aload_n S.1 S.2.1 dX3_add_22 rfl (lv_at hl 1 rfl) ?_
    refine w_get (C := RX3) (T := TX3) (N := 3) S (fun _ h => List.mem_cons_of_mem _ (List.mem_append_right _ h)) hK hP c hr.lt (hr.2.1 _) rfl 0 (by decide) (hts _ (List.mem_of_getElem? (i := 2) rfl)) (v := .ref (g.1 (c + 1))) rfl dX3_add_23 ?_
    refine lv_iload_n S.1 S.2.1 dX3_add_26 rfl (lv_at hl 0 rfl) ?_
    refine lv_aload_n S.1 S.2.1 dX3_add_27 rfl (lv_at hl 1 rfl) ?_
    refine w_get (C := RX3) (T := TX3) (N := 3) S (fun _ h => List.mem_cons_of_mem _ (List.mem_append_right _ h)) hK hP c hr.lt (hr.2.1 _) rfl 0 (by decide) (hts _ (List.mem_of_getElem? (i := 2) rfl)) (v := .ref (g.1 (c + 1))) rfl dX3_add_28 ?_
    refine w_alen S hK hP (c + 1) hr.lt1 hr.2.2.1 (by have := hr.2.2.2.1; omega) dX3_add_31 (fun v7 hv7 => ?_)
    refine w_icmp_ge (tgt := 39) S dX3_add_32 (by decide) (fun hb8 => ?_) (fun hb8 => ?_)
    · refine lv_iload_n S.1 S.2.1 dX3_add_39 rfl (lv_at hl 0 rfl) ?_
      refine lv_aload_n S.1 S.2.1 dX3_add_40 rfl (lv_at hl 1 rfl) ?_
      refine w_get (C := RX3) (T := TX3) (N := 3) S (fun _ h => List.mem_cons_of_mem _ (List.mem_append_right _ h)) hK hP c hr.lt (hr.2.1 _) rfl 0 (by decide) (hts _ (List.mem_of_getElem? (i := 2) rfl)) (v := .ref (g.1 (c + 1))) rfl dX3_add_41 ?_
      refine w_alen S hK hP (c + 1) hr.lt1 hr.2.2.1 (by have := hr.2.2.2.1; omega) dX3_add_44 (fun v9 hv9 => ?_)
      refine w_isub S dX3_add_45 (by omega) (by omega) (fun v10 hv10 => ?_)
      refine lv_iload_n S.1 S.2.1 dX3_add_46 rfl (lv_at hl 2 rfl) ?_
      refine w_iast S hK hg hP hS (c + 1) hr.lt1 hr.2.2.1 (by omega) (by omega) dX3_add_47 (fun x11 H locs ex11 hP hS => ?_)
      have hI12 : Inv x11 := by rw [ex11]; exact hr.upA hI
      have hT13 : Same (TR c) x x11 := by rw [ex11]; exact hT.up (by unfold TR; omega)
      have u14 : (x11 c 1).toInt = (x c 1).toInt := by rw [ex11, up2_ne _ _ (by omega)]
      have u15 : (x11 c 2).toInt = (x c 2).toInt := by rw [ex11, up2_ne _ _ (by omega)]
      refine lv_aload_n S.1 S.2.1 dX3_add_48 rfl (lv_at hl 1 rfl) ?_
      refine lv_dup S.1 S.2.1 dX3_add_49 rfl ?_
      refine w_get (C := RX3) (T := TX3) (N := 3) S (fun _ h => List.mem_cons_of_mem _ (List.mem_append_right _ h)) hK hP c hr.lt (hr.2.1 _) rfl 2 (by decide) (hts _ (List.mem_of_getElem? (i := 1) rfl)) (v := .int (x11 c 2)) rfl dX3_add_50 ?_
      refine lv_topi (fun v16 ev16 => ?_)
      have wv16 : v16.toInt = (x11 c 2).toInt := by rw [ev16]
      have rv16 := hr.size hI12; rw [← ev16] at rv16
      refine w_iconst S dX3_add_53 (by decide) (fun k17 hk17 => ?_)
      refine w_iadd S dX3_add_54 (by omega) (by omega) (fun v18 hv18 => ?_)
      refine w_put (C := RX3) (T := TX3) (N := 3) (F := FRow g (c + 1)) S (fun _ h => List.mem_cons_of_mem _ (List.mem_append_right _ h)) tyX3_ok nmX3 hK hg hP hS c hr.lt hr.2.1 rfl 2 (by decide) (hts _ (List.mem_of_getElem? (i := 1) rfl)) rfl rfl rfl (fun _ => Nat.le_of_ble_eq_true rfl) (fun _ => rfl) dX3_add_55 (fun x19 H locs ex19 hP hS => ?_)
      have hI20 : Inv x19 := by rw [ex19]; exact hr.upS hI12 (by omega) (by omega)
      have hT21 : Same (TR c) x x19 := by rw [ex19]; exact hT13.up (by unfold TR; omega)
      have u22 : (x19 c 1).toInt = (x11 c 1).toInt := by rw [ex19, up2_ne _ _ (by omega)]
      have u23 : (x19 c 2).toInt = v18.toInt := by rw [ex19, up2_at]
      exact w_vret S hr0 hlk hP hS dX3_add_58 (⟨hI20, hT21, by omega, by omega⟩)
    · refine lv_iload_n S.1 S.2.1 dX3_add_35 rfl (lv_at hl 0 rfl) ?_
      refine lv_goto (tgt := 46) S.1 S.2.1 dX3_add_36 (by decide) ?_
      refine lv_iload_n S.1 S.2.1 dX3_add_46 rfl (lv_at hl 2 rfl) ?_
      refine w_iast S hK hg hP hS (c + 1) hr.lt1 hr.2.2.1 (by omega) (by omega) dX3_add_47 (fun x24 H locs ex24 hP hS => ?_)
      have hI25 : Inv x24 := by rw [ex24]; exact hr.upA hI
      have hT26 : Same (TR c) x x24 := by rw [ex24]; exact hT.up (by unfold TR; omega)
      have u27 : (x24 c 1).toInt = (x c 1).toInt := by rw [ex24, up2_ne _ _ (by omega)]
      have u28 : (x24 c 2).toInt = (x c 2).toInt := by rw [ex24, up2_ne _ _ (by omega)]
      refine lv_aload_n S.1 S.2.1 dX3_add_48 rfl (lv_at hl 1 rfl) ?_
      refine lv_dup S.1 S.2.1 dX3_add_49 rfl ?_
      refine w_get (C := RX3) (T := TX3) (N := 3) S (fun _ h => List.mem_cons_of_mem _ (List.mem_append_right _ h)) hK hP c hr.lt (hr.2.1 _) rfl 2 (by decide) (hts _ (List.mem_of_getElem? (i := 1) rfl)) (v := .int (x24 c 2)) rfl dX3_add_50 ?_
      refine lv_topi (fun v29 ev29 => ?_)
      have wv29 : v29.toInt = (x24 c 2).toInt := by rw [ev29]
      have rv29 := hr.size hI25; rw [← ev29] at rv29
      refine w_iconst S dX3_add_53 (by decide) (fun k30 hk30 => ?_)
      refine w_iadd S dX3_add_54 (by omega) (by omega) (fun v31 hv31 => ?_)
      refine w_put (C := RX3) (T := TX3) (N := 3) (F := FRow g (c + 1)) S (fun _ h => List.mem_cons_of_mem _ (List.mem_append_right _ h)) tyX3_ok nmX3 hK hg hP hS c hr.lt hr.2.1 rfl 2 (by decide) (hts _ (List.mem_of_getElem? (i := 1) rfl)) rfl rfl rfl (fun _ => Nat.le_of_ble_eq_true rfl) (fun _ => rfl) dX3_add_55 (fun x32 H locs ex32 hP hS => ?_)
      have hI33 : Inv x32 := by rw [ex32]; exact hr.upS hI25 (by omega) (by omega)
      have hT34 : Same (TR c) x x32 := by rw [ex32]; exact hT26.up (by unfold TR; omega)
      have u35 : (x32 c 1).toInt = (x24 c 1).toInt := by rw [ex32, up2_ne _ _ (by omega)]
      have u36 : (x32 c 2).toInt = v31.toInt := by rw [ex32, up2_at]
      exact w_vret S hr0 hlk hP hS dX3_add_58 (⟨hI33, hT34, by omega, by omega⟩)
set_option maxRecDepth 100000 in
set_option maxHeartbeats 4000000 in
theorem c_X3_at (l : Launch) (D : va_G) (g : GA) (hg : Inj g) (x : St) (hI : Inv x) (c n : Nat) (hr : IsRow g c n) (k : Int32) : Met l yX3_at wsX3_at ({ frames := 0, cells := 0, slots := 0, locals := 0 } : Room) (va_Pc [.ref (g.1 c), .int k] (WI D g x)) (va_Qi (fun _ x2 => x2 = x ∧ True) (WO D g) (AQ g)) 0 0 (AQ g) := by
  refine w_met (cc := cX3_at) (maxL := 3) (ret := (some .int)) (own := RX3) (by decide) rfl rfl (Nat.le_of_ble_eq_true rfl) (fun p e s m below meth co S hr0 hlk hK hN hP hS ls hl => ?_)
  have hts := S.2.2.2.2
  have hl : lv_has ls 3 [(0, .ref (g.1 c)), (1, .int k)] := hl
  have hn := hr.2.2.2.1
  refine lv_iload_n S.1 S.2.1 dX3_at_0 rfl (lv_at hl 1 rfl) ?_
  refine w_if_lt (tgt := 12) S dX3_at_1 (by decide) (fun hb1 => ?_) (fun hb1 => ?_)
  · refine w_iconst S dX3_at_12 (by decide) (fun k2 hk2 => ?_)
    exact w_iret S hr0 hlk hP hS dX3_at_13 (⟨rfl, trivial⟩)
  · refine lv_iload_n S.1 S.2.1 dX3_at_4 rfl (lv_at hl 1 rfl) ?_
    refine lv_aload_n S.1 S.2.1 dX3_at_5 rfl (lv_at hl 0 rfl) ?_
    refine w_get (C := RX3) (T := TX3) (N := 3) S (fun _ h => List.mem_cons_of_mem _ (List.mem_append_right _ h)) hK hP c hr.lt (hr.2.1 _) rfl 2 (by decide) (hts _ (List.mem_of_getElem? (i := 1) rfl)) (v := .int (x c 2)) rfl dX3_at_6 ?_
    refine lv_topi (fun v3 ev3 => ?_)
    have wv3 : v3.toInt = (x c 2).toInt := by rw [ev3]
    have rv3 := hr.size hI; rw [← ev3] at rv3
    refine w_icmp_lt (tgt := 14) S dX3_at_9 (by decide) (fun hb4 => ?_) (fun hb4 => ?_)
    · refine lv_aload_n S.1 S.2.1 dX3_at_14 rfl (lv_at hl 0 rfl) ?_
      refine w_get (C := RX3) (T := TX3) (N := 3) S (fun _ h => List.mem_cons_of_mem _ (List.mem_append_right _ h)) hK hP c hr.lt (hr.2.1 _) rfl 1 (by decide) (hts _ (List.mem_of_getElem? (i := 2) rfl)) (v := .int (x c 1)) rfl dX3_at_15 ?_
      refine lv_topi (fun v5 ev5 => ?_)
      have wv5 : v5.toInt = (x c 1).toInt := by rw [ev5]
      have rv5 := hr.first hI; rw [← ev5] at rv5
      refine lv_iload_n S.1 S.2.1 dX3_at_18 rfl (lv_at hl 1 rfl) ?_
      refine w_iadd S dX3_at_19 (by omega) (by omega) (fun v6 hv6 => ?_)
      refine lv_istore_n (lv' := [(2, .int v6), (0, .ref (g.1 c)), (1, .int k)]) S.1 S.2.1 dX3_at_20 rfl hl (by decide) rfl (fun ls hl => ?_)
      refine lv_aload_n S.1 S.2.1 dX3_at_21 rfl (lv_at hl 1 rfl) ?_
      refine w_get (C := RX3) (T := TX3) (N := 3) S (fun _ h => List.mem_cons_of_mem _ (List.mem_append_right _ h)) hK hP c hr.lt (hr.2.1 _) rfl 0 (by decide) (hts _ (List.mem_of_getElem? (i := 3) rfl)) (v := .ref (g.1 (c + 1))) rfl dX3_at_22 ?_
      refine lv_iload_n S.1 S.2.1 dX3_at_25 rfl (lv_at hl 0 rfl) ?_
      refine lv_aload_n S.1 S.2.1 dX3_at_26 rfl (lv_at hl 1 rfl) ?_
      refine w_get (C := RX3) (T := TX3) (N := 3) S (fun _ h => List.mem_cons_of_mem _ (List.mem_append_right _ h)) hK hP c hr.lt (hr.2.1 _) rfl 0 (by decide) (hts _ (List.mem_of_getElem? (i := 3) rfl)) (v := .ref (g.1 (c + 1))) rfl dX3_at_27 ?_
      refine w_alen S hK hP (c + 1) hr.lt1 hr.2.2.1 (by have := hr.2.2.2.1; omega) dX3_at_30 (fun v7 hv7 => ?_)
      refine w_icmp_ge (tgt := 38) S dX3_at_31 (by decide) (fun hb8 => ?_) (fun hb8 => ?_)
      · refine lv_iload_n S.1 S.2.1 dX3_at_38 rfl (lv_at hl 0 rfl) ?_
        refine lv_aload_n S.1 S.2.1 dX3_at_39 rfl (lv_at hl 1 rfl) ?_
        refine w_get (C := RX3) (T := TX3) (N := 3) S (fun _ h => List.mem_cons_of_mem _ (List.mem_append_right _ h)) hK hP c hr.lt (hr.2.1 _) rfl 0 (by decide) (hts _ (List.mem_of_getElem? (i := 3) rfl)) (v := .ref (g.1 (c + 1))) rfl dX3_at_40 ?_
        refine w_alen S hK hP (c + 1) hr.lt1 hr.2.2.1 (by have := hr.2.2.2.1; omega) dX3_at_43 (fun v9 hv9 => ?_)
        refine w_isub S dX3_at_44 (by omega) (by omega) (fun v10 hv10 => ?_)
        refine w_iald S hK hP (c + 1) hr.lt1 hr.2.2.1 (by omega) (by omega) dX3_at_45 (fun v11 ev11 => ?_)
        have wv11 : v11.toInt = (x (c + 1) v10.toInt.toNat).toInt := by rw [ev11]
        exact w_iret S hr0 hlk hP hS dX3_at_46 (⟨rfl, trivial⟩)
      · refine lv_iload_n S.1 S.2.1 dX3_at_34 rfl (lv_at hl 0 rfl) ?_
        refine lv_goto (tgt := 45) S.1 S.2.1 dX3_at_35 (by decide) ?_
        refine w_iald S hK hP (c + 1) hr.lt1 hr.2.2.1 (by omega) (by omega) dX3_at_45 (fun v12 ev12 => ?_)
        have wv12 : v12.toInt = (x (c + 1) v6.toInt.toNat).toInt := by rw [ev12]
        exact w_iret S hr0 hlk hP hS dX3_at_46 (⟨rfl, trivial⟩)
    · refine w_iconst S dX3_at_12 (by decide) (fun k13 hk13 => ?_)
      exact w_iret S hr0 hlk hP hS dX3_at_13 (⟨rfl, trivial⟩)
set_option maxRecDepth 100000 in
set_option maxHeartbeats 4000000 in
theorem c_X3_takeFirst (l : Launch) (D : va_G) (g : GA) (hg : Inj g) (x : St) (hI : Inv x) (c n : Nat) (hr : IsRow g c n) : Met l yX3_takeFirst wsX3_takeFirst ({ frames := 0, cells := 0, slots := 0, locals := 0 } : Room) (va_Pc [.ref (g.1 c)] (WI D g x)) (va_Qi (fun r x2 => Inv x2 ∧ Same (TR c) x x2 ∧ ((x c 2).toInt = 0 → r.toInt = -1 ∧ (x2 c 2).toInt = 0) ∧ (0 < (x c 2).toInt → (x2 c 2).toInt = (x c 2).toInt - 1)) (WO D g) (AQ g)) 0 0 (AQ g) := by
  refine w_met (cc := cX3_takeFirst) (maxL := 2) (ret := (some .int)) (own := RX3) (by decide) rfl rfl (Nat.le_of_ble_eq_true rfl) (fun p e s m below meth co S hr0 hlk hK hN hP hS ls hl => ?_)
  have hts := S.2.2.2.2
  have hl : lv_has ls 2 [(0, .ref (g.1 c))] := hl
  have hT : Same (TR c) x x := Same.rf
  have hn := hr.2.2.2.1
  refine lv_aload_n S.1 S.2.1 dX3_takeFirst_0 rfl (lv_at hl 0 rfl) ?_
  refine w_get (C := RX3) (T := TX3) (N := 3) S (fun _ h => List.mem_cons_of_mem _ (List.mem_append_right _ h)) hK hP c hr.lt (hr.2.1 _) rfl 2 (by decide) (hts _ (List.mem_of_getElem? (i := 1) rfl)) (v := .int (x c 2)) rfl dX3_takeFirst_1 ?_
  refine lv_topi (fun v1 ev1 => ?_)
  have wv1 : v1.toInt = (x c 2).toInt := by rw [ev1]
  have rv1 := hr.size hI; rw [← ev1] at rv1
  refine w_if_ne (tgt := 9) S dX3_takeFirst_4 (by decide) (fun hb2 => ?_) (fun hb2 => ?_)
  · refine lv_aload_n S.1 S.2.1 dX3_takeFirst_9 rfl (lv_at hl 0 rfl) ?_
    refine w_get (C := RX3) (T := TX3) (N := 3) S (fun _ h => List.mem_cons_of_mem _ (List.mem_append_right _ h)) hK hP c hr.lt (hr.2.1 _) rfl 0 (by decide) (hts _ (List.mem_of_getElem? (i := 2) rfl)) (v := .ref (g.1 (c + 1))) rfl dX3_takeFirst_10 ?_
    refine lv_aload_n S.1 S.2.1 dX3_takeFirst_13 rfl (lv_at hl 0 rfl) ?_
    refine w_get (C := RX3) (T := TX3) (N := 3) S (fun _ h => List.mem_cons_of_mem _ (List.mem_append_right _ h)) hK hP c hr.lt (hr.2.1 _) rfl 1 (by decide) (hts _ (List.mem_of_getElem? (i := 3) rfl)) (v := .int (x c 1)) rfl dX3_takeFirst_14 ?_
    refine lv_topi (fun v3 ev3 => ?_)
    have wv3 : v3.toInt = (x c 1).toInt := by rw [ev3]
    have rv3 := hr.first hI; rw [← ev3] at rv3
    refine w_iald S hK hP (c + 1) hr.lt1 hr.2.2.1 (by omega) (by omega) dX3_takeFirst_17 (fun v4 ev4 => ?_)
    have wv4 : v4.toInt = (x (c + 1) v3.toInt.toNat).toInt := by rw [ev4]
    refine lv_istore_n (lv' := [(1, .int v4), (0, .ref (g.1 c))]) S.1 S.2.1 dX3_takeFirst_18 rfl hl (by decide) rfl (fun ls hl => ?_)
    refine lv_aload_n S.1 S.2.1 dX3_takeFirst_19 rfl (lv_at hl 1 rfl) ?_
    refine lv_aload_n S.1 S.2.1 dX3_takeFirst_20 rfl (lv_at hl 1 rfl) ?_
    refine w_get (C := RX3) (T := TX3) (N := 3) S (fun _ h => List.mem_cons_of_mem _ (List.mem_append_right _ h)) hK hP c hr.lt (hr.2.1 _) rfl 1 (by decide) (hts _ (List.mem_of_getElem? (i := 3) rfl)) (v := .int (x c 1)) rfl dX3_takeFirst_21 ?_
    refine lv_topi (fun v5 ev5 => ?_)
    have wv5 : v5.toInt = (x c 1).toInt := by rw [ev5]
    have rv5 := hr.first hI; rw [← ev5] at rv5
    refine w_iconst S dX3_takeFirst_24 (by decide) (fun k6 hk6 => ?_)
    refine w_iadd S dX3_takeFirst_25 (by omega) (by omega) (fun v7 hv7 => ?_)
    refine lv_aload_n S.1 S.2.1 dX3_takeFirst_26 rfl (lv_at hl 1 rfl) ?_
    refine w_get (C := RX3) (T := TX3) (N := 3) S (fun _ h => List.mem_cons_of_mem _ (List.mem_append_right _ h)) hK hP c hr.lt (hr.2.1 _) rfl 0 (by decide) (hts _ (List.mem_of_getElem? (i := 2) rfl)) (v := .ref (g.1 (c + 1))) rfl dX3_takeFirst_27 ?_
    refine w_alen S hK hP (c + 1) hr.lt1 hr.2.2.1 (by have := hr.2.2.2.1; omega) dX3_takeFirst_30 (fun v8 hv8 => ?_)
    refine w_icmp_ge (tgt := 43) S dX3_takeFirst_31 (by decide) (fun hb9 => ?_) (fun hb9 => ?_)
    · refine w_iconst S dX3_takeFirst_43 (by decide) (fun k10 hk10 => ?_)
      refine w_put (C := RX3) (T := TX3) (N := 3) (F := FRow g (c + 1)) S (fun _ h => List.mem_cons_of_mem _ (List.mem_append_right _ h)) tyX3_ok nmX3 hK hg hP hS c hr.lt hr.2.1 rfl 1 (by decide) (hts _ (List.mem_of_getElem? (i := 3) rfl)) rfl rfl rfl (fun _ => Nat.le_of_ble_eq_true rfl) (fun _ => rfl) dX3_takeFirst_44 (fun x11 H locs ex11 hP hS => ?_)
      have hI12 : Inv x11 := by rw [ex11]; exact hr.upF hI (by omega) (by omega)
      have hT13 : Same (TR c) x x11 := by rw [ex11]; exact hT.up (by unfold TR; omega)
      have u14 : (x11 c 1).toInt = k10.toInt := by rw [ex11, up2_at]
      have u15 : (x11 c 2).toInt = (x c 2).toInt := by rw [ex11, up2_ne _ _ (by omega)]
      refine lv_aload_n S.1 S.2.1 dX3_takeFirst_47 rfl (lv_at hl 1 rfl) ?_
      refine lv_dup S.1 S.2.1 dX3_takeFirst_48 rfl ?_
      refine w_get (C := RX3) (T := TX3) (N := 3) S (fun _ h => List.mem_cons_of_mem _ (List.mem_append_right _ h)) hK hP c hr.lt (hr.2.1 _) rfl 2 (by decide) (hts _ (List.mem_of_getElem? (i := 1) rfl)) (v := .int (x11 c 2)) rfl dX3_takeFirst_49 ?_
      refine lv_topi (fun v16 ev16 => ?_)
      have wv16 : v16.toInt = (x11 c 2).toInt := by rw [ev16]
      have rv16 := hr.size hI12; rw [← ev16] at rv16
      refine w_iconst S dX3_takeFirst_52 (by decide) (fun k17 hk17 => ?_)
      refine w_isub S dX3_takeFirst_53 (by omega) (by omega) (fun v18 hv18 => ?_)
      refine w_put (C := RX3) (T := TX3) (N := 3) (F := FRow g (c + 1)) S (fun _ h => List.mem_cons_of_mem _ (List.mem_append_right _ h)) tyX3_ok nmX3 hK hg hP hS c hr.lt hr.2.1 rfl 2 (by decide) (hts _ (List.mem_of_getElem? (i := 1) rfl)) rfl rfl rfl (fun _ => Nat.le_of_ble_eq_true rfl) (fun _ => rfl) dX3_takeFirst_54 (fun x19 H locs ex19 hP hS => ?_)
      have hI20 : Inv x19 := by rw [ex19]; exact hr.upS hI12 (by omega) (by omega)
      have hT21 : Same (TR c) x x19 := by rw [ex19]; exact hT13.up (by unfold TR; omega)
      have u22 : (x19 c 1).toInt = (x11 c 1).toInt := by rw [ex19, up2_ne _ _ (by omega)]
      have u23 : (x19 c 2).toInt = v18.toInt := by rw [ex19, up2_at]
      refine lv_iload_n S.1 S.2.1 dX3_takeFirst_57 rfl (lv_at hl 0 rfl) ?_
      exact w_iret S hr0 hlk hP hS dX3_takeFirst_58 (⟨hI20, hT21, by omega, by omega⟩)
    · refine lv_aload_n S.1 S.2.1 dX3_takeFirst_34 rfl (lv_at hl 1 rfl) ?_
      refine w_get (C := RX3) (T := TX3) (N := 3) S (fun _ h => List.mem_cons_of_mem _ (List.mem_append_right _ h)) hK hP c hr.lt (hr.2.1 _) rfl 1 (by decide) (hts _ (List.mem_of_getElem? (i := 3) rfl)) (v := .int (x c 1)) rfl dX3_takeFirst_35 ?_
      refine lv_topi (fun v24 ev24 => ?_)
      have wv24 : v24.toInt = (x c 1).toInt := by rw [ev24]
      have rv24 := hr.first hI; rw [← ev24] at rv24
      refine w_iconst S dX3_takeFirst_38 (by decide) (fun k25 hk25 => ?_)
      refine w_iadd S dX3_takeFirst_39 (by omega) (by omega) (fun v26 hv26 => ?_)
      refine lv_goto (tgt := 44) S.1 S.2.1 dX3_takeFirst_40 (by decide) ?_
      refine w_put (C := RX3) (T := TX3) (N := 3) (F := FRow g (c + 1)) S (fun _ h => List.mem_cons_of_mem _ (List.mem_append_right _ h)) tyX3_ok nmX3 hK hg hP hS c hr.lt hr.2.1 rfl 1 (by decide) (hts _ (List.mem_of_getElem? (i := 3) rfl)) rfl rfl rfl (fun _ => Nat.le_of_ble_eq_true rfl) (fun _ => rfl) dX3_takeFirst_44 (fun x27 H locs ex27 hP hS => ?_)
      have hI28 : Inv x27 := by rw [ex27]; exact hr.upF hI (by omega) (by omega)
      have hT29 : Same (TR c) x x27 := by rw [ex27]; exact hT.up (by unfold TR; omega)
      have u30 : (x27 c 1).toInt = v26.toInt := by rw [ex27, up2_at]
      have u31 : (x27 c 2).toInt = (x c 2).toInt := by rw [ex27, up2_ne _ _ (by omega)]
      refine lv_aload_n S.1 S.2.1 dX3_takeFirst_47 rfl (lv_at hl 1 rfl) ?_
      refine lv_dup S.1 S.2.1 dX3_takeFirst_48 rfl ?_
      refine w_get (C := RX3) (T := TX3) (N := 3) S (fun _ h => List.mem_cons_of_mem _ (List.mem_append_right _ h)) hK hP c hr.lt (hr.2.1 _) rfl 2 (by decide) (hts _ (List.mem_of_getElem? (i := 1) rfl)) (v := .int (x27 c 2)) rfl dX3_takeFirst_49 ?_
      refine lv_topi (fun v32 ev32 => ?_)
      have wv32 : v32.toInt = (x27 c 2).toInt := by rw [ev32]
      have rv32 := hr.size hI28; rw [← ev32] at rv32
      refine w_iconst S dX3_takeFirst_52 (by decide) (fun k33 hk33 => ?_)
      refine w_isub S dX3_takeFirst_53 (by omega) (by omega) (fun v34 hv34 => ?_)
      refine w_put (C := RX3) (T := TX3) (N := 3) (F := FRow g (c + 1)) S (fun _ h => List.mem_cons_of_mem _ (List.mem_append_right _ h)) tyX3_ok nmX3 hK hg hP hS c hr.lt hr.2.1 rfl 2 (by decide) (hts _ (List.mem_of_getElem? (i := 1) rfl)) rfl rfl rfl (fun _ => Nat.le_of_ble_eq_true rfl) (fun _ => rfl) dX3_takeFirst_54 (fun x35 H locs ex35 hP hS => ?_)
      have hI36 : Inv x35 := by rw [ex35]; exact hr.upS hI28 (by omega) (by omega)
      have hT37 : Same (TR c) x x35 := by rw [ex35]; exact hT29.up (by unfold TR; omega)
      have u38 : (x35 c 1).toInt = (x27 c 1).toInt := by rw [ex35, up2_ne _ _ (by omega)]
      have u39 : (x35 c 2).toInt = v34.toInt := by rw [ex35, up2_at]
      refine lv_iload_n S.1 S.2.1 dX3_takeFirst_57 rfl (lv_at hl 0 rfl) ?_
      exact w_iret S hr0 hlk hP hS dX3_takeFirst_58 (⟨hI36, hT37, by omega, by omega⟩)
  · refine w_iconst S dX3_takeFirst_7 (by decide) (fun k40 hk40 => ?_)
    exact w_iret S hr0 hlk hP hS dX3_takeFirst_8 (⟨hI, hT, by omega, by omega⟩)
set_option maxRecDepth 100000 in
set_option maxHeartbeats 4000000 in
theorem c_X3_takeLast (l : Launch) (D : va_G) (g : GA) (hg : Inj g) (x : St) (hI : Inv x) (c n : Nat) (hr : IsRow g c n) : Met l yX3_takeLast wsX3_takeLast ({ frames := 1, cells := 0, slots := 0, locals := 22 } : Room) (va_Pc [.ref (g.1 c)] (WI D g x)) (va_Qi (fun _ x2 => Inv x2 ∧ Same (TR c) x x2 ∧ True) (WO D g) (AQ g)) 0 0 (AQ g) := by
  refine w_met (cc := cX3_takeLast) (maxL := 2) (ret := (some .int)) (own := RX3) (by decide) rfl rfl (Nat.le_of_ble_eq_true rfl) (fun p e s m below meth co S hr0 hlk hK hN hP hS ls hl => ?_)
  have hts := S.2.2.2.2
  have hl : lv_has ls 2 [(0, .ref (g.1 c))] := hl
  have hT : Same (TR c) x x := Same.rf
  have hn := hr.2.2.2.1
  refine lv_aload_n S.1 S.2.1 dX3_takeLast_0 rfl (lv_at hl 0 rfl) ?_
  refine lv_aload_n S.1 S.2.1 dX3_takeLast_1 rfl (lv_at hl 0 rfl) ?_
  refine w_get (C := RX3) (T := TX3) (N := 3) S (fun _ h => List.mem_cons_of_mem _ (List.mem_append_right _ h)) hK hP c hr.lt (hr.2.1 _) rfl 2 (by decide) (hts _ (List.mem_of_getElem? (i := 1) rfl)) (v := .int (x c 2)) rfl dX3_takeLast_2 ?_
  refine lv_topi (fun v1 ev1 => ?_)
  have wv1 : v1.toInt = (x c 2).toInt := by rw [ev1]
  have rv1 := hr.size hI; rw [← ev1] at rv1
  refine w_iconst S dX3_takeLast_5 (by decide) (fun k2 hk2 => ?_)
  refine w_isub S dX3_takeLast_6 (by omega) (by omega) (fun v3 hv3 => ?_)
  refine w_cVi (As := [.int v3]) (rest := []) S hK hN hP hS hl c hr.lt (hr.2.1 _) rfl (c_X3_at l D g hg x hI c n hr v3) (cwV 1 hts gX3_takeLast_X3_at rfl rfl rfl (by decide +kernel) ⟨Nat.le_of_ble_eq_true rfl, Nat.le_of_ble_eq_true rfl⟩) rfl rfl (Nat.le_of_ble_eq_true rfl) dX3_takeLast_7 ⟨Nat.zero_le _, Nat.zero_le _⟩ (fun r5 x4 H locs hq6 hP hS => ?_)
  obtain ⟨ex7, hf8⟩ := hq6
  rw [ex7] at hP
  refine lv_istore_n (lv' := [(1, .int r5), (0, .ref (g.1 c))]) S.1 S.2.1 dX3_takeLast_10 rfl hl (by decide) rfl (fun ls hl => ?_)
  refine lv_aload_n S.1 S.2.1 dX3_takeLast_11 rfl (lv_at hl 1 rfl) ?_
  refine w_get (C := RX3) (T := TX3) (N := 3) S (fun _ h => List.mem_cons_of_mem _ (List.mem_append_right _ h)) hK hP c hr.lt (hr.2.1 _) rfl 2 (by decide) (hts _ (List.mem_of_getElem? (i := 1) rfl)) (v := .int (x c 2)) rfl dX3_takeLast_12 ?_
  refine lv_topi (fun v9 ev9 => ?_)
  have wv9 : v9.toInt = (x c 2).toInt := by rw [ev9]
  have rv9 := hr.size hI; rw [← ev9] at rv9
  refine w_if_le (tgt := 28) S dX3_takeLast_15 (by decide) (fun hb10 => ?_) (fun hb10 => ?_)
  · refine lv_iload_n S.1 S.2.1 dX3_takeLast_28 rfl (lv_at hl 0 rfl) ?_
    exact w_iret S hr0 hlk hP hS dX3_takeLast_29 (⟨hI, hT, trivial⟩)
  · refine lv_aload_n S.1 S.2.1 dX3_takeLast_18 rfl (lv_at hl 1 rfl) ?_
    refine lv_dup S.1 S.2.1 dX3_takeLast_19 rfl ?_
    refine w_get (C := RX3) (T := TX3) (N := 3) S (fun _ h => List.mem_cons_of_mem _ (List.mem_append_right _ h)) hK hP c hr.lt (hr.2.1 _) rfl 2 (by decide) (hts _ (List.mem_of_getElem? (i := 1) rfl)) (v := .int (x c 2)) rfl dX3_takeLast_20 ?_
    refine lv_topi (fun v11 ev11 => ?_)
    have wv11 : v11.toInt = (x c 2).toInt := by rw [ev11]
    have rv11 := hr.size hI; rw [← ev11] at rv11
    refine w_iconst S dX3_takeLast_23 (by decide) (fun k12 hk12 => ?_)
    refine w_isub S dX3_takeLast_24 (by omega) (by omega) (fun v13 hv13 => ?_)
    refine w_put (C := RX3) (T := TX3) (N := 3) (F := FRow g (c + 1)) S (fun _ h => List.mem_cons_of_mem _ (List.mem_append_right _ h)) tyX3_ok nmX3 hK hg hP hS c hr.lt hr.2.1 rfl 2 (by decide) (hts _ (List.mem_of_getElem? (i := 1) rfl)) rfl rfl rfl (fun _ => Nat.le_of_ble_eq_true rfl) (fun _ => rfl) dX3_takeLast_25 (fun x14 H locs ex14 hP hS => ?_)
    have hI15 : Inv x14 := by rw [ex14]; exact hr.upS hI (by omega) (by omega)
    have hT16 : Same (TR c) x x14 := by rw [ex14]; exact hT.up (by unfold TR; omega)
    have u17 : (x14 c 1).toInt = (x c 1).toInt := by rw [ex14, up2_ne _ _ (by omega)]
    have u18 : (x14 c 2).toInt = v13.toInt := by rw [ex14, up2_at]
    refine lv_iload_n S.1 S.2.1 dX3_takeLast_28 rfl (lv_at hl 0 rfl) ?_
    exact w_iret S hr0 hlk hP hS dX3_takeLast_29 (⟨hI15, hT16, trivial⟩)
set_option maxRecDepth 100000 in
set_option maxHeartbeats 4000000 in
theorem c_X3_empty (l : Launch) (D : va_G) (g : GA) (hg : Inj g) (x : St) (hI : Inv x) (c n : Nat) (hr : IsRow g c n) : Met l yX3_empty wsX3_empty ({ frames := 0, cells := 0, slots := 0, locals := 0 } : Room) (va_Pc [.ref (g.1 c)] (WI D g x)) (va_Qv (fun x2 => Inv x2 ∧ Same (TR c) x x2 ∧ (x2 c 2).toInt = 0) (WO D g) (AQ g)) 0 0 (AQ g) := by
  refine w_met (cc := cX3_empty) (maxL := 1) (ret := none) (own := RX3) (by decide) rfl rfl (Nat.le_of_ble_eq_true rfl) (fun p e s m below meth co S hr0 hlk hK hN hP hS ls hl => ?_)
  have hts := S.2.2.2.2
  have hl : lv_has ls 1 [(0, .ref (g.1 c))] := hl
  have hT : Same (TR c) x x := Same.rf
  have hn := hr.2.2.2.1
  refine lv_aload_n S.1 S.2.1 dX3_empty_0 rfl (lv_at hl 0 rfl) ?_
  refine w_iconst S dX3_empty_1 (by decide) (fun k1 hk1 => ?_)
  refine w_put (C := RX3) (T := TX3) (N := 3) (F := FRow g (c + 1)) S (fun _ h => List.mem_cons_of_mem _ (List.mem_append_right _ h)) tyX3_ok nmX3 hK hg hP hS c hr.lt hr.2.1 rfl 2 (by decide) (hts _ (List.mem_of_getElem? (i := 1) rfl)) rfl rfl rfl (fun _ => Nat.le_of_ble_eq_true rfl) (fun _ => rfl) dX3_empty_2 (fun x2 H locs ex2 hP hS => ?_)
  have hI3 : Inv x2 := by rw [ex2]; exact hr.upS hI (by omega) (by omega)
  have hT4 : Same (TR c) x x2 := by rw [ex2]; exact hT.up (by unfold TR; omega)
  have u5 : (x2 c 1).toInt = (x c 1).toInt := by rw [ex2, up2_ne _ _ (by omega)]
  have u6 : (x2 c 2).toInt = k1.toInt := by rw [ex2, up2_at]
  exact w_vret S hr0 hlk hP hS dX3_empty_5 (⟨hI3, hT4, by omega⟩)
set_option maxRecDepth 100000 in
set_option maxHeartbeats 4000000 in
theorem c_X0_raise (l : Launch) (D : va_G) (g : GA) (hg : Inj g) (x : St) (hI : Inv x) (a b : Int32) : Met l yX0_raise wsX0_raise ({ frames := 0, cells := 0, slots := 0, locals := 0 } : Room) (va_Pc [.ref (g.1 2), .int a, .int b] (WI D g x)) (va_Qv (fun x2 => Inv x2 ∧ Same TC x x2 ∧ True) (WO D g) (AQ g)) 0 0 (AQ g) := by
  refine w_met (cc := cX0_raise) (maxL := 4) (ret := none) (own := RX0) (by decide) rfl rfl (Nat.le_of_ble_eq_true rfl) (fun p e s m below meth co S hr0 hlk hK hN hP hS ls hl => ?_)
  have hts := S.2.2.2.2
  have hl : lv_has ls 4 [(0, .ref (g.1 2)), (1, .int a), (2, .int b)] := hl
  have hT : Same (TC) x x := Same.rf
  have J2 : ∀ (n0 : Nat) (x_2 : St) (H : Heap) (locs : List Loc) (ls : Array Slot) (y2_3 : Int32), Inv x_2 → Same (TC) x x_2 → (0 ≤ y2_3.toInt) → (y2_3.toInt ≤ 8) → (8 - y2_3.toInt).toNat < n0 → va_P D vwCl (WL g x_2) H → va_S (AQ g) s.heap H locs → lv_has ls 4 [(0, .ref (g.1 2)), (1, .int a), (2, .int b), (3, .int y2_3)] → W p l e ({ frames := 0, cells := 0, slots := 0, locals := 0 } : Room) s m ([.ref (g.1 2), .int a, .int b] : List Value).toArray below meth co H locs 0 0 (MQ below (va_Qv (fun x2 => Inv x2 ∧ Same TC x x2 ∧ True) (WO D g) (AQ g)) ([.ref (g.1 2), .int a, .int b] : List Value).toArray s 0 0 (AQ g)) (F0 m 2 ls []) := by
    intro n0
    induction n0 with
    | zero => intro x_2 H locs ls y2_3 hI_2 hT_2 hf2_0 hf2_1 hm_2 hP hS hl; exact absurd hm_2 (Nat.not_lt_zero _)
    | succ n0 ih2 =>
      intro x_2 H locs ls y2_3 hI_2 hT_2 hf2_0 hf2_1 hm_2 hP hS hl
      refine lv_iload_n S.1 S.2.1 dX0_raise_2 rfl (lv_at hl 3 rfl) ?_
      refine w_bipush S dX0_raise_3 (by decide) (fun k1 hk1 => ?_)
      refine w_icmp_ge (tgt := 34) S dX0_raise_5 (by decide) (fun hb2 => ?_) (fun hb2 => ?_)
      · exact w_vret S hr0 hlk hP hS dX0_raise_34 (⟨hI_2, hT_2, trivial⟩)
      · refine lv_aload_n S.1 S.2.1 dX0_raise_8 rfl (lv_at hl 0 rfl) ?_
        refine w_get (C := RX0) (T := TX0) (N := 2) S (fun _ h => List.mem_cons_of_mem _ (List.mem_append_right _ h)) hK hP 2 (by decide) (ceK2 _) rfl 0 (by decide) (hts _ (List.mem_of_getElem? (i := 1) rfl)) (v := .ref (g.1 3)) rfl dX0_raise_9 ?_
        refine lv_iload_n S.1 S.2.1 dX0_raise_12 rfl (lv_at hl 3 rfl) ?_
        refine w_iald S hK hP 3 (by decide) ceK3 (by omega) (by omega) dX0_raise_13 (fun v3 ev3 => ?_)
        have wv3 : v3.toInt = (x_2 3 y2_3.toInt.toNat).toInt := by rw [ev3]
        refine lv_iload_n S.1 S.2.1 dX0_raise_14 rfl (lv_at hl 1 rfl) ?_
        refine w_icmp_ne (tgt := 28) S dX0_raise_15 (by decide) (fun hb4 => ?_) (fun hb4 => ?_)
        · refine w_iinc (lv' := [(0, .ref (g.1 2)), (1, .int a), (2, .int b)]) S dX0_raise_28 hl (k := 3) rfl (by decide) (by decide) (by omega) (by omega) (fun _ => rfl) (fun v5 ls hv5 hl => ?_)
          refine lv_goto (tgt := 2) S.1 S.2.1 dX0_raise_31 (by decide) ?_
          exact ih2 _ _ _ _ v5 hI_2 hT_2 (by omega) (by omega) (by omega) hP hS (lv_sub hl [1, 2, 3, 0] rfl)
        · refine lv_aload_n S.1 S.2.1 dX0_raise_18 rfl (lv_at hl 0 rfl) ?_
          refine w_get (C := RX0) (T := TX0) (N := 2) S (fun _ h => List.mem_cons_of_mem _ (List.mem_append_right _ h)) hK hP 2 (by decide) (ceK2 _) rfl 1 (by decide) (hts _ (List.mem_of_getElem? (i := 2) rfl)) (v := .ref (g.1 4)) rfl dX0_raise_19 ?_
          refine lv_iload_n S.1 S.2.1 dX0_raise_22 rfl (lv_at hl 3 rfl) ?_
          refine lv_dup2_11 S.1 S.2.1 dX0_raise_23 rfl rfl ?_
          refine w_iald S hK hP 4 (by decide) ceK4 (by omega) (by omega) dX0_raise_24 (fun v6 ev6 => ?_)
          have wv6 : v6.toInt = (x_2 4 y2_3.toInt.toNat).toInt := by rw [ev6]
          refine lv_iload_n S.1 S.2.1 dX0_raise_25 rfl (lv_at hl 2 rfl) ?_
          refine lv_ior S.1 S.2.1 dX0_raise_26 ?_
          refine w_any1 (fun v7 => ?_)
          refine w_iast S hK hg hP hS 4 (by decide) ceK4 (by omega) (by omega) dX0_raise_27 (fun x8 H locs ex8 hP hS => ?_)
          have hI9 : Inv x8 := by rw [ex8]; exact hI_2.up (i_ge _) (i_le _)
          have hT10 : Same (TC) x x8 := by rw [ex8]; exact hT_2.up (by unfold TC TrC; omega)
          refine w_iinc (lv' := [(0, .ref (g.1 2)), (1, .int a), (2, .int b)]) S dX0_raise_28 hl (k := 3) rfl (by decide) (by decide) (by omega) (by omega) (fun _ => rfl) (fun v11 ls hv11 hl => ?_)
          refine lv_goto (tgt := 2) S.1 S.2.1 dX0_raise_31 (by decide) ?_
          exact ih2 _ _ _ _ v11 hI9 hT10 (by omega) (by omega) (by omega) hP hS (lv_sub hl [1, 2, 3, 0] rfl)
  refine w_iconst S dX0_raise_0 (by decide) (fun k12 hk12 => ?_)
  refine lv_istore_n (lv' := [(3, .int k12), (0, .ref (g.1 2)), (1, .int a), (2, .int b)]) S.1 S.2.1 dX0_raise_1 rfl hl (by decide) rfl (fun ls hl => ?_)
  exact J2 _ _ _ _ _ k12 hI hT (by omega) (by omega) (Nat.lt_succ_self _) hP hS (lv_sub hl [1, 2, 3, 0] rfl)
set_option maxRecDepth 100000 in
set_option maxHeartbeats 4000000 in
theorem c_X4_add (l : Launch) (D : va_G) (g : GA) (hg : Inj g) (x : St) (hI : Inv x) (i : Nat) (h4 : i < 4) (b : Int32) (may : Int32) : Met l yX4_add wsX4_add ({ frames := 1, cells := 0, slots := 0, locals := 22 } : Room) (va_Pc [.ref (g.1 (5 + 21 * i + 4)), .int b, .int may] (WI D g x)) (va_Qi (fun r x2 => Inv x2 ∧ Same TC x x2 ∧ (0 ≤ r.toInt ∧ r.toInt ≤ 1)) (WO D g) (AQ g)) 0 0 (AQ g) := by
  refine w_met (cc := cX4_add) (maxL := 3) (ret := (some .boolean)) (own := RX4) (by decide) rfl rfl (Nat.le_of_ble_eq_true rfl) (fun p e s m below meth co S hr0 hlk hK hN hP hS ls hl => ?_)
  have hts := S.2.2.2.2
  have hl : lv_has ls 3 [(0, .ref (g.1 (5 + 21 * i + 4))), (1, .int b), (2, .int may)] := hl
  have hT : Same (TC) x x := Same.rf
  have J16 : ∀ (H : Heap) (locs : List Loc) (ls : Array Slot), va_P D vwCl (WL g x) H → va_S (AQ g) s.heap H locs → lv_has ls 3 [(0, .ref (g.1 (5 + 21 * i + 4))), (1, .int b), (2, .int may)] → W p l e ({ frames := 1, cells := 0, slots := 0, locals := 22 } : Room) s m ([.ref (g.1 (5 + 21 * i + 4)), .int b, .int may] : List Value).toArray below meth co H locs 0 0 (MQ below (va_Qi (fun r x2 => Inv x2 ∧ Same TC x x2 ∧ (0 ≤ r.toInt ∧ r.toInt ≤ 1)) (WO D g) (AQ g)) ([.ref (g.1 (5 + 21 * i + 4)), .int b, .int may] : List Value).toArray s 0 0 (AQ g)) (F0 m 16 ls []) := by
    intro H locs ls hP hS hl
    refine lv_aload_n S.1 S.2.1 dX4_add_16 rfl (lv_at hl 0 rfl) ?_
    refine w_get (C := RX4) (T := TX4) (N := 3) S (fun _ h => List.mem_cons_of_mem _ (List.mem_append_left _ (List.mem_append_right _ h))) hK hP (5 + 21 * i + 4) (by have := h4; omega) ((ceP4 h4) _) rfl 0 (by decide) (hts _ (List.mem_of_getElem? (i := 1) rfl)) (v := .ref (g.1 (5 + 21 * i + 5))) rfl dX4_add_17 ?_
    refine w_iconst S dX4_add_20 (by decide) (fun k1 hk1 => ?_)
    refine w_cVi (As := [.int k1]) (rest := []) S hK hN hP hS hl (5 + 21 * i + 5) (by have := h4; omega) ((ceP5 h4) _) rfl (c_X3_fits l D g hg x hI (5 + 21 * i + 5) 65 (isRow5 h4) k1) (cwV 1 hts gX4_add_X3_fits rfl rfl rfl (by decide +kernel) ⟨Nat.le_of_ble_eq_true rfl, Nat.le_of_ble_eq_true rfl⟩) rfl rfl (Nat.le_of_ble_eq_true rfl) dX4_add_21 ⟨Nat.zero_le _, Nat.zero_le _⟩ (fun r3 x2 H locs hq4 hP hS => ?_)
    obtain ⟨ex5, hf6⟩ := hq4
    rw [ex5] at hP
    refine w_if_ne (tgt := 29) S dX4_add_24 (by decide) (fun hb7 => ?_) (fun hb7 => ?_)
    · refine lv_aload_n S.1 S.2.1 dX4_add_29 rfl (lv_at hl 0 rfl) ?_
      refine w_get (C := RX4) (T := TX4) (N := 3) S (fun _ h => List.mem_cons_of_mem _ (List.mem_append_left _ (List.mem_append_right _ h))) hK hP (5 + 21 * i + 4) (by have := h4; omega) ((ceP4 h4) _) rfl 0 (by decide) (hts _ (List.mem_of_getElem? (i := 1) rfl)) (v := .ref (g.1 (5 + 21 * i + 5))) rfl dX4_add_30 ?_
      refine lv_iload_n S.1 S.2.1 dX4_add_33 rfl (lv_at hl 1 rfl) ?_
      refine w_cVv (As := [.int b]) (rest := []) S hK hN hP hS hl (5 + 21 * i + 5) (by have := h4; omega) ((ceP5 h4) _) rfl (c_X3_add l D g hg x hI (5 + 21 * i + 5) 65 (isRow5 h4) b) (cwV 1 hts gX4_add_X3_add rfl rfl rfl (by decide +kernel) ⟨Nat.le_of_ble_eq_true rfl, Nat.le_of_ble_eq_true rfl⟩) rfl rfl (Nat.le_of_ble_eq_true rfl) dX4_add_34 ⟨Nat.zero_le _, Nat.zero_le _⟩ (fun x8 H locs hq10 hP hS => ?_)
      obtain ⟨hI11, hT12, hf13⟩ := hq10
      have hT14 : Same (TC) x x8 := hT.tr hT12 (fun c0 k0 h => by unfold TC TrC at h; unfold TR; omega)
      refine lv_aload_n S.1 S.2.1 dX4_add_37 rfl (lv_at hl 0 rfl) ?_
      refine w_iconst S dX4_add_38 (by decide) (fun k15 hk15 => ?_)
      refine w_put (C := RX4) (T := TX4) (N := 3) (F := FStore g (5 + 21 * i)) S (fun _ h => List.mem_cons_of_mem _ (List.mem_append_left _ (List.mem_append_right _ h))) tyX4_ok nmX4 hK hg hP hS (5 + 21 * i + 4) (by have := h4; omega) (ceP4 h4) rfl 2 (by decide) (hts _ (List.mem_of_getElem? (i := 2) rfl)) rfl rfl rfl (fun _ => Nat.le_of_ble_eq_true rfl) (fun _ => rfl) dX4_add_39 (fun x16 H locs ex16 hP hS => ?_)
      have hI17 : Inv x16 := by rw [ex16]; exact hI11.upP (j := 4) h4 (by decide) (i_ge _) (i_le _)
      have hT18 : Same (TC) x x16 := by rw [ex16]; exact hT14.up (by unfold TC TrC; omega)
      refine w_iconst S dX4_add_42 (by decide) (fun k19 hk19 => ?_)
      exact w_zret S hr0 hlk hP hS dX4_add_43 (z01 (by omega) (by omega)) (⟨hI17, hT18, by omega⟩)
    · refine w_iconst S dX4_add_27 (by decide) (fun k20 hk20 => ?_)
      exact w_zret S hr0 hlk hP hS dX4_add_28 (z01 (by omega) (by omega)) (⟨hI, hT, by omega⟩)
  refine lv_aload_n S.1 S.2.1 dX4_add_0 rfl (lv_at hl 0 rfl) ?_
  refine w_get (C := RX4) (T := TX4) (N := 3) S (fun _ h => List.mem_cons_of_mem _ (List.mem_append_left _ (List.mem_append_right _ h))) hK hP (5 + 21 * i + 4) (by have := h4; omega) ((ceP4 h4) _) rfl 0 (by decide) (hts _ (List.mem_of_getElem? (i := 1) rfl)) (v := .ref (g.1 (5 + 21 * i + 5))) rfl dX4_add_1 ?_
  refine w_getN (C := RX3) (T := TX3) (N := 3) S (fun _ h => List.mem_cons_of_mem _ (List.mem_append_right _ h)) hK hP (5 + 21 * i + 5) (by have := h4; omega) ((ceP5 h4) _) rfl 2 (by decide) (hN.1 _ (List.mem_of_getElem? (i := 5) rfl)) (v := .int (x (5 + 21 * i + 5) 2)) rfl dX4_add_4 ?_
  refine lv_topi (fun v21 ev21 => ?_)
  have wv21 : v21.toInt = (x (5 + 21 * i + 5) 2).toInt := by rw [ev21]
  have rv21 : (0 : Int) ≤ v21.toInt ∧ v21.toInt ≤ (65 : Int) := by rw [ev21]; exact hI.atP (j := 5) (k := 2) h4 (by decide)
  refine w_bipush S dX4_add_7 (by decide) (fun k22 hk22 => ?_)
  refine w_icmp_lt (tgt := 16) S dX4_add_9 (by decide) (fun hb23 => ?_) (fun hb23 => ?_)
  · exact J16 _ _ _ hP hS (lv_sub hl [0, 1, 2] rfl)
  · refine lv_iload_n S.1 S.2.1 dX4_add_12 rfl (lv_at hl 2 rfl) ?_
    refine w_if_eq (tgt := 27) S dX4_add_13 (by decide) (fun hb24 => ?_) (fun hb24 => ?_)
    · refine w_iconst S dX4_add_27 (by decide) (fun k25 hk25 => ?_)
      exact w_zret S hr0 hlk hP hS dX4_add_28 (z01 (by omega) (by omega)) (⟨hI, hT, by omega⟩)
    · exact J16 _ _ _ hP hS (lv_sub hl [0, 1, 2] rfl)
set_option maxRecDepth 100000 in
set_option maxHeartbeats 4000000 in
theorem c_X4_openLine (l : Launch) (D : va_G) (g : GA) (hg : Inj g) (x : St) (hI : Inv x) (i : Nat) (h4 : i < 4) : Met l yX4_openLine wsX4_openLine ({ frames := 0, cells := 0, slots := 0, locals := 0 } : Room) (va_Pc [.ref (g.1 (5 + 21 * i + 4))] (WI D g x)) (va_Qi (fun _ x2 => x2 = x ∧ True) (WO D g) (AQ g)) 0 0 (AQ g) := by
  refine w_met (cc := cX4_openLine) (maxL := 1) (ret := (some .int)) (own := RX4) (by decide) rfl rfl (Nat.le_of_ble_eq_true rfl) (fun p e s m below meth co S hr0 hlk hK hN hP hS ls hl => ?_)
  have hts := S.2.2.2.2
  have hl : lv_has ls 1 [(0, .ref (g.1 (5 + 21 * i + 4)))] := hl
  refine lv_aload_n S.1 S.2.1 dX4_openLine_0 rfl (lv_at hl 0 rfl) ?_
  refine w_get (C := RX4) (T := TX4) (N := 3) S (fun _ h => List.mem_cons_of_mem _ (List.mem_append_left _ (List.mem_append_right _ h))) hK hP (5 + 21 * i + 4) (by have := h4; omega) ((ceP4 h4) _) rfl 0 (by decide) (hts _ (List.mem_of_getElem? (i := 1) rfl)) (v := .ref (g.1 (5 + 21 * i + 5))) rfl dX4_openLine_1 ?_
  refine w_getN (C := RX3) (T := TX3) (N := 3) S (fun _ h => List.mem_cons_of_mem _ (List.mem_append_right _ h)) hK hP (5 + 21 * i + 5) (by have := h4; omega) ((ceP5 h4) _) rfl 2 (by decide) (hN.1 _ (List.mem_of_getElem? (i := 5) rfl)) (v := .int (x (5 + 21 * i + 5) 2)) rfl dX4_openLine_4 ?_
  refine lv_topi (fun v1 ev1 => ?_)
  have wv1 : v1.toInt = (x (5 + 21 * i + 5) 2).toInt := by rw [ev1]
  have rv1 : (0 : Int) ≤ v1.toInt ∧ v1.toInt ≤ (65 : Int) := by rw [ev1]; exact hI.atP (j := 5) (k := 2) h4 (by decide)
  refine lv_aload_n S.1 S.2.1 dX4_openLine_7 rfl (lv_at hl 0 rfl) ?_
  refine w_get (C := RX4) (T := TX4) (N := 3) S (fun _ h => List.mem_cons_of_mem _ (List.mem_append_left _ (List.mem_append_right _ h))) hK hP (5 + 21 * i + 4) (by have := h4; omega) ((ceP4 h4) _) rfl 1 (by decide) (hts _ (List.mem_of_getElem? (i := 2) rfl)) (v := .int (x (5 + 21 * i + 4) 1)) rfl dX4_openLine_8 ?_
  refine lv_topi (fun v2 ev2 => ?_)
  have wv2 : v2.toInt = (x (5 + 21 * i + 4) 1).toInt := by rw [ev2]
  refine lv_isub S.1 S.2.1 dX4_openLine_11 ?_
  refine w_any1 (fun v3 => ?_)
  exact w_iret S hr0 hlk hP hS dX4_openLine_12 (⟨rfl, trivial⟩)
set_option maxRecDepth 100000 in
set_option maxHeartbeats 4000000 in
theorem c_X4_releaseAll (l : Launch) (D : va_G) (g : GA) (hg : Inj g) (x : St) (hI : Inv x) (i : Nat) (h4 : i < 4) : Met l yX4_releaseAll wsX4_releaseAll ({ frames := 0, cells := 0, slots := 0, locals := 0 } : Room) (va_Pc [.ref (g.1 (5 + 21 * i + 4))] (WI D g x)) (va_Qv (fun x2 => Inv x2 ∧ Same TC x x2 ∧ True) (WO D g) (AQ g)) 0 0 (AQ g) := by
  refine w_met (cc := cX4_releaseAll) (maxL := 1) (ret := none) (own := RX4) (by decide) rfl rfl (Nat.le_of_ble_eq_true rfl) (fun p e s m below meth co S hr0 hlk hK hN hP hS ls hl => ?_)
  have hts := S.2.2.2.2
  have hl : lv_has ls 1 [(0, .ref (g.1 (5 + 21 * i + 4)))] := hl
  have hT : Same (TC) x x := Same.rf
  refine lv_aload_n S.1 S.2.1 dX4_releaseAll_0 rfl (lv_at hl 0 rfl) ?_
  refine lv_aload_n S.1 S.2.1 dX4_releaseAll_1 rfl (lv_at hl 0 rfl) ?_
  refine w_get (C := RX4) (T := TX4) (N := 3) S (fun _ h => List.mem_cons_of_mem _ (List.mem_append_left _ (List.mem_append_right _ h))) hK hP (5 + 21 * i + 4) (by have := h4; omega) ((ceP4 h4) _) rfl 0 (by decide) (hts _ (List.mem_of_getElem? (i := 1) rfl)) (v := .ref (g.1 (5 + 21 * i + 5))) rfl dX4_releaseAll_2 ?_
  refine w_getN (C := RX3) (T := TX3) (N := 3) S (fun _ h => List.mem_cons_of_mem _ (List.mem_append_right _ h)) hK hP (5 + 21 * i + 5) (by have := h4; omega) ((ceP5 h4) _) rfl 2 (by decide) (hN.1 _ (List.mem_of_getElem? (i := 5) rfl)) (v := .int (x (5 + 21 * i + 5) 2)) rfl dX4_releaseAll_5 ?_
  refine lv_topi (fun v1 ev1 => ?_)
  have wv1 : v1.toInt = (x (5 + 21 * i + 5) 2).toInt := by rw [ev1]
  have rv1 : (0 : Int) ≤ v1.toInt ∧ v1.toInt ≤ (65 : Int) := by rw [ev1]; exact hI.atP (j := 5) (k := 2) h4 (by decide)
  refine w_put (C := RX4) (T := TX4) (N := 3) (F := FStore g (5 + 21 * i)) S (fun _ h => List.mem_cons_of_mem _ (List.mem_append_left _ (List.mem_append_right _ h))) tyX4_ok nmX4 hK hg hP hS (5 + 21 * i + 4) (by have := h4; omega) (ceP4 h4) rfl 1 (by decide) (hts _ (List.mem_of_getElem? (i := 2) rfl)) rfl rfl rfl (fun _ => Nat.le_of_ble_eq_true rfl) (fun _ => rfl) dX4_releaseAll_8 (fun x2 H locs ex2 hP hS => ?_)
  have hI3 : Inv x2 := by rw [ex2]; exact hI.upP (j := 4) h4 (by decide) (i_ge _) (i_le _)
  have hT4 : Same (TC) x x2 := by rw [ex2]; exact hT.up (by unfold TC TrC; omega)
  exact w_vret S hr0 hlk hP hS dX4_releaseAll_11 (⟨hI3, hT4, trivial⟩)
set_option maxRecDepth 100000 in
set_option maxHeartbeats 4000000 in
theorem c_X4_takeReleased (l : Launch) (D : va_G) (g : GA) (hg : Inj g) (x : St) (hI : Inv x) (i : Nat) (h4 : i < 4) : Met l yX4_takeReleased wsX4_takeReleased ({ frames := 1, cells := 0, slots := 0, locals := 21 } : Room) (va_Pc [.ref (g.1 (5 + 21 * i + 4))] (WI D g x)) (va_Qi (fun _ x2 => Inv x2 ∧ Same TC x x2 ∧ True) (WO D g) (AQ g)) 0 0 (AQ g) := by
  refine w_met (cc := cX4_takeReleased) (maxL := 1) (ret := (some .int)) (own := RX4) (by decide) rfl rfl (Nat.le_of_ble_eq_true rfl) (fun p e s m below meth co S hr0 hlk hK hN hP hS ls hl => ?_)
  have hts := S.2.2.2.2
  have hl : lv_has ls 1 [(0, .ref (g.1 (5 + 21 * i + 4)))] := hl
  have hT : Same (TC) x x := Same.rf
  refine lv_aload_n S.1 S.2.1 dX4_takeReleased_0 rfl (lv_at hl 0 rfl) ?_
  refine w_get (C := RX4) (T := TX4) (N := 3) S (fun _ h => List.mem_cons_of_mem _ (List.mem_append_left _ (List.mem_append_right _ h))) hK hP (5 + 21 * i + 4) (by have := h4; omega) ((ceP4 h4) _) rfl 1 (by decide) (hts _ (List.mem_of_getElem? (i := 1) rfl)) (v := .int (x (5 + 21 * i + 4) 1)) rfl dX4_takeReleased_1 ?_
  refine lv_topi (fun v1 ev1 => ?_)
  have wv1 : v1.toInt = (x (5 + 21 * i + 4) 1).toInt := by rw [ev1]
  refine w_if_le (tgt := 17) S dX4_takeReleased_4 (by decide) (fun hb2 => ?_) (fun hb2 => ?_)
  · refine lv_aload_n S.1 S.2.1 dX4_takeReleased_17 rfl (lv_at hl 0 rfl) ?_
    refine w_get (C := RX4) (T := TX4) (N := 3) S (fun _ h => List.mem_cons_of_mem _ (List.mem_append_left _ (List.mem_append_right _ h))) hK hP (5 + 21 * i + 4) (by have := h4; omega) ((ceP4 h4) _) rfl 0 (by decide) (hts _ (List.mem_of_getElem? (i := 2) rfl)) (v := .ref (g.1 (5 + 21 * i + 5))) rfl dX4_takeReleased_18 ?_
    refine w_cVi (As := []) (rest := []) S hK hN hP hS hl (5 + 21 * i + 5) (by have := h4; omega) ((ceP5 h4) _) rfl (c_X3_takeFirst l D g hg x hI (5 + 21 * i + 5) 65 (isRow5 h4)) (cwV 0 hts gX4_takeReleased_X3_takeFirst rfl rfl rfl (by decide +kernel) ⟨Nat.le_of_ble_eq_true rfl, Nat.le_of_ble_eq_true rfl⟩) rfl rfl (Nat.le_of_ble_eq_true rfl) dX4_takeReleased_21 ⟨Nat.zero_le _, Nat.zero_le _⟩ (fun r4 x3 H locs hq5 hP hS => ?_)
    obtain ⟨hI6, hT7, hf8⟩ := hq5
    have hT9 : Same (TC) x x3 := hT.tr hT7 (fun c0 k0 h => by unfold TC TrC at h; unfold TR; omega)
    exact w_iret S hr0 hlk hP hS dX4_takeReleased_24 (⟨hI6, hT9, trivial⟩)
  · refine lv_aload_n S.1 S.2.1 dX4_takeReleased_7 rfl (lv_at hl 0 rfl) ?_
    refine lv_dup S.1 S.2.1 dX4_takeReleased_8 rfl ?_
    refine w_get (C := RX4) (T := TX4) (N := 3) S (fun _ h => List.mem_cons_of_mem _ (List.mem_append_left _ (List.mem_append_right _ h))) hK hP (5 + 21 * i + 4) (by have := h4; omega) ((ceP4 h4) _) rfl 1 (by decide) (hts _ (List.mem_of_getElem? (i := 1) rfl)) (v := .int (x (5 + 21 * i + 4) 1)) rfl dX4_takeReleased_9 ?_
    refine lv_topi (fun v10 ev10 => ?_)
    have wv10 : v10.toInt = (x (5 + 21 * i + 4) 1).toInt := by rw [ev10]
    refine w_iconst S dX4_takeReleased_12 (by decide) (fun k11 hk11 => ?_)
    refine lv_isub S.1 S.2.1 dX4_takeReleased_13 ?_
    refine w_any1 (fun v12 => ?_)
    refine w_put (C := RX4) (T := TX4) (N := 3) (F := FStore g (5 + 21 * i)) S (fun _ h => List.mem_cons_of_mem _ (List.mem_append_left _ (List.mem_append_right _ h))) tyX4_ok nmX4 hK hg hP hS (5 + 21 * i + 4) (by have := h4; omega) (ceP4 h4) rfl 1 (by decide) (hts _ (List.mem_of_getElem? (i := 1) rfl)) rfl rfl rfl (fun _ => Nat.le_of_ble_eq_true rfl) (fun _ => rfl) dX4_takeReleased_14 (fun x13 H locs ex13 hP hS => ?_)
    have hI14 : Inv x13 := by rw [ex13]; exact hI.upP (j := 4) h4 (by decide) (i_ge _) (i_le _)
    have hT15 : Same (TC) x x13 := by rw [ex13]; exact hT.up (by unfold TC TrC; omega)
    refine lv_aload_n S.1 S.2.1 dX4_takeReleased_17 rfl (lv_at hl 0 rfl) ?_
    refine w_get (C := RX4) (T := TX4) (N := 3) S (fun _ h => List.mem_cons_of_mem _ (List.mem_append_left _ (List.mem_append_right _ h))) hK hP (5 + 21 * i + 4) (by have := h4; omega) ((ceP4 h4) _) rfl 0 (by decide) (hts _ (List.mem_of_getElem? (i := 2) rfl)) (v := .ref (g.1 (5 + 21 * i + 5))) rfl dX4_takeReleased_18 ?_
    refine w_cVi (As := []) (rest := []) S hK hN hP hS hl (5 + 21 * i + 5) (by have := h4; omega) ((ceP5 h4) _) rfl (c_X3_takeFirst l D g hg x13 hI14 (5 + 21 * i + 5) 65 (isRow5 h4)) (cwV 0 hts gX4_takeReleased_X3_takeFirst rfl rfl rfl (by decide +kernel) ⟨Nat.le_of_ble_eq_true rfl, Nat.le_of_ble_eq_true rfl⟩) rfl rfl (Nat.le_of_ble_eq_true rfl) dX4_takeReleased_21 ⟨Nat.zero_le _, Nat.zero_le _⟩ (fun r17 x16 H locs hq18 hP hS => ?_)
    obtain ⟨hI19, hT20, hf21⟩ := hq18
    have hT22 : Same (TC) x x16 := hT15.tr hT20 (fun c0 k0 h => by unfold TC TrC at h; unfold TR; omega)
    exact w_iret S hr0 hlk hP hS dX4_takeReleased_24 (⟨hI19, hT22, trivial⟩)
set_option maxRecDepth 100000 in
set_option maxHeartbeats 4000000 in
theorem c_X4_empty (l : Launch) (D : va_G) (g : GA) (hg : Inj g) (x : St) (hI : Inv x) (i : Nat) (h4 : i < 4) : Met l yX4_empty wsX4_empty ({ frames := 1, cells := 0, slots := 0, locals := 20 } : Room) (va_Pc [.ref (g.1 (5 + 21 * i + 4))] (WI D g x)) (va_Qv (fun x2 => Inv x2 ∧ Same TC x x2 ∧ True) (WO D g) (AQ g)) 0 0 (AQ g) := by
  refine w_met (cc := cX4_empty) (maxL := 1) (ret := none) (own := RX4) (by decide) rfl rfl (Nat.le_of_ble_eq_true rfl) (fun p e s m below meth co S hr0 hlk hK hN hP hS ls hl => ?_)
  have hts := S.2.2.2.2
  have hl : lv_has ls 1 [(0, .ref (g.1 (5 + 21 * i + 4)))] := hl
  have hT : Same (TC) x x := Same.rf
  refine lv_aload_n S.1 S.2.1 dX4_empty_0 rfl (lv_at hl 0 rfl) ?_
  refine w_get (C := RX4) (T := TX4) (N := 3) S (fun _ h => List.mem_cons_of_mem _ (List.mem_append_left _ (List.mem_append_right _ h))) hK hP (5 + 21 * i + 4) (by have := h4; omega) ((ceP4 h4) _) rfl 0 (by decide) (hts _ (List.mem_of_getElem? (i := 1) rfl)) (v := .ref (g.1 (5 + 21 * i + 5))) rfl dX4_empty_1 ?_
  refine w_cVv (As := []) (rest := []) S hK hN hP hS hl (5 + 21 * i + 5) (by have := h4; omega) ((ceP5 h4) _) rfl (c_X3_empty l D g hg x hI (5 + 21 * i + 5) 65 (isRow5 h4)) (cwV 0 hts gX4_empty_X3_empty rfl rfl rfl (by decide +kernel) ⟨Nat.le_of_ble_eq_true rfl, Nat.le_of_ble_eq_true rfl⟩) rfl rfl (Nat.le_of_ble_eq_true rfl) dX4_empty_4 ⟨Nat.zero_le _, Nat.zero_le _⟩ (fun x1 H locs hq3 hP hS => ?_)
  obtain ⟨hI4, hT5, hf6⟩ := hq3
  have hT7 : Same (TC) x x1 := hT.tr hT5 (fun c0 k0 h => by unfold TC TrC at h; unfold TR; omega)
  refine lv_aload_n S.1 S.2.1 dX4_empty_7 rfl (lv_at hl 0 rfl) ?_
  refine w_iconst S dX4_empty_8 (by decide) (fun k8 hk8 => ?_)
  refine w_put (C := RX4) (T := TX4) (N := 3) (F := FStore g (5 + 21 * i)) S (fun _ h => List.mem_cons_of_mem _ (List.mem_append_left _ (List.mem_append_right _ h))) tyX4_ok nmX4 hK hg hP hS (5 + 21 * i + 4) (by have := h4; omega) (ceP4 h4) rfl 1 (by decide) (hts _ (List.mem_of_getElem? (i := 2) rfl)) rfl rfl rfl (fun _ => Nat.le_of_ble_eq_true rfl) (fun _ => rfl) dX4_empty_9 (fun x9 H locs ex9 hP hS => ?_)
  have hI10 : Inv x9 := by rw [ex9]; exact hI4.upP (j := 4) h4 (by decide) (i_ge _) (i_le _)
  have hT11 : Same (TC) x x9 := by rw [ex9]; exact hT7.up (by unfold TC TrC; omega)
  exact w_vret S hr0 hlk hP hS dX4_empty_12 (⟨hI10, hT11, trivial⟩)
set_option maxRecDepth 100000 in
set_option maxHeartbeats 4000000 in
theorem c_X4_dropEndMarks (l : Launch) (D : va_G) (g : GA) (hg : Inj g) (x : St) (hI : Inv x) (i : Nat) (h4 : i < 4) : Met l yX4_dropEndMarks wsX4_dropEndMarks ({ frames := 1, cells := 0, slots := 0, locals := 22 } : Room) (va_Pc [.ref (g.1 (5 + 21 * i + 4))] (WI D g x)) (va_Qv (fun x2 => Inv x2 ∧ Same TC x x2 ∧ True) (WO D g) (AQ g)) 0 0 (AQ g) := by
  refine w_met (cc := cX4_dropEndMarks) (maxL := 4) (ret := none) (own := RX4) (by decide) rfl rfl (Nat.le_of_ble_eq_true rfl) (fun p e s m below meth co S hr0 hlk hK hN hP hS ls hl => ?_)
  have hts := S.2.2.2.2
  have hl : lv_has ls 4 [(0, .ref (g.1 (5 + 21 * i + 4)))] := hl
  have hT : Same (TC) x x := Same.rf
  have J10 : ∀ (n0 : Nat) (x_10 : St) (H : Heap) (locs : List Loc) (ls : Array Slot) (y10_1 : Int32) (y10_2 : Int32), Inv x_10 → Same (TC) x x_10 → (0 ≤ y10_2.toInt) → (y10_1.toInt - y10_2.toInt).toNat < n0 → va_P D vwCl (WL g x_10) H → va_S (AQ g) s.heap H locs → lv_has ls 4 [(0, .ref (g.1 (5 + 21 * i + 4))), (1, .int y10_1), (2, .int y10_2)] → W p l e ({ frames := 1, cells := 0, slots := 0, locals := 22 } : Room) s m ([.ref (g.1 (5 + 21 * i + 4))] : List Value).toArray below meth co H locs 0 0 (MQ below (va_Qv (fun x2 => Inv x2 ∧ Same TC x x2 ∧ True) (WO D g) (AQ g)) ([.ref (g.1 (5 + 21 * i + 4))] : List Value).toArray s 0 0 (AQ g)) (F0 m 10 ls []) := by
    intro n0
    induction n0 with
    | zero => intro x_10 H locs ls y10_1 y10_2 hI_10 hT_10 hf10_0 hm_10 hP hS hl; exact absurd hm_10 (Nat.not_lt_zero _)
    | succ n0 ih10 =>
      intro x_10 H locs ls y10_1 y10_2 hI_10 hT_10 hf10_0 hm_10 hP hS hl
      have hb_ := i_le y10_1
      refine lv_iload_n S.1 S.2.1 dX4_dropEndMarks_10 rfl (lv_at hl 2 rfl) ?_
      refine lv_iload_n S.1 S.2.1 dX4_dropEndMarks_11 rfl (lv_at hl 1 rfl) ?_
      refine w_icmp_ge (tgt := 44) S dX4_dropEndMarks_12 (by decide) (fun hb1 => ?_) (fun hb1 => ?_)
      · exact w_vret S hr0 hlk hP hS dX4_dropEndMarks_44 (⟨hI_10, hT_10, trivial⟩)
      · refine lv_aload_n S.1 S.2.1 dX4_dropEndMarks_15 rfl (lv_at hl 0 rfl) ?_
        refine w_get (C := RX4) (T := TX4) (N := 3) S (fun _ h => List.mem_cons_of_mem _ (List.mem_append_left _ (List.mem_append_right _ h))) hK hP (5 + 21 * i + 4) (by have := h4; omega) ((ceP4 h4) _) rfl 0 (by decide) (hts _ (List.mem_of_getElem? (i := 1) rfl)) (v := .ref (g.1 (5 + 21 * i + 5))) rfl dX4_dropEndMarks_16 ?_
        refine w_cVi (As := []) (rest := []) S hK hN hP hS hl (5 + 21 * i + 5) (by have := h4; omega) ((ceP5 h4) _) rfl (c_X3_takeFirst l D g hg x_10 hI_10 (5 + 21 * i + 5) 65 (isRow5 h4)) (cwV 0 hts gX4_dropEndMarks_X3_takeFirst rfl rfl rfl (by decide +kernel) ⟨Nat.le_of_ble_eq_true rfl, Nat.le_of_ble_eq_true rfl⟩) rfl rfl (Nat.le_of_ble_eq_true rfl) dX4_dropEndMarks_19 ⟨Nat.zero_le _, Nat.zero_le _⟩ (fun r3 x2 H locs hq4 hP hS => ?_)
        obtain ⟨hI5, hT6, hf7⟩ := hq4
        have hT8 : Same (TC) x x2 := hT_10.tr hT6 (fun c0 k0 h => by unfold TC TrC at h; unfold TR; omega)
        refine lv_istore_n (lv' := [(3, .int r3), (0, .ref (g.1 (5 + 21 * i + 4))), (1, .int y10_1), (2, .int y10_2)]) S.1 S.2.1 dX4_dropEndMarks_22 rfl hl (by decide) rfl (fun ls hl => ?_)
        refine lv_iload_n S.1 S.2.1 dX4_dropEndMarks_23 rfl (lv_at hl 0 rfl) ?_
        refine w_sipush S dX4_dropEndMarks_24 (by decide) (fun k9 hk9 => ?_)
        refine w_icmp_eq (tgt := 38) S dX4_dropEndMarks_27 (by decide) (fun hb10 => ?_) (fun hb10 => ?_)
        · refine w_iinc (lv' := [(3, .int r3), (0, .ref (g.1 (5 + 21 * i + 4))), (1, .int y10_1)]) S dX4_dropEndMarks_38 hl (k := 3) rfl (by decide) (by decide) (by omega) (by omega) (fun _ => rfl) (fun v11 ls hv11 hl => ?_)
          refine lv_goto (tgt := 10) S.1 S.2.1 dX4_dropEndMarks_41 (by decide) ?_
          exact ih10 _ _ _ _ y10_1 v11 hI5 hT8 (by omega) (by omega) hP hS (lv_sub hl [2, 3, 0] rfl)
        · refine lv_aload_n S.1 S.2.1 dX4_dropEndMarks_30 rfl (lv_at hl 1 rfl) ?_
          refine w_get (C := RX4) (T := TX4) (N := 3) S (fun _ h => List.mem_cons_of_mem _ (List.mem_append_left _ (List.mem_append_right _ h))) hK hP (5 + 21 * i + 4) (by have := h4; omega) ((ceP4 h4) _) rfl 0 (by decide) (hts _ (List.mem_of_getElem? (i := 1) rfl)) (v := .ref (g.1 (5 + 21 * i + 5))) rfl dX4_dropEndMarks_31 ?_
          refine lv_iload_n S.1 S.2.1 dX4_dropEndMarks_34 rfl (lv_at hl 0 rfl) ?_
          refine w_cVv (As := [.int r3]) (rest := []) S hK hN hP hS hl (5 + 21 * i + 5) (by have := h4; omega) ((ceP5 h4) _) rfl (c_X3_add l D g hg x2 hI5 (5 + 21 * i + 5) 65 (isRow5 h4) r3) (cwV 1 hts gX4_dropEndMarks_X3_add rfl rfl rfl (by decide +kernel) ⟨Nat.le_of_ble_eq_true rfl, Nat.le_of_ble_eq_true rfl⟩) rfl rfl (Nat.le_of_ble_eq_true rfl) dX4_dropEndMarks_35 ⟨Nat.zero_le _, Nat.zero_le _⟩ (fun x12 H locs hq14 hP hS => ?_)
          obtain ⟨hI15, hT16, hf17⟩ := hq14
          have hT18 : Same (TC) x x12 := hT8.tr hT16 (fun c0 k0 h => by unfold TC TrC at h; unfold TR; omega)
          refine w_iinc (lv' := [(3, .int r3), (0, .ref (g.1 (5 + 21 * i + 4))), (1, .int y10_1)]) S dX4_dropEndMarks_38 hl (k := 3) rfl (by decide) (by decide) (by omega) (by omega) (fun _ => rfl) (fun v19 ls hv19 hl => ?_)
          refine lv_goto (tgt := 10) S.1 S.2.1 dX4_dropEndMarks_41 (by decide) ?_
          exact ih10 _ _ _ _ y10_1 v19 hI15 hT18 (by omega) (by omega) hP hS (lv_sub hl [2, 3, 0] rfl)
  refine lv_aload_n S.1 S.2.1 dX4_dropEndMarks_0 rfl (lv_at hl 0 rfl) ?_
  refine w_get (C := RX4) (T := TX4) (N := 3) S (fun _ h => List.mem_cons_of_mem _ (List.mem_append_left _ (List.mem_append_right _ h))) hK hP (5 + 21 * i + 4) (by have := h4; omega) ((ceP4 h4) _) rfl 0 (by decide) (hts _ (List.mem_of_getElem? (i := 1) rfl)) (v := .ref (g.1 (5 + 21 * i + 5))) rfl dX4_dropEndMarks_1 ?_
  refine w_getN (C := RX3) (T := TX3) (N := 3) S (fun _ h => List.mem_cons_of_mem _ (List.mem_append_right _ h)) hK hP (5 + 21 * i + 5) (by have := h4; omega) ((ceP5 h4) _) rfl 2 (by decide) (hN.1 _ (List.mem_of_getElem? (i := 5) rfl)) (v := .int (x (5 + 21 * i + 5) 2)) rfl dX4_dropEndMarks_4 ?_
  refine lv_topi (fun v20 ev20 => ?_)
  have wv20 : v20.toInt = (x (5 + 21 * i + 5) 2).toInt := by rw [ev20]
  have rv20 : (0 : Int) ≤ v20.toInt ∧ v20.toInt ≤ (65 : Int) := by rw [ev20]; exact hI.atP (j := 5) (k := 2) h4 (by decide)
  refine lv_istore_n (lv' := [(1, .int v20), (0, .ref (g.1 (5 + 21 * i + 4)))]) S.1 S.2.1 dX4_dropEndMarks_7 rfl hl (by decide) rfl (fun ls hl => ?_)
  refine w_iconst S dX4_dropEndMarks_8 (by decide) (fun k21 hk21 => ?_)
  refine lv_istore_n (lv' := [(2, .int k21), (1, .int v20), (0, .ref (g.1 (5 + 21 * i + 4)))]) S.1 S.2.1 dX4_dropEndMarks_9 rfl hl (by decide) rfl (fun ls hl => ?_)
  exact J10 _ _ _ _ _ v20 k21 hI hT (by omega) (Nat.lt_succ_self _) hP hS (lv_sub hl [2, 1, 0] rfl)
set_option maxRecDepth 100000 in
set_option maxHeartbeats 4000000 in
theorem c_X4_isBlank (l : Launch) (D : va_G) (g : GA) (hg : Inj g) (x : St) (hI : Inv x) (a : Int32) : Met l yX4_isBlank wsX4_isBlank ({ frames := 0, cells := 0, slots := 0, locals := 0 } : Room) (va_Pc [.int a] (WI D g x)) (va_Qi (fun r x2 => x2 = x ∧ (0 ≤ r.toInt ∧ r.toInt ≤ 1)) (WO D g) (AQ g)) 0 0 (AQ g) := by
  refine w_met (cc := cX4_isBlank) (maxL := 1) (ret := (some .boolean)) (own := RX4) (by decide) rfl rfl (Nat.le_of_ble_eq_true rfl) (fun p e s m below meth co S hr0 hlk hK hN hP hS ls hl => ?_)
  have hts := S.2.2.2.2
  have hl : lv_has ls 1 [(0, .int a)] := hl
  refine lv_iload_n S.1 S.2.1 dX4_isBlank_0 rfl (lv_at hl 0 rfl) ?_
  refine w_bipush S dX4_isBlank_1 (by decide) (fun k1 hk1 => ?_)
  refine w_icmp_eq (tgt := 12) S dX4_isBlank_3 (by decide) (fun hb2 => ?_) (fun hb2 => ?_)
  · refine w_iconst S dX4_isBlank_12 (by decide) (fun k3 hk3 => ?_)
    refine lv_goto (tgt := 17) S.1 S.2.1 dX4_isBlank_13 (by decide) ?_
    exact w_zret S hr0 hlk hP hS dX4_isBlank_17 (z01 (by omega) (by omega)) (⟨rfl, by omega⟩)
  · refine lv_iload_n S.1 S.2.1 dX4_isBlank_6 rfl (lv_at hl 0 rfl) ?_
    refine w_bipush S dX4_isBlank_7 (by decide) (fun k4 hk4 => ?_)
    refine w_icmp_ne (tgt := 16) S dX4_isBlank_9 (by decide) (fun hb5 => ?_) (fun hb5 => ?_)
    · refine w_iconst S dX4_isBlank_16 (by decide) (fun k6 hk6 => ?_)
      exact w_zret S hr0 hlk hP hS dX4_isBlank_17 (z01 (by omega) (by omega)) (⟨rfl, by omega⟩)
    · refine w_iconst S dX4_isBlank_12 (by decide) (fun k7 hk7 => ?_)
      refine lv_goto (tgt := 17) S.1 S.2.1 dX4_isBlank_13 (by decide) ?_
      exact w_zret S hr0 hlk hP hS dX4_isBlank_17 (z01 (by omega) (by omega)) (⟨rfl, by omega⟩)
set_option maxRecDepth 100000 in
set_option maxHeartbeats 4000000 in
theorem c_X4_lastWord (l : Launch) (D : va_G) (g : GA) (hg : Inj g) (x : St) (hI : Inv x) (i : Nat) (h4 : i < 4) : Met l yX4_lastWord wsX4_lastWord ({ frames := 1, cells := 0, slots := 0, locals := 22 } : Room) (va_Pc [.ref (g.1 (5 + 21 * i + 4))] (WI D g x)) (va_Qi (fun _ x2 => x2 = x ∧ True) (WO D g) (AQ g)) 0 0 (AQ g) := by
  refine w_met (cc := cX4_lastWord) (maxL := 3) (ret := (some .int)) (own := RX4) (by decide) rfl rfl (Nat.le_of_ble_eq_true rfl) (fun p e s m below meth co S hr0 hlk hK hN hP hS ls hl => ?_)
  have hts := S.2.2.2.2
  have hl : lv_has ls 3 [(0, .ref (g.1 (5 + 21 * i + 4)))] := hl
  have J42 : ∀ (n0 : Nat) (H : Heap) (locs : List Loc) (ls : Array Slot) (y42_1 : Int32) (y42_2 : Int32), (0 ≤ y42_2.toInt) → (y42_1.toInt - y42_2.toInt).toNat < n0 → va_P D vwCl (WL g x) H → va_S (AQ g) s.heap H locs → lv_has ls 3 [(0, .ref (g.1 (5 + 21 * i + 4))), (1, .int y42_1), (2, .int y42_2)] → W p l e ({ frames := 1, cells := 0, slots := 0, locals := 22 } : Room) s m ([.ref (g.1 (5 + 21 * i + 4))] : List Value).toArray below meth co H locs 0 0 (MQ below (va_Qi (fun _ x2 => x2 = x ∧ True) (WO D g) (AQ g)) ([.ref (g.1 (5 + 21 * i + 4))] : List Value).toArray s 0 0 (AQ g)) (F0 m 42 ls []) := by
    intro n0
    induction n0 with
    | zero => intro H locs ls y42_1 y42_2 hf42_0 hm_42 hP hS hl; exact absurd hm_42 (Nat.not_lt_zero _)
    | succ n0 ih42 =>
      intro H locs ls y42_1 y42_2 hf42_0 hm_42 hP hS hl
      have hb_ := i_le y42_1
      refine lv_iload_n S.1 S.2.1 dX4_lastWord_42 rfl (lv_at hl 2 rfl) ?_
      refine lv_iload_n S.1 S.2.1 dX4_lastWord_43 rfl (lv_at hl 1 rfl) ?_
      refine w_icmp_ge (tgt := 77) S dX4_lastWord_44 (by decide) (fun hb1 => ?_) (fun hb1 => ?_)
      · refine lv_iload_n S.1 S.2.1 dX4_lastWord_77 rfl (lv_at hl 2 rfl) ?_
        exact w_iret S hr0 hlk hP hS dX4_lastWord_78 (⟨rfl, trivial⟩)
      · refine lv_aload_n S.1 S.2.1 dX4_lastWord_47 rfl (lv_at hl 0 rfl) ?_
        refine w_get (C := RX4) (T := TX4) (N := 3) S (fun _ h => List.mem_cons_of_mem _ (List.mem_append_left _ (List.mem_append_right _ h))) hK hP (5 + 21 * i + 4) (by have := h4; omega) ((ceP4 h4) _) rfl 0 (by decide) (hts _ (List.mem_of_getElem? (i := 1) rfl)) (v := .ref (g.1 (5 + 21 * i + 5))) rfl dX4_lastWord_48 ?_
        refine lv_aload_n S.1 S.2.1 dX4_lastWord_51 rfl (lv_at hl 0 rfl) ?_
        refine w_get (C := RX4) (T := TX4) (N := 3) S (fun _ h => List.mem_cons_of_mem _ (List.mem_append_left _ (List.mem_append_right _ h))) hK hP (5 + 21 * i + 4) (by have := h4; omega) ((ceP4 h4) _) rfl 0 (by decide) (hts _ (List.mem_of_getElem? (i := 1) rfl)) (v := .ref (g.1 (5 + 21 * i + 5))) rfl dX4_lastWord_52 ?_
        refine w_getN (C := RX3) (T := TX3) (N := 3) S (fun _ h => List.mem_cons_of_mem _ (List.mem_append_right _ h)) hK hP (5 + 21 * i + 5) (by have := h4; omega) ((ceP5 h4) _) rfl 2 (by decide) (hN.1 _ (List.mem_of_getElem? (i := 5) rfl)) (v := .int (x (5 + 21 * i + 5) 2)) rfl dX4_lastWord_55 ?_
        refine lv_topi (fun v2 ev2 => ?_)
        have wv2 : v2.toInt = (x (5 + 21 * i + 5) 2).toInt := by rw [ev2]
        have rv2 : (0 : Int) ≤ v2.toInt ∧ v2.toInt ≤ (65 : Int) := by rw [ev2]; exact hI.atP (j := 5) (k := 2) h4 (by decide)
        refine w_iconst S dX4_lastWord_58 (by decide) (fun k3 hk3 => ?_)
        refine w_isub S dX4_lastWord_59 (by omega) (by omega) (fun v4 hv4 => ?_)
        refine lv_iload_n S.1 S.2.1 dX4_lastWord_60 rfl (lv_at hl 2 rfl) ?_
        refine w_isub S dX4_lastWord_61 (by omega) (by omega) (fun v5 hv5 => ?_)
        refine w_cVi (As := [.int v5]) (rest := []) S hK hN hP hS hl (5 + 21 * i + 5) (by have := h4; omega) ((ceP5 h4) _) rfl (c_X3_at l D g hg x hI (5 + 21 * i + 5) 65 (isRow5 h4) v5) (cwV 1 hts gX4_lastWord_X3_at rfl rfl rfl (by decide +kernel) ⟨Nat.le_of_ble_eq_true rfl, Nat.le_of_ble_eq_true rfl⟩) rfl rfl (Nat.le_of_ble_eq_true rfl) dX4_lastWord_62 ⟨Nat.zero_le _, Nat.zero_le _⟩ (fun r7 x6 H locs hq8 hP hS => ?_)
        obtain ⟨ex9, hf10⟩ := hq8
        rw [ex9] at hP
        refine w_cSi (As := [.int r7]) (rest := []) S hK hN hP hS hl (c_X4_isBlank l D g hg x hI r7) (va_cwS 1 hts gX4_lastWord_X4_isBlank rfl rfl rfl (by decide +kernel) ⟨Nat.le_of_ble_eq_true rfl, Nat.le_of_ble_eq_true rfl⟩) rfl rfl (Nat.le_of_ble_eq_true rfl) dX4_lastWord_65 ⟨Nat.zero_le _, Nat.zero_le _⟩ (fun r12 x11 H locs hq13 hP hS => ?_)
        obtain ⟨ex14, hf15⟩ := hq13
        rw [ex14] at hP
        refine w_if_ne (tgt := 77) S dX4_lastWord_68 (by decide) (fun hb16 => ?_) (fun hb16 => ?_)
        · refine lv_iload_n S.1 S.2.1 dX4_lastWord_77 rfl (lv_at hl 2 rfl) ?_
          exact w_iret S hr0 hlk hP hS dX4_lastWord_78 (⟨rfl, trivial⟩)
        · refine w_iinc (lv' := [(0, .ref (g.1 (5 + 21 * i + 4))), (1, .int y42_1)]) S dX4_lastWord_71 hl (k := 2) rfl (by decide) (by decide) (by omega) (by omega) (fun _ => rfl) (fun v17 ls hv17 hl => ?_)
          refine lv_goto (tgt := 42) S.1 S.2.1 dX4_lastWord_74 (by decide) ?_
          exact ih42 _ _ _ y42_1 v17 (by omega) (by omega) hP hS (lv_sub hl [1, 2, 0] rfl)
  have J7 : ∀ (n0 : Nat) (H : Heap) (locs : List Loc) (ls : Array Slot) (y7_1 : Int32) (y7_2 : Int32), (0 ≤ y7_2.toInt) → (y7_1.toInt - y7_2.toInt).toNat < n0 → va_P D vwCl (WL g x) H → va_S (AQ g) s.heap H locs → lv_has ls 3 [(0, .ref (g.1 (5 + 21 * i + 4))), (1, .int y7_1), (2, .int y7_2)] → W p l e ({ frames := 1, cells := 0, slots := 0, locals := 22 } : Room) s m ([.ref (g.1 (5 + 21 * i + 4))] : List Value).toArray below meth co H locs 0 0 (MQ below (va_Qi (fun _ x2 => x2 = x ∧ True) (WO D g) (AQ g)) ([.ref (g.1 (5 + 21 * i + 4))] : List Value).toArray s 0 0 (AQ g)) (F0 m 7 ls []) := by
    intro n0
    induction n0 with
    | zero => intro H locs ls y7_1 y7_2 hf7_0 hm_7 hP hS hl; exact absurd hm_7 (Nat.not_lt_zero _)
    | succ n0 ih7 =>
      intro H locs ls y7_1 y7_2 hf7_0 hm_7 hP hS hl
      have hb_ := i_le y7_1
      refine lv_iload_n S.1 S.2.1 dX4_lastWord_7 rfl (lv_at hl 2 rfl) ?_
      refine lv_iload_n S.1 S.2.1 dX4_lastWord_8 rfl (lv_at hl 1 rfl) ?_
      refine w_icmp_ge (tgt := 42) S dX4_lastWord_9 (by decide) (fun hb18 => ?_) (fun hb18 => ?_)
      · exact J42 _ _ _ _ y7_1 y7_2 (by omega) (Nat.lt_succ_self _) hP hS (lv_sub hl [0, 1, 2] rfl)
      · refine lv_aload_n S.1 S.2.1 dX4_lastWord_12 rfl (lv_at hl 0 rfl) ?_
        refine w_get (C := RX4) (T := TX4) (N := 3) S (fun _ h => List.mem_cons_of_mem _ (List.mem_append_left _ (List.mem_append_right _ h))) hK hP (5 + 21 * i + 4) (by have := h4; omega) ((ceP4 h4) _) rfl 0 (by decide) (hts _ (List.mem_of_getElem? (i := 1) rfl)) (v := .ref (g.1 (5 + 21 * i + 5))) rfl dX4_lastWord_13 ?_
        refine lv_aload_n S.1 S.2.1 dX4_lastWord_16 rfl (lv_at hl 0 rfl) ?_
        refine w_get (C := RX4) (T := TX4) (N := 3) S (fun _ h => List.mem_cons_of_mem _ (List.mem_append_left _ (List.mem_append_right _ h))) hK hP (5 + 21 * i + 4) (by have := h4; omega) ((ceP4 h4) _) rfl 0 (by decide) (hts _ (List.mem_of_getElem? (i := 1) rfl)) (v := .ref (g.1 (5 + 21 * i + 5))) rfl dX4_lastWord_17 ?_
        refine w_getN (C := RX3) (T := TX3) (N := 3) S (fun _ h => List.mem_cons_of_mem _ (List.mem_append_right _ h)) hK hP (5 + 21 * i + 5) (by have := h4; omega) ((ceP5 h4) _) rfl 2 (by decide) (hN.1 _ (List.mem_of_getElem? (i := 5) rfl)) (v := .int (x (5 + 21 * i + 5) 2)) rfl dX4_lastWord_20 ?_
        refine lv_topi (fun v19 ev19 => ?_)
        have wv19 : v19.toInt = (x (5 + 21 * i + 5) 2).toInt := by rw [ev19]
        have rv19 : (0 : Int) ≤ v19.toInt ∧ v19.toInt ≤ (65 : Int) := by rw [ev19]; exact hI.atP (j := 5) (k := 2) h4 (by decide)
        refine w_iconst S dX4_lastWord_23 (by decide) (fun k20 hk20 => ?_)
        refine w_isub S dX4_lastWord_24 (by omega) (by omega) (fun v21 hv21 => ?_)
        refine lv_iload_n S.1 S.2.1 dX4_lastWord_25 rfl (lv_at hl 2 rfl) ?_
        refine w_isub S dX4_lastWord_26 (by omega) (by omega) (fun v22 hv22 => ?_)
        refine w_cVi (As := [.int v22]) (rest := []) S hK hN hP hS hl (5 + 21 * i + 5) (by have := h4; omega) ((ceP5 h4) _) rfl (c_X3_at l D g hg x hI (5 + 21 * i + 5) 65 (isRow5 h4) v22) (cwV 1 hts gX4_lastWord_X3_at rfl rfl rfl (by decide +kernel) ⟨Nat.le_of_ble_eq_true rfl, Nat.le_of_ble_eq_true rfl⟩) rfl rfl (Nat.le_of_ble_eq_true rfl) dX4_lastWord_27 ⟨Nat.zero_le _, Nat.zero_le _⟩ (fun r24 x23 H locs hq25 hP hS => ?_)
        obtain ⟨ex26, hf27⟩ := hq25
        rw [ex26] at hP
        refine w_cSi (As := [.int r24]) (rest := []) S hK hN hP hS hl (c_X4_isBlank l D g hg x hI r24) (va_cwS 1 hts gX4_lastWord_X4_isBlank rfl rfl rfl (by decide +kernel) ⟨Nat.le_of_ble_eq_true rfl, Nat.le_of_ble_eq_true rfl⟩) rfl rfl (Nat.le_of_ble_eq_true rfl) dX4_lastWord_30 ⟨Nat.zero_le _, Nat.zero_le _⟩ (fun r29 x28 H locs hq30 hP hS => ?_)
        obtain ⟨ex31, hf32⟩ := hq30
        rw [ex31] at hP
        refine w_if_eq (tgt := 42) S dX4_lastWord_33 (by decide) (fun hb33 => ?_) (fun hb33 => ?_)
        · exact J42 _ _ _ _ y7_1 y7_2 (by omega) (Nat.lt_succ_self _) hP hS (lv_sub hl [0, 1, 2] rfl)
        · refine w_iinc (lv' := [(0, .ref (g.1 (5 + 21 * i + 4))), (1, .int y7_1)]) S dX4_lastWord_36 hl (k := 2) rfl (by decide) (by decide) (by omega) (by omega) (fun _ => rfl) (fun v34 ls hv34 hl => ?_)
          refine lv_goto (tgt := 7) S.1 S.2.1 dX4_lastWord_39 (by decide) ?_
          exact ih7 _ _ _ y7_1 v34 (by omega) (by omega) hP hS (lv_sub hl [1, 2, 0] rfl)
  refine lv_aload_n S.1 S.2.1 dX4_lastWord_0 rfl (lv_at hl 0 rfl) ?_
  refine w_cVi (As := []) (rest := []) S hK hN hP hS hl (5 + 21 * i + 4) (by have := h4; omega) ((ceP4 h4) _) rfl (c_X4_openLine l D g hg x hI i h4) (cwV 0 hts gX4_lastWord_X4_openLine rfl rfl rfl (by decide +kernel) ⟨Nat.le_of_ble_eq_true rfl, Nat.le_of_ble_eq_true rfl⟩) rfl rfl (Nat.le_of_ble_eq_true rfl) dX4_lastWord_1 ⟨Nat.zero_le _, Nat.zero_le _⟩ (fun r36 x35 H locs hq37 hP hS => ?_)
  obtain ⟨ex38, hf39⟩ := hq37
  rw [ex38] at hP
  refine lv_istore_n (lv' := [(1, .int r36), (0, .ref (g.1 (5 + 21 * i + 4)))]) S.1 S.2.1 dX4_lastWord_4 rfl hl (by decide) rfl (fun ls hl => ?_)
  refine w_iconst S dX4_lastWord_5 (by decide) (fun k40 hk40 => ?_)
  refine lv_istore_n (lv' := [(2, .int k40), (1, .int r36), (0, .ref (g.1 (5 + 21 * i + 4)))]) S.1 S.2.1 dX4_lastWord_6 rfl hl (by decide) rfl (fun ls hl => ?_)
  exact J7 _ _ _ _ r36 k40 (by omega) (Nat.lt_succ_self _) hP hS (lv_sub hl [2, 1, 0] rfl)
set_option maxRecDepth 100000 in
set_option maxHeartbeats 4000000 in
theorem c_X1_size (l : Launch) (D : va_G) (g : GA) (hg : Inj g) (x : St) (hI : Inv x) (i : Nat) (h4 : i < 4) : Met l yX1_size wsX1_size ({ frames := 0, cells := 0, slots := 0, locals := 0 } : Room) (va_Pc [.ref (g.1 (5 + 21 * i + 7))] (WI D g x)) (va_Qi (fun r x2 => x2 = x ∧ r.toInt = (x (5 + 21 * i + 8) 2).toInt + (x (5 + 21 * i + 10) 2).toInt) (WO D g) (AQ g)) 0 0 (AQ g) := by
  refine w_met (cc := cX1_size) (maxL := 1) (ret := (some .int)) (own := RX1) (by decide) rfl rfl (Nat.le_of_ble_eq_true rfl) (fun p e s m below meth co S hr0 hlk hK hN hP hS ls hl => ?_)
  have hts := S.2.2.2.2
  have hl : lv_has ls 1 [(0, .ref (g.1 (5 + 21 * i + 7)))] := hl
  refine lv_aload_n S.1 S.2.1 dX1_size_0 rfl (lv_at hl 0 rfl) ?_
  refine w_get (C := RX1) (T := TX1) (N := 5) S (fun _ h => List.mem_cons_of_mem _ (List.mem_append_left _ (List.mem_append_right _ h))) hK hP (5 + 21 * i + 7) (by have := h4; omega) ((ceP7 h4) _) rfl 0 (by decide) (hts _ (List.mem_of_getElem? (i := 1) rfl)) (v := .ref (g.1 (5 + 21 * i + 8))) rfl dX1_size_1 ?_
  refine w_getN (C := RX3) (T := TX3) (N := 3) S (fun _ h => List.mem_cons_of_mem _ (List.mem_append_right _ h)) hK hP (5 + 21 * i + 8) (by have := h4; omega) ((ceP8 h4) _) rfl 2 (by decide) (hN.1 _ (List.mem_of_getElem? (i := 4) rfl)) (v := .int (x (5 + 21 * i + 8) 2)) rfl dX1_size_4 ?_
  refine lv_topi (fun v1 ev1 => ?_)
  have wv1 : v1.toInt = (x (5 + 21 * i + 8) 2).toInt := by rw [ev1]
  have rv1 : (0 : Int) ≤ v1.toInt ∧ v1.toInt ≤ (64 : Int) := by rw [ev1]; exact hI.atP (j := 8) (k := 2) h4 (by decide)
  refine lv_aload_n S.1 S.2.1 dX1_size_7 rfl (lv_at hl 0 rfl) ?_
  refine w_get (C := RX1) (T := TX1) (N := 5) S (fun _ h => List.mem_cons_of_mem _ (List.mem_append_left _ (List.mem_append_right _ h))) hK hP (5 + 21 * i + 7) (by have := h4; omega) ((ceP7 h4) _) rfl 1 (by decide) (hts _ (List.mem_of_getElem? (i := 2) rfl)) (v := .ref (g.1 (5 + 21 * i + 10))) rfl dX1_size_8 ?_
  refine w_getN (C := RX3) (T := TX3) (N := 3) S (fun _ h => List.mem_cons_of_mem _ (List.mem_append_right _ h)) hK hP (5 + 21 * i + 10) (by have := h4; omega) ((ceP10 h4) _) rfl 2 (by decide) (hN.1 _ (List.mem_of_getElem? (i := 4) rfl)) (v := .int (x (5 + 21 * i + 10) 2)) rfl dX1_size_11 ?_
  refine lv_topi (fun v2 ev2 => ?_)
  have wv2 : v2.toInt = (x (5 + 21 * i + 10) 2).toInt := by rw [ev2]
  have rv2 : (0 : Int) ≤ v2.toInt ∧ v2.toInt ≤ (8 : Int) := by rw [ev2]; exact hI.atP (j := 10) (k := 2) h4 (by decide)
  refine w_iadd S dX1_size_14 (by omega) (by omega) (fun v3 hv3 => ?_)
  exact w_iret S hr0 hlk hP hS dX1_size_15 (⟨rfl, by omega⟩)
set_option maxRecDepth 100000 in
set_option maxHeartbeats 4000000 in
theorem c_X1_columnBehind (l : Launch) (D : va_G) (g : GA) (hg : Inj g) (x : St) (hI : Inv x) (i : Nat) (h4 : i < 4) (b : Int32) : Met l yX1_columnBehind wsX1_columnBehind ({ frames := 0, cells := 0, slots := 0, locals := 0 } : Room) (va_Pc [.ref (g.1 (5 + 21 * i + 7)), .int b] (WI D g x)) (va_Qi (fun _ x2 => x2 = x ∧ True) (WO D g) (AQ g)) 0 0 (AQ g) := by
  refine w_met (cc := cX1_columnBehind) (maxL := 2) (ret := (some .int)) (own := RX1) (by decide) rfl rfl (Nat.le_of_ble_eq_true rfl) (fun p e s m below meth co S hr0 hlk hK hN hP hS ls hl => ?_)
  have hts := S.2.2.2.2
  have hl : lv_has ls 2 [(0, .ref (g.1 (5 + 21 * i + 7))), (1, .int b)] := hl
  refine lv_iload_n S.1 S.2.1 dX1_columnBehind_0 rfl (lv_at hl 1 rfl) ?_
  refine w_bipush S dX1_columnBehind_1 (by decide) (fun k1 hk1 => ?_)
  refine w_icmp_ne (tgt := 8) S dX1_columnBehind_3 (by decide) (fun hb2 => ?_) (fun hb2 => ?_)
  · refine lv_iload_n S.1 S.2.1 dX1_columnBehind_8 rfl (lv_at hl 1 rfl) ?_
    refine w_bipush S dX1_columnBehind_9 (by decide) (fun k3 hk3 => ?_)
    refine w_icmp_ne (tgt := 32) S dX1_columnBehind_11 (by decide) (fun hb4 => ?_) (fun hb4 => ?_)
    · refine lv_iload_n S.1 S.2.1 dX1_columnBehind_32 rfl (lv_at hl 1 rfl) ?_
      refine w_bipush S dX1_columnBehind_33 (by decide) (fun k5 hk5 => ?_)
      refine w_icmp_ne (tgt := 51) S dX1_columnBehind_35 (by decide) (fun hb6 => ?_) (fun hb6 => ?_)
      · refine lv_iload_n S.1 S.2.1 dX1_columnBehind_51 rfl (lv_at hl 1 rfl) ?_
        refine w_bipush S dX1_columnBehind_52 (by decide) (fun k7 hk7 => ?_)
        refine w_icmp_lt (tgt := 72) S dX1_columnBehind_54 (by decide) (fun hb8 => ?_) (fun hb8 => ?_)
        · refine lv_aload_n S.1 S.2.1 dX1_columnBehind_72 rfl (lv_at hl 0 rfl) ?_
          refine w_get (C := RX1) (T := TX1) (N := 5) S (fun _ h => List.mem_cons_of_mem _ (List.mem_append_right _ h)) hK hP (5 + 21 * i + 7) (by have := h4; omega) ((ceP7 h4) _) rfl 2 (by decide) (hts _ (List.mem_of_getElem? (i := 1) rfl)) (v := .int (x (5 + 21 * i + 7) 2)) rfl dX1_columnBehind_73 ?_
          refine lv_topi (fun v9 ev9 => ?_)
          have wv9 : v9.toInt = (x (5 + 21 * i + 7) 2).toInt := by rw [ev9]
          exact w_iret S hr0 hlk hP hS dX1_columnBehind_76 (⟨rfl, trivial⟩)
        · refine lv_iload_n S.1 S.2.1 dX1_columnBehind_57 rfl (lv_at hl 1 rfl) ?_
          refine w_bipush S dX1_columnBehind_58 (by decide) (fun k10 hk10 => ?_)
          refine w_icmp_eq (tgt := 72) S dX1_columnBehind_60 (by decide) (fun hb11 => ?_) (fun hb11 => ?_)
          · refine lv_aload_n S.1 S.2.1 dX1_columnBehind_72 rfl (lv_at hl 0 rfl) ?_
            refine w_get (C := RX1) (T := TX1) (N := 5) S (fun _ h => List.mem_cons_of_mem _ (List.mem_append_right _ h)) hK hP (5 + 21 * i + 7) (by have := h4; omega) ((ceP7 h4) _) rfl 2 (by decide) (hts _ (List.mem_of_getElem? (i := 1) rfl)) (v := .int (x (5 + 21 * i + 7) 2)) rfl dX1_columnBehind_73 ?_
            refine lv_topi (fun v12 ev12 => ?_)
            have wv12 : v12.toInt = (x (5 + 21 * i + 7) 2).toInt := by rw [ev12]
            exact w_iret S hr0 hlk hP hS dX1_columnBehind_76 (⟨rfl, trivial⟩)
          · refine lv_aload_n S.1 S.2.1 dX1_columnBehind_63 rfl (lv_at hl 0 rfl) ?_
            refine w_get (C := RX1) (T := TX1) (N := 5) S (fun _ h => List.mem_cons_of_mem _ (List.mem_append_right _ h)) hK hP (5 + 21 * i + 7) (by have := h4; omega) ((ceP7 h4) _) rfl 2 (by decide) (hts _ (List.mem_of_getElem? (i := 1) rfl)) (v := .int (x (5 + 21 * i + 7) 2)) rfl dX1_columnBehind_64 ?_
            refine lv_topi (fun v13 ev13 => ?_)
            have wv13 : v13.toInt = (x (5 + 21 * i + 7) 2).toInt := by rw [ev13]
            refine w_iconst S dX1_columnBehind_67 (by decide) (fun k14 hk14 => ?_)
            refine lv_iadd S.1 S.2.1 dX1_columnBehind_68 ?_
            refine w_any1 (fun v15 => ?_)
            refine lv_goto (tgt := 76) S.1 S.2.1 dX1_columnBehind_69 (by decide) ?_
            exact w_iret S hr0 hlk hP hS dX1_columnBehind_76 (⟨rfl, trivial⟩)
      · refine lv_aload_n S.1 S.2.1 dX1_columnBehind_38 rfl (lv_at hl 0 rfl) ?_
        refine w_get (C := RX1) (T := TX1) (N := 5) S (fun _ h => List.mem_cons_of_mem _ (List.mem_append_right _ h)) hK hP (5 + 21 * i + 7) (by have := h4; omega) ((ceP7 h4) _) rfl 2 (by decide) (hts _ (List.mem_of_getElem? (i := 1) rfl)) (v := .int (x (5 + 21 * i + 7) 2)) rfl dX1_columnBehind_39 ?_
        refine lv_topi (fun v16 ev16 => ?_)
        have wv16 : v16.toInt = (x (5 + 21 * i + 7) 2).toInt := by rw [ev16]
        refine w_bipush S dX1_columnBehind_42 (by decide) (fun k17 hk17 => ?_)
        refine lv_idiv S.1 S.2.1 dX1_columnBehind_44 (by intro e0; rw [e0] at hk17; exact absurd hk17 (by decide)) ?_
        refine w_any1 (fun v18 => ?_)
        refine w_iconst S dX1_columnBehind_45 (by decide) (fun k19 hk19 => ?_)
        refine lv_iadd S.1 S.2.1 dX1_columnBehind_46 ?_
        refine w_any1 (fun v20 => ?_)
        refine w_bipush S dX1_columnBehind_47 (by decide) (fun k21 hk21 => ?_)
        refine lv_imul S.1 S.2.1 dX1_columnBehind_49 ?_
        refine w_any1 (fun v22 => ?_)
        exact w_iret S hr0 hlk hP hS dX1_columnBehind_50 (⟨rfl, trivial⟩)
    · refine lv_aload_n S.1 S.2.1 dX1_columnBehind_14 rfl (lv_at hl 0 rfl) ?_
      refine w_get (C := RX1) (T := TX1) (N := 5) S (fun _ h => List.mem_cons_of_mem _ (List.mem_append_right _ h)) hK hP (5 + 21 * i + 7) (by have := h4; omega) ((ceP7 h4) _) rfl 2 (by decide) (hts _ (List.mem_of_getElem? (i := 1) rfl)) (v := .int (x (5 + 21 * i + 7) 2)) rfl dX1_columnBehind_15 ?_
      refine lv_topi (fun v23 ev23 => ?_)
      have wv23 : v23.toInt = (x (5 + 21 * i + 7) 2).toInt := by rw [ev23]
      refine w_if_le (tgt := 30) S dX1_columnBehind_18 (by decide) (fun hb24 => ?_) (fun hb24 => ?_)
      · refine w_iconst S dX1_columnBehind_30 (by decide) (fun k25 hk25 => ?_)
        exact w_iret S hr0 hlk hP hS dX1_columnBehind_31 (⟨rfl, trivial⟩)
      · refine lv_aload_n S.1 S.2.1 dX1_columnBehind_21 rfl (lv_at hl 0 rfl) ?_
        refine w_get (C := RX1) (T := TX1) (N := 5) S (fun _ h => List.mem_cons_of_mem _ (List.mem_append_right _ h)) hK hP (5 + 21 * i + 7) (by have := h4; omega) ((ceP7 h4) _) rfl 2 (by decide) (hts _ (List.mem_of_getElem? (i := 1) rfl)) (v := .int (x (5 + 21 * i + 7) 2)) rfl dX1_columnBehind_22 ?_
        refine lv_topi (fun v26 ev26 => ?_)
        have wv26 : v26.toInt = (x (5 + 21 * i + 7) 2).toInt := by rw [ev26]
        refine w_iconst S dX1_columnBehind_25 (by decide) (fun k27 hk27 => ?_)
        refine lv_isub S.1 S.2.1 dX1_columnBehind_26 ?_
        refine w_any1 (fun v28 => ?_)
        refine lv_goto (tgt := 31) S.1 S.2.1 dX1_columnBehind_27 (by decide) ?_
        exact w_iret S hr0 hlk hP hS dX1_columnBehind_31 (⟨rfl, trivial⟩)
  · refine w_iconst S dX1_columnBehind_6 (by decide) (fun k29 hk29 => ?_)
    exact w_iret S hr0 hlk hP hS dX1_columnBehind_7 (⟨rfl, trivial⟩)
set_option maxRecDepth 100000 in
set_option maxHeartbeats 4000000 in
theorem c_X1_blanksOfTab (l : Launch) (D : va_G) (g : GA) (hg : Inj g) (x : St) (hI : Inv x) (i : Nat) (h4 : i < 4) : Met l yX1_blanksOfTab wsX1_blanksOfTab ({ frames := 0, cells := 0, slots := 0, locals := 0 } : Room) (va_Pc [.ref (g.1 (5 + 21 * i + 7))] (WI D g x)) (va_Qi (fun _ x2 => x2 = x ∧ True) (WO D g) (AQ g)) 0 0 (AQ g) := by
  refine w_met (cc := cX1_blanksOfTab) (maxL := 1) (ret := (some .int)) (own := RX1) (by decide) rfl rfl (Nat.le_of_ble_eq_true rfl) (fun p e s m below meth co S hr0 hlk hK hN hP hS ls hl => ?_)
  have hts := S.2.2.2.2
  have hl : lv_has ls 1 [(0, .ref (g.1 (5 + 21 * i + 7)))] := hl
  refine w_bipush S dX1_blanksOfTab_0 (by decide) (fun k1 hk1 => ?_)
  refine lv_aload_n S.1 S.2.1 dX1_blanksOfTab_2 rfl (lv_at hl 0 rfl) ?_
  refine w_get (C := RX1) (T := TX1) (N := 5) S (fun _ h => List.mem_cons_of_mem _ (List.mem_append_right _ h)) hK hP (5 + 21 * i + 7) (by have := h4; omega) ((ceP7 h4) _) rfl 2 (by decide) (hts _ (List.mem_of_getElem? (i := 1) rfl)) (v := .int (x (5 + 21 * i + 7) 2)) rfl dX1_blanksOfTab_3 ?_
  refine lv_topi (fun v2 ev2 => ?_)
  have wv2 : v2.toInt = (x (5 + 21 * i + 7) 2).toInt := by rw [ev2]
  refine w_bipush S dX1_blanksOfTab_6 (by decide) (fun k3 hk3 => ?_)
  refine lv_irem S.1 S.2.1 dX1_blanksOfTab_8 (by intro e0; rw [e0] at hk3; exact absurd hk3 (by decide)) ?_
  refine w_any1 (fun v4 => ?_)
  refine lv_isub S.1 S.2.1 dX1_blanksOfTab_9 ?_
  refine w_any1 (fun v5 => ?_)
  exact w_iret S hr0 hlk hP hS dX1_blanksOfTab_10 (⟨rfl, trivial⟩)
set_option maxRecDepth 100000 in
set_option maxHeartbeats 4000000 in
theorem c_X1_accept (l : Launch) (D : va_G) (g : GA) (hg : Inj g) (x : St) (hI : Inv x) (i : Nat) (h4 : i < 4) : Met l yX1_accept wsX1_accept ({ frames := 1, cells := 0, slots := 0, locals := 22 } : Room) (va_Pc [.ref (g.1 (5 + 21 * i + 7)), .ref (g.1 (5 + 21 * i + 17))] (WI D g x)) (va_Qi (fun r x2 => Inv x2 ∧ Same TC x x2 ∧ (0 ≤ r.toInt ∧ r.toInt ≤ 1)) (WO D g) (AQ g)) 0 0 (AQ g) := by
  refine w_met (cc := cX1_accept) (maxL := 4) (ret := (some .boolean)) (own := RX1) (by decide) rfl rfl (Nat.le_of_ble_eq_true rfl) (fun p e s m below meth co S hr0 hlk hK hN hP hS ls hl => ?_)
  have hts := S.2.2.2.2
  have hl : lv_has ls 4 [(0, .ref (g.1 (5 + 21 * i + 7))), (1, .ref (g.1 (5 + 21 * i + 17)))] := hl
  have hT : Same (TC) x x := Same.rf
  have J18 : ∀ (n0 : Nat) (x_18 : St) (H : Heap) (locs : List Loc) (ls : Array Slot) (y18_2 : Int32), Inv x_18 → Same (TC) x x_18 → (0 ≤ y18_2.toInt) → (y18_2.toInt ≤ 134) → (134 - y18_2.toInt).toNat < n0 → va_P D vwCl (WL g x_18) H → va_S (AQ g) s.heap H locs → lv_has ls 4 [(0, .ref (g.1 (5 + 21 * i + 7))), (1, .ref (g.1 (5 + 21 * i + 17))), (2, .int y18_2)] → W p l e ({ frames := 1, cells := 0, slots := 0, locals := 22 } : Room) s m ([.ref (g.1 (5 + 21 * i + 7)), .ref (g.1 (5 + 21 * i + 17))] : List Value).toArray below meth co H locs 0 0 (MQ below (va_Qi (fun r x2 => Inv x2 ∧ Same TC x x2 ∧ (0 ≤ r.toInt ∧ r.toInt ≤ 1)) (WO D g) (AQ g)) ([.ref (g.1 (5 + 21 * i + 7)), .ref (g.1 (5 + 21 * i + 17))] : List Value).toArray s 0 0 (AQ g)) (F0 m 18 ls []) := by
    intro n0
    induction n0 with
    | zero => intro x_18 H locs ls y18_2 hI_18 hT_18 hf18_0 hf18_1 hm_18 hP hS hl; exact absurd hm_18 (Nat.not_lt_zero _)
    | succ n0 ih18 =>
      intro x_18 H locs ls y18_2 hI_18 hT_18 hf18_0 hf18_1 hm_18 hP hS hl
      refine lv_iload_n S.1 S.2.1 dX1_accept_18 rfl (lv_at hl 2 rfl) ?_
      refine lv_aload_n S.1 S.2.1 dX1_accept_19 rfl (lv_at hl 1 rfl) ?_
      refine w_getN (C := RX3) (T := TX3) (N := 3) S (fun _ h => List.mem_cons_of_mem _ (List.mem_append_right _ h)) hK hP (5 + 21 * i + 17) (by have := h4; omega) ((ceP17 h4) _) rfl 2 (by decide) (hN.1 _ (List.mem_of_getElem? (i := 4) rfl)) (v := .int (x_18 (5 + 21 * i + 17) 2)) rfl dX1_accept_20 ?_
      refine lv_topi (fun v1 ev1 => ?_)
      have wv1 : v1.toInt = (x_18 (5 + 21 * i + 17) 2).toInt := by rw [ev1]
      have rv1 : (0 : Int) ≤ v1.toInt ∧ v1.toInt ≤ (134 : Int) := by rw [ev1]; exact hI_18.atP (j := 17) (k := 2) h4 (by decide)
      refine w_icmp_ge (tgt := 55) S dX1_accept_23 (by decide) (fun hb2 => ?_) (fun hb2 => ?_)
      · refine w_iconst S dX1_accept_55 (by decide) (fun k3 hk3 => ?_)
        exact w_zret S hr0 hlk hP hS dX1_accept_56 (z01 (by omega) (by omega)) (⟨hI_18, hT_18, by omega⟩)
      · refine lv_aload_n S.1 S.2.1 dX1_accept_26 rfl (lv_at hl 1 rfl) ?_
        refine lv_iload_n S.1 S.2.1 dX1_accept_27 rfl (lv_at hl 2 rfl) ?_
        refine w_cVi (As := [.int y18_2]) (rest := []) S hK hN hP hS hl (5 + 21 * i + 17) (by have := h4; omega) ((ceP17 h4) _) rfl (c_X3_at l D g hg x_18 hI_18 (5 + 21 * i + 17) 134 (isRow17 h4) y18_2) (cwV 1 hts gX1_accept_X3_at rfl rfl rfl (by decide +kernel) ⟨Nat.le_of_ble_eq_true rfl, Nat.le_of_ble_eq_true rfl⟩) rfl rfl (Nat.le_of_ble_eq_true rfl) dX1_accept_28 ⟨Nat.zero_le _, Nat.zero_le _⟩ (fun r5 x4 H locs hq6 hP hS => ?_)
        obtain ⟨ex7, hf8⟩ := hq6
        rw [ex7] at hP
        refine lv_istore_n (lv' := [(3, .int r5), (0, .ref (g.1 (5 + 21 * i + 7))), (1, .ref (g.1 (5 + 21 * i + 17))), (2, .int y18_2)]) S.1 S.2.1 dX1_accept_31 rfl hl (by decide) rfl (fun ls hl => ?_)
        refine lv_aload_n S.1 S.2.1 dX1_accept_32 rfl (lv_at hl 1 rfl) ?_
        refine w_get (C := RX1) (T := TX1) (N := 5) S (fun _ h => List.mem_cons_of_mem _ (List.mem_append_left _ (List.mem_append_right _ h))) hK hP (5 + 21 * i + 7) (by have := h4; omega) ((ceP7 h4) _) rfl 0 (by decide) (hts _ (List.mem_of_getElem? (i := 1) rfl)) (v := .ref (g.1 (5 + 21 * i + 8))) rfl dX1_accept_33 ?_
        refine lv_iload_n S.1 S.2.1 dX1_accept_36 rfl (lv_at hl 0 rfl) ?_
        refine w_cVv (As := [.int r5]) (rest := []) S hK hN hP hS hl (5 + 21 * i + 8) (by have := h4; omega) ((ceP8 h4) _) rfl (c_X3_add l D g hg x_18 hI_18 (5 + 21 * i + 8) 64 (isRow8 h4) r5) (cwV 1 hts gX1_accept_X3_add rfl rfl rfl (by decide +kernel) ⟨Nat.le_of_ble_eq_true rfl, Nat.le_of_ble_eq_true rfl⟩) rfl rfl (Nat.le_of_ble_eq_true rfl) dX1_accept_37 ⟨Nat.zero_le _, Nat.zero_le _⟩ (fun x9 H locs hq11 hP hS => ?_)
        obtain ⟨hI12, hT13, hf14⟩ := hq11
        have hT15 : Same (TC) x x9 := hT_18.tr hT13 (fun c0 k0 h => by unfold TC TrC at h; unfold TR; omega)
        refine lv_aload_n S.1 S.2.1 dX1_accept_40 rfl (lv_at hl 1 rfl) ?_
        refine lv_aload_n S.1 S.2.1 dX1_accept_41 rfl (lv_at hl 1 rfl) ?_
        refine lv_iload_n S.1 S.2.1 dX1_accept_42 rfl (lv_at hl 0 rfl) ?_
        refine w_cVi (As := [.int r5]) (rest := [.ref (g.1 (5 + 21 * i + 7))]) S hK hN hP hS hl (5 + 21 * i + 7) (by have := h4; omega) ((ceP7 h4) _) rfl (c_X1_columnBehind l D g hg x9 hI12 i h4 r5) (cwV 1 hts gX1_accept_X1_columnBehind rfl rfl rfl (by decide +kernel) ⟨Nat.le_of_ble_eq_true rfl, Nat.le_of_ble_eq_true rfl⟩) rfl rfl (Nat.le_of_ble_eq_true rfl) dX1_accept_43 ⟨Nat.zero_le _, Nat.zero_le _⟩ (fun r17 x16 H locs hq18 hP hS => ?_)
        obtain ⟨ex19, hf20⟩ := hq18
        rw [ex19] at hP
        refine w_put (C := RX1) (T := TX1) (N := 5) (F := FOut g (5 + 21 * i)) S (fun _ h => List.mem_cons_of_mem _ (List.mem_append_left _ (List.mem_append_right _ h))) tyX1_ok nmX1 hK hg hP hS (5 + 21 * i + 7) (by have := h4; omega) (ceP7 h4) rfl 2 (by decide) (hts _ (List.mem_of_getElem? (i := 2) rfl)) rfl rfl rfl (fun _ => Nat.le_of_ble_eq_true rfl) (fun _ => rfl) dX1_accept_46 (fun x21 H locs ex21 hP hS => ?_)
        have hI22 : Inv x21 := by rw [ex21]; exact hI12.upP (j := 7) h4 (by decide) (i_ge _) (i_le _)
        have hT23 : Same (TC) x x21 := by rw [ex21]; exact hT15.up (by unfold TC TrC; omega)
        refine w_iinc (lv' := [(3, .int r5), (0, .ref (g.1 (5 + 21 * i + 7))), (1, .ref (g.1 (5 + 21 * i + 17)))]) S dX1_accept_49 hl (k := 3) rfl (by decide) (by decide) (by omega) (by omega) (fun _ => rfl) (fun v24 ls hv24 hl => ?_)
        refine lv_goto (tgt := 18) S.1 S.2.1 dX1_accept_52 (by decide) ?_
        exact ih18 _ _ _ _ v24 hI22 hT23 (by omega) (by omega) (by omega) hP hS (lv_sub hl [2, 3, 0] rfl)
  refine lv_aload_n S.1 S.2.1 dX1_accept_0 rfl (lv_at hl 0 rfl) ?_
  refine w_get (C := RX1) (T := TX1) (N := 5) S (fun _ h => List.mem_cons_of_mem _ (List.mem_append_left _ (List.mem_append_right _ h))) hK hP (5 + 21 * i + 7) (by have := h4; omega) ((ceP7 h4) _) rfl 0 (by decide) (hts _ (List.mem_of_getElem? (i := 1) rfl)) (v := .ref (g.1 (5 + 21 * i + 8))) rfl dX1_accept_1 ?_
  refine lv_aload_n S.1 S.2.1 dX1_accept_4 rfl (lv_at hl 1 rfl) ?_
  refine w_getN (C := RX3) (T := TX3) (N := 3) S (fun _ h => List.mem_cons_of_mem _ (List.mem_append_right _ h)) hK hP (5 + 21 * i + 17) (by have := h4; omega) ((ceP17 h4) _) rfl 2 (by decide) (hN.1 _ (List.mem_of_getElem? (i := 4) rfl)) (v := .int (x (5 + 21 * i + 17) 2)) rfl dX1_accept_5 ?_
  refine lv_topi (fun v25 ev25 => ?_)
  have wv25 : v25.toInt = (x (5 + 21 * i + 17) 2).toInt := by rw [ev25]
  have rv25 : (0 : Int) ≤ v25.toInt ∧ v25.toInt ≤ (134 : Int) := by rw [ev25]; exact hI.atP (j := 17) (k := 2) h4 (by decide)
  refine w_cVi (As := [.int v25]) (rest := []) S hK hN hP hS hl (5 + 21 * i + 8) (by have := h4; omega) ((ceP8 h4) _) rfl (c_X3_fits l D g hg x hI (5 + 21 * i + 8) 64 (isRow8 h4) v25) (cwV 1 hts gX1_accept_X3_fits rfl rfl rfl (by decide +kernel) ⟨Nat.le_of_ble_eq_true rfl, Nat.le_of_ble_eq_true rfl⟩) rfl rfl (Nat.le_of_ble_eq_true rfl) dX1_accept_8 ⟨Nat.zero_le _, Nat.zero_le _⟩ (fun r27 x26 H locs hq28 hP hS => ?_)
  obtain ⟨ex29, hf30⟩ := hq28
  rw [ex29] at hP
  refine w_if_ne (tgt := 16) S dX1_accept_11 (by decide) (fun hb31 => ?_) (fun hb31 => ?_)
  · refine w_iconst S dX1_accept_16 (by decide) (fun k32 hk32 => ?_)
    refine lv_istore_n (lv' := [(2, .int k32), (0, .ref (g.1 (5 + 21 * i + 7))), (1, .ref (g.1 (5 + 21 * i + 17)))]) S.1 S.2.1 dX1_accept_17 rfl hl (by decide) rfl (fun ls hl => ?_)
    exact J18 _ _ _ _ _ k32 hI hT (by omega) (by omega) (Nat.lt_succ_self _) hP hS (lv_sub hl [1, 2, 0] rfl)
  · refine w_iconst S dX1_accept_14 (by decide) (fun k33 hk33 => ?_)
    exact w_zret S hr0 hlk hP hS dX1_accept_15 (z01 (by omega) (by omega)) (⟨hI, hT, by omega⟩)
set_option maxRecDepth 100000 in
set_option maxHeartbeats 4000000 in
theorem c_X1_push (l : Launch) (D : va_G) (g : GA) (hg : Inj g) (x : St) (hI : Inv x) (i : Nat) (h4 : i < 4) : Met l yX1_push wsX1_push ({ frames := 1, cells := 0, slots := 0, locals := 22 } : Room) (va_Pc [.ref (g.1 (5 + 21 * i + 7))] (WI D g x)) (va_Qv (fun x2 => Inv x2 ∧ Same TC x x2 ∧ ((x (5 + 21 * i + 8) 2).toInt = 0 → x2 = x)) (WO D g) (AQ g)) 0 0 (AQ g) := by
  refine w_met (cc := cX1_push) (maxL := 2) (ret := none) (own := RX1) (by decide) rfl rfl (Nat.le_of_ble_eq_true rfl) (fun p e s m below meth co S hr0 hlk hK hN hP hS ls hl => ?_)
  have hts := S.2.2.2.2
  have hl : lv_has ls 2 [(0, .ref (g.1 (5 + 21 * i + 7)))] := hl
  have hT : Same (TC) x x := Same.rf
  have J2 : ∀ (n0 : Nat) (x_2 : St) (H : Heap) (locs : List Loc) (ls : Array Slot) (y2_1 : Int32), Inv x_2 → Same (TC) x x_2 → (0 ≤ y2_1.toInt) → (y2_1.toInt ≤ 8) → ((x (5 + 21 * i + 8) 2).toInt = 0 → x_2 = x) → (8 - y2_1.toInt).toNat < n0 → va_P D vwCl (WL g x_2) H → va_S (AQ g) s.heap H locs → lv_has ls 2 [(0, .ref (g.1 (5 + 21 * i + 7))), (1, .int y2_1)] → W p l e ({ frames := 1, cells := 0, slots := 0, locals := 22 } : Room) s m ([.ref (g.1 (5 + 21 * i + 7))] : List Value).toArray below meth co H locs 0 0 (MQ below (va_Qv (fun x2 => Inv x2 ∧ Same TC x x2 ∧ ((x (5 + 21 * i + 8) 2).toInt = 0 → x2 = x)) (WO D g) (AQ g)) ([.ref (g.1 (5 + 21 * i + 7))] : List Value).toArray s 0 0 (AQ g)) (F0 m 2 ls []) := by
    intro n0
    induction n0 with
    | zero => intro x_2 H locs ls y2_1 hI_2 hT_2 hf2_0 hf2_1 hf2_2 hm_2 hP hS hl; exact absurd hm_2 (Nat.not_lt_zero _)
    | succ n0 ih2 =>
      intro x_2 H locs ls y2_1 hI_2 hT_2 hf2_0 hf2_1 hf2_2 hm_2 hP hS hl
      refine lv_iload_n S.1 S.2.1 dX1_push_2 rfl (lv_at hl 1 rfl) ?_
      refine w_bipush S dX1_push_3 (by decide) (fun k1 hk1 => ?_)
      refine w_icmp_ge (tgt := 49) S dX1_push_5 (by decide) (fun hb2 => ?_) (fun hb2 => ?_)
      · exact w_vret S hr0 hlk hP hS dX1_push_49 (⟨hI_2, hT_2, by assumption⟩)
      · refine lv_aload_n S.1 S.2.1 dX1_push_8 rfl (lv_at hl 0 rfl) ?_
        refine w_get (C := RX1) (T := TX1) (N := 5) S (fun _ h => List.mem_cons_of_mem _ (List.mem_append_left _ (List.mem_append_right _ h))) hK hP (5 + 21 * i + 7) (by have := h4; omega) ((ceP7 h4) _) rfl 1 (by decide) (hts _ (List.mem_of_getElem? (i := 1) rfl)) (v := .ref (g.1 (5 + 21 * i + 10))) rfl dX1_push_9 ?_
        refine w_iconst S dX1_push_12 (by decide) (fun k3 hk3 => ?_)
        refine w_cVi (As := [.int k3]) (rest := []) S hK hN hP hS hl (5 + 21 * i + 10) (by have := h4; omega) ((ceP10 h4) _) rfl (c_X3_fits l D g hg x_2 hI_2 (5 + 21 * i + 10) 8 (isRow10 h4) k3) (cwV 1 hts gX1_push_X3_fits rfl rfl rfl (by decide +kernel) ⟨Nat.le_of_ble_eq_true rfl, Nat.le_of_ble_eq_true rfl⟩) rfl rfl (Nat.le_of_ble_eq_true rfl) dX1_push_13 ⟨Nat.zero_le _, Nat.zero_le _⟩ (fun r5 x4 H locs hq6 hP hS => ?_)
        obtain ⟨ex7, hf8⟩ := hq6
        rw [ex7] at hP
        refine w_if_eq (tgt := 49) S dX1_push_16 (by decide) (fun hb9 => ?_) (fun hb9 => ?_)
        · exact w_vret S hr0 hlk hP hS dX1_push_49 (⟨hI_2, hT_2, by assumption⟩)
        · refine lv_aload_n S.1 S.2.1 dX1_push_19 rfl (lv_at hl 0 rfl) ?_
          refine w_get (C := RX1) (T := TX1) (N := 5) S (fun _ h => List.mem_cons_of_mem _ (List.mem_append_left _ (List.mem_append_right _ h))) hK hP (5 + 21 * i + 7) (by have := h4; omega) ((ceP7 h4) _) rfl 0 (by decide) (hts _ (List.mem_of_getElem? (i := 2) rfl)) (v := .ref (g.1 (5 + 21 * i + 8))) rfl dX1_push_20 ?_
          refine w_getN (C := RX3) (T := TX3) (N := 3) S (fun _ h => List.mem_cons_of_mem _ (List.mem_append_right _ h)) hK hP (5 + 21 * i + 8) (by have := h4; omega) ((ceP8 h4) _) rfl 2 (by decide) (hN.1 _ (List.mem_of_getElem? (i := 4) rfl)) (v := .int (x_2 (5 + 21 * i + 8) 2)) rfl dX1_push_23 ?_
          refine lv_topi (fun v10 ev10 => ?_)
          have wv10 : v10.toInt = (x_2 (5 + 21 * i + 8) 2).toInt := by rw [ev10]
          have rv10 : (0 : Int) ≤ v10.toInt ∧ v10.toInt ≤ (64 : Int) := by rw [ev10]; exact hI_2.atP (j := 8) (k := 2) h4 (by decide)
          refine w_if_le (tgt := 49) S dX1_push_26 (by decide) (fun hb11 => ?_) (fun hb11 => ?_)
          · exact w_vret S hr0 hlk hP hS dX1_push_49 (⟨hI_2, hT_2, by assumption⟩)
          · refine lv_aload_n S.1 S.2.1 dX1_push_29 rfl (lv_at hl 0 rfl) ?_
            refine w_get (C := RX1) (T := TX1) (N := 5) S (fun _ h => List.mem_cons_of_mem _ (List.mem_append_left _ (List.mem_append_right _ h))) hK hP (5 + 21 * i + 7) (by have := h4; omega) ((ceP7 h4) _) rfl 1 (by decide) (hts _ (List.mem_of_getElem? (i := 1) rfl)) (v := .ref (g.1 (5 + 21 * i + 10))) rfl dX1_push_30 ?_
            refine lv_aload_n S.1 S.2.1 dX1_push_33 rfl (lv_at hl 0 rfl) ?_
            refine w_get (C := RX1) (T := TX1) (N := 5) S (fun _ h => List.mem_cons_of_mem _ (List.mem_append_left _ (List.mem_append_right _ h))) hK hP (5 + 21 * i + 7) (by have := h4; omega) ((ceP7 h4) _) rfl 0 (by decide) (hts _ (List.mem_of_getElem? (i := 2) rfl)) (v := .ref (g.1 (5 + 21 * i + 8))) rfl dX1_push_34 ?_
            refine w_cVi (As := []) (rest := [.ref (g.1 (5 + 21 * i + 10))]) S hK hN hP hS hl (5 + 21 * i + 8) (by have := h4; omega) ((ceP8 h4) _) rfl (c_X3_takeFirst l D g hg x_2 hI_2 (5 + 21 * i + 8) 64 (isRow8 h4)) (cwV 0 hts gX1_push_X3_takeFirst rfl rfl rfl (by decide +kernel) ⟨Nat.le_of_ble_eq_true rfl, Nat.le_of_ble_eq_true rfl⟩) rfl rfl (Nat.le_of_ble_eq_true rfl) dX1_push_37 ⟨Nat.zero_le _, Nat.zero_le _⟩ (fun r13 x12 H locs hq14 hP hS => ?_)
            obtain ⟨hI15, hT16, hf17⟩ := hq14
            have hT18 : Same (TC) x x12 := hT_2.tr hT16 (fun c0 k0 h => by unfold TC TrC at h; unfold TR; omega)
            refine w_cVv (As := [.int r13]) (rest := []) S hK hN hP hS hl (5 + 21 * i + 10) (by have := h4; omega) ((ceP10 h4) _) rfl (c_X3_add l D g hg x12 hI15 (5 + 21 * i + 10) 8 (isRow10 h4) r13) (cwV 1 hts gX1_push_X3_add rfl rfl rfl (by decide +kernel) ⟨Nat.le_of_ble_eq_true rfl, Nat.le_of_ble_eq_true rfl⟩) rfl rfl (Nat.le_of_ble_eq_true rfl) dX1_push_40 ⟨Nat.zero_le _, Nat.zero_le _⟩ (fun x19 H locs hq21 hP hS => ?_)
            obtain ⟨hI22, hT23, hf24⟩ := hq21
            have hT25 : Same (TC) x x19 := hT18.tr hT23 (fun c0 k0 h => by unfold TC TrC at h; unfold TR; omega)
            refine w_iinc (lv' := [(0, .ref (g.1 (5 + 21 * i + 7)))]) S dX1_push_43 hl (k := 1) rfl (by decide) (by decide) (by omega) (by omega) (fun _ => rfl) (fun v26 ls hv26 hl => ?_)
            refine lv_goto (tgt := 2) S.1 S.2.1 dX1_push_46 (by decide) ?_
            exact ih2 _ _ _ _ v26 hI22 hT25 (by omega) (by omega) (by first | exact fun _ => rfl | (intro h0; exfalso; have e9 := hf2_2 h0; subst e9; omega)) (by omega) hP hS (lv_sub hl [1, 0] rfl)
  refine w_iconst S dX1_push_0 (by decide) (fun k27 hk27 => ?_)
  refine lv_istore_n (lv' := [(1, .int k27), (0, .ref (g.1 (5 + 21 * i + 7)))]) S.1 S.2.1 dX1_push_1 rfl hl (by decide) rfl (fun ls hl => ?_)
  exact J2 _ _ _ _ _ k27 hI hT (by omega) (by omega) (by first | exact fun _ => rfl | (intro h0; exfalso; have e9 := hf2_2 h0; subst e9; omega)) (Nat.lt_succ_self _) hP hS (lv_sub hl [1, 0] rfl)
set_option maxRecDepth 100000 in
set_option maxHeartbeats 4000000 in
theorem c_X1_takeFromSender (l : Launch) (D : va_G) (g : GA) (hg : Inj g) (x : St) (hI : Inv x) (i : Nat) (h4 : i < 4) : Met l yX1_takeFromSender wsX1_takeFromSender ({ frames := 1, cells := 0, slots := 0, locals := 21 } : Room) (va_Pc [.ref (g.1 (5 + 21 * i + 7))] (WI D g x)) (va_Qi (fun r x2 => Inv x2 ∧ Same TC x x2 ∧ ((x (5 + 21 * i + 10) 2).toInt = 0 → r.toInt = -1)) (WO D g) (AQ g)) 0 0 (AQ g) := by
  refine w_met (cc := cX1_takeFromSender) (maxL := 1) (ret := (some .int)) (own := RX1) (by decide) rfl rfl (Nat.le_of_ble_eq_true rfl) (fun p e s m below meth co S hr0 hlk hK hN hP hS ls hl => ?_)
  have hts := S.2.2.2.2
  have hl : lv_has ls 1 [(0, .ref (g.1 (5 + 21 * i + 7)))] := hl
  have hT : Same (TC) x x := Same.rf
  refine lv_aload_n S.1 S.2.1 dX1_takeFromSender_0 rfl (lv_at hl 0 rfl) ?_
  refine w_get (C := RX1) (T := TX1) (N := 5) S (fun _ h => List.mem_cons_of_mem _ (List.mem_append_left _ (List.mem_append_right _ h))) hK hP (5 + 21 * i + 7) (by have := h4; omega) ((ceP7 h4) _) rfl 3 (by decide) (hts _ (List.mem_of_getElem? (i := 1) rfl)) (v := .int (x (5 + 21 * i + 7) 3)) rfl dX1_takeFromSender_1 ?_
  refine lv_topi (fun v1 ev1 => ?_)
  have wv1 : v1.toInt = (x (5 + 21 * i + 7) 3).toInt := by rw [ev1]
  have rv1 : (0 : Int) ≤ v1.toInt ∧ v1.toInt ≤ (1 : Int) := by rw [ev1]; exact hI.atP (j := 7) (k := 3) h4 (by decide)
  refine w_if_ne (tgt := 14) S dX1_takeFromSender_4 (by decide) (fun hb2 => ?_) (fun hb2 => ?_)
  · refine w_iconst S dX1_takeFromSender_14 (by decide) (fun k3 hk3 => ?_)
    refine lv_goto (tgt := 25) S.1 S.2.1 dX1_takeFromSender_15 (by decide) ?_
    exact w_iret S hr0 hlk hP hS dX1_takeFromSender_25 (⟨hI, hT, by omega⟩)
  · refine lv_aload_n S.1 S.2.1 dX1_takeFromSender_7 rfl (lv_at hl 0 rfl) ?_
    refine w_get (C := RX1) (T := TX1) (N := 5) S (fun _ h => List.mem_cons_of_mem _ (List.mem_append_left _ (List.mem_append_right _ h))) hK hP (5 + 21 * i + 7) (by have := h4; omega) ((ceP7 h4) _) rfl 4 (by decide) (hts _ (List.mem_of_getElem? (i := 2) rfl)) (v := .int (x (5 + 21 * i + 7) 4)) rfl dX1_takeFromSender_8 ?_
    refine lv_topi (fun v4 ev4 => ?_)
    have wv4 : v4.toInt = (x (5 + 21 * i + 7) 4).toInt := by rw [ev4]
    have rv4 : (0 : Int) ≤ v4.toInt ∧ v4.toInt ≤ (1 : Int) := by rw [ev4]; exact hI.atP (j := 7) (k := 4) h4 (by decide)
    refine w_if_ne (tgt := 18) S dX1_takeFromSender_11 (by decide) (fun hb5 => ?_) (fun hb5 => ?_)
    · refine lv_aload_n S.1 S.2.1 dX1_takeFromSender_18 rfl (lv_at hl 0 rfl) ?_
      refine w_get (C := RX1) (T := TX1) (N := 5) S (fun _ h => List.mem_cons_of_mem _ (List.mem_append_left _ (List.mem_append_right _ h))) hK hP (5 + 21 * i + 7) (by have := h4; omega) ((ceP7 h4) _) rfl 1 (by decide) (hts _ (List.mem_of_getElem? (i := 3) rfl)) (v := .ref (g.1 (5 + 21 * i + 10))) rfl dX1_takeFromSender_19 ?_
      refine w_cVi (As := []) (rest := []) S hK hN hP hS hl (5 + 21 * i + 10) (by have := h4; omega) ((ceP10 h4) _) rfl (c_X3_takeFirst l D g hg x hI (5 + 21 * i + 10) 8 (isRow10 h4)) (cwV 0 hts gX1_takeFromSender_X3_takeFirst rfl rfl rfl (by decide +kernel) ⟨Nat.le_of_ble_eq_true rfl, Nat.le_of_ble_eq_true rfl⟩) rfl rfl (Nat.le_of_ble_eq_true rfl) dX1_takeFromSender_22 ⟨Nat.zero_le _, Nat.zero_le _⟩ (fun r7 x6 H locs hq8 hP hS => ?_)
      obtain ⟨hI9, hT10, hf11⟩ := hq8
      have hT12 : Same (TC) x x6 := hT.tr hT10 (fun c0 k0 h => by unfold TC TrC at h; unfold TR; omega)
      exact w_iret S hr0 hlk hP hS dX1_takeFromSender_25 (⟨hI9, hT12, by omega⟩)
    · refine w_iconst S dX1_takeFromSender_14 (by decide) (fun k13 hk13 => ?_)
      refine lv_goto (tgt := 25) S.1 S.2.1 dX1_takeFromSender_15 (by decide) ?_
      exact w_iret S hr0 hlk hP hS dX1_takeFromSender_25 (⟨hI, hT, by omega⟩)
set_option maxRecDepth 100000 in
set_option maxHeartbeats 4000000 in
theorem c_X5_add (l : Launch) (D : va_G) (g : GA) (hg : Inj g) (x : St) (hI : Inv x) (i : Nat) (h4 : i < 4) (md : Int32) (nv : Int32) (tk : Int32) (by_ : Int32) (hm : 0 ≤ md.toInt ∧ md.toInt ≤ 24) (hz : 0 ≤ tk.toInt ∧ tk.toInt ≤ 1) : Met l yX5_add wsX5_add ({ frames := 0, cells := 0, slots := 0, locals := 0 } : Room) (va_Pc [.ref (g.1 (5 + 21 * i + 12)), .int md, .int nv, .int tk, .int by_] (WI D g x)) (va_Qi (fun r x2 => Inv x2 ∧ Same TC x x2 ∧ ((x (5 + 21 * i + 12) 4).toInt < 3 → r.toInt = 1) ∧ 0 ≤ r.toInt ∧ r.toInt ≤ 1) (WO D g) (AQ g)) 0 0 (AQ g) := by
  refine w_met (cc := cX5_add) (maxL := 5) (ret := (some .boolean)) (own := RX5) (by decide) rfl rfl (Nat.le_of_ble_eq_true rfl) (fun p e s m below meth co S hr0 hlk hK hN hP hS ls hl => ?_)
  have hts := S.2.2.2.2
  have hl : lv_has ls 5 [(0, .ref (g.1 (5 + 21 * i + 12))), (1, .int md), (2, .int nv), (3, .int tk), (4, .int by_)] := hl
  have hT : Same (TC) x x := Same.rf
  refine lv_aload_n S.1 S.2.1 dX5_add_0 rfl (lv_at hl 0 rfl) ?_
  refine w_get (C := RX5) (T := TX5) (N := 5) S (fun _ h => List.mem_cons_of_mem _ (List.mem_append_right _ h)) hK hP (5 + 21 * i + 12) (by have := h4; omega) ((ceP12 h4) _) rfl 4 (by decide) (hts _ (List.mem_of_getElem? (i := 1) rfl)) (v := .int (x (5 + 21 * i + 12) 4)) rfl dX5_add_1 ?_
  refine lv_topi (fun v1 ev1 => ?_)
  have wv1 : v1.toInt = (x (5 + 21 * i + 12) 4).toInt := by rw [ev1]
  have rv1 : (0 : Int) ≤ v1.toInt ∧ v1.toInt ≤ (3 : Int) := by rw [ev1]; exact hI.atP (j := 12) (k := 4) h4 (by decide)
  refine w_iconst S dX5_add_4 (by decide) (fun k2 hk2 => ?_)
  refine w_icmp_lt (tgt := 10) S dX5_add_5 (by decide) (fun hb3 => ?_) (fun hb3 => ?_)
  · refine lv_aload_n S.1 S.2.1 dX5_add_10 rfl (lv_at hl 0 rfl) ?_
    refine w_get (C := RX5) (T := TX5) (N := 5) S (fun _ h => List.mem_cons_of_mem _ (List.mem_append_right _ h)) hK hP (5 + 21 * i + 12) (by have := h4; omega) ((ceP12 h4) _) rfl 0 (by decide) (hts _ (List.mem_of_getElem? (i := 2) rfl)) (v := .ref (g.1 (5 + 21 * i + 13))) rfl dX5_add_11 ?_
    refine lv_aload_n S.1 S.2.1 dX5_add_14 rfl (lv_at hl 0 rfl) ?_
    refine w_get (C := RX5) (T := TX5) (N := 5) S (fun _ h => List.mem_cons_of_mem _ (List.mem_append_right _ h)) hK hP (5 + 21 * i + 12) (by have := h4; omega) ((ceP12 h4) _) rfl 4 (by decide) (hts _ (List.mem_of_getElem? (i := 1) rfl)) (v := .int (x (5 + 21 * i + 12) 4)) rfl dX5_add_15 ?_
    refine lv_topi (fun v4 ev4 => ?_)
    have wv4 : v4.toInt = (x (5 + 21 * i + 12) 4).toInt := by rw [ev4]
    have rv4 : (0 : Int) ≤ v4.toInt ∧ v4.toInt ≤ (3 : Int) := by rw [ev4]; exact hI.atP (j := 12) (k := 4) h4 (by decide)
    refine lv_iload_n S.1 S.2.1 dX5_add_18 rfl (lv_at hl 1 rfl) ?_
    refine w_iast S hK hg hP hS (5 + 21 * i + 13) (by have := h4; omega) (ceP13 h4) (by omega) (by omega) dX5_add_19 (fun x5 H locs ex5 hP hS => ?_)
    have hI6 : Inv x5 := by rw [ex5]; exact hI.upP (j := 13) h4 (by decide) (show (0 : Int) ≤ _ by omega) (show _ ≤ (24 : Int) by omega)
    have hT7 : Same (TC) x x5 := by rw [ex5]; exact hT.up (by unfold TC TrC; omega)
    have u8 : (x5 (5 + 21 * i + 12) 4).toInt = (x (5 + 21 * i + 12) 4).toInt := by rw [ex5, up2_ne _ _ (by omega)]
    refine lv_aload_n S.1 S.2.1 dX5_add_20 rfl (lv_at hl 0 rfl) ?_
    refine w_get (C := RX5) (T := TX5) (N := 5) S (fun _ h => List.mem_cons_of_mem _ (List.mem_append_right _ h)) hK hP (5 + 21 * i + 12) (by have := h4; omega) ((ceP12 h4) _) rfl 1 (by decide) (hts _ (List.mem_of_getElem? (i := 3) rfl)) (v := .ref (g.1 (5 + 21 * i + 14))) rfl dX5_add_21 ?_
    refine lv_aload_n S.1 S.2.1 dX5_add_24 rfl (lv_at hl 0 rfl) ?_
    refine w_get (C := RX5) (T := TX5) (N := 5) S (fun _ h => List.mem_cons_of_mem _ (List.mem_append_right _ h)) hK hP (5 + 21 * i + 12) (by have := h4; omega) ((ceP12 h4) _) rfl 4 (by decide) (hts _ (List.mem_of_getElem? (i := 1) rfl)) (v := .int (x5 (5 + 21 * i + 12) 4)) rfl dX5_add_25 ?_
    refine lv_topi (fun v9 ev9 => ?_)
    have wv9 : v9.toInt = (x5 (5 + 21 * i + 12) 4).toInt := by rw [ev9]
    have rv9 : (0 : Int) ≤ v9.toInt ∧ v9.toInt ≤ (3 : Int) := by rw [ev9]; exact hI6.atP (j := 12) (k := 4) h4 (by decide)
    refine lv_iload_n S.1 S.2.1 dX5_add_28 rfl (lv_at hl 2 rfl) ?_
    refine w_iast S hK hg hP hS (5 + 21 * i + 14) (by have := h4; omega) (ceP14 h4) (by omega) (by omega) dX5_add_29 (fun x10 H locs ex10 hP hS => ?_)
    have hI11 : Inv x10 := by rw [ex10]; exact hI6.upP (j := 14) h4 (by decide) (i_ge _) (i_le _)
    have hT12 : Same (TC) x x10 := by rw [ex10]; exact hT7.up (by unfold TC TrC; omega)
    have u13 : (x10 (5 + 21 * i + 12) 4).toInt = (x5 (5 + 21 * i + 12) 4).toInt := by rw [ex10, up2_ne _ _ (by omega)]
    refine lv_aload_n S.1 S.2.1 dX5_add_30 rfl (lv_at hl 0 rfl) ?_
    refine w_get (C := RX5) (T := TX5) (N := 5) S (fun _ h => List.mem_cons_of_mem _ (List.mem_append_right _ h)) hK hP (5 + 21 * i + 12) (by have := h4; omega) ((ceP12 h4) _) rfl 2 (by decide) (hts _ (List.mem_of_getElem? (i := 4) rfl)) (v := .ref (g.1 (5 + 21 * i + 15))) rfl dX5_add_31 ?_
    refine lv_aload_n S.1 S.2.1 dX5_add_34 rfl (lv_at hl 0 rfl) ?_
    refine w_get (C := RX5) (T := TX5) (N := 5) S (fun _ h => List.mem_cons_of_mem _ (List.mem_append_right _ h)) hK hP (5 + 21 * i + 12) (by have := h4; omega) ((ceP12 h4) _) rfl 4 (by decide) (hts _ (List.mem_of_getElem? (i := 1) rfl)) (v := .int (x10 (5 + 21 * i + 12) 4)) rfl dX5_add_35 ?_
    refine lv_topi (fun v14 ev14 => ?_)
    have wv14 : v14.toInt = (x10 (5 + 21 * i + 12) 4).toInt := by rw [ev14]
    have rv14 : (0 : Int) ≤ v14.toInt ∧ v14.toInt ≤ (3 : Int) := by rw [ev14]; exact hI11.atP (j := 12) (k := 4) h4 (by decide)
    refine lv_iload_n S.1 S.2.1 dX5_add_38 rfl (lv_at hl 3 rfl) ?_
    refine w_zast S hK hg hP hS (5 + 21 * i + 15) (by have := h4; omega) (ceP15 h4) (z01 (by omega) (by omega)) (by omega) (by omega) dX5_add_39 (fun x15 H locs ex15 hP hS => ?_)
    have hI16 : Inv x15 := by rw [ex15]; exact hI11.upP (j := 15) h4 (by decide) (show (0 : Int) ≤ _ by omega) (show _ ≤ (1 : Int) by omega)
    have hT17 : Same (TC) x x15 := by rw [ex15]; exact hT12.up (by unfold TC TrC; omega)
    have u18 : (x15 (5 + 21 * i + 12) 4).toInt = (x10 (5 + 21 * i + 12) 4).toInt := by rw [ex15, up2_ne _ _ (by omega)]
    refine lv_aload_n S.1 S.2.1 dX5_add_40 rfl (lv_at hl 0 rfl) ?_
    refine w_get (C := RX5) (T := TX5) (N := 5) S (fun _ h => List.mem_cons_of_mem _ (List.mem_append_right _ h)) hK hP (5 + 21 * i + 12) (by have := h4; omega) ((ceP12 h4) _) rfl 3 (by decide) (hts _ (List.mem_of_getElem? (i := 5) rfl)) (v := .ref (g.1 (5 + 21 * i + 16))) rfl dX5_add_41 ?_
    refine lv_aload_n S.1 S.2.1 dX5_add_44 rfl (lv_at hl 0 rfl) ?_
    refine w_get (C := RX5) (T := TX5) (N := 5) S (fun _ h => List.mem_cons_of_mem _ (List.mem_append_right _ h)) hK hP (5 + 21 * i + 12) (by have := h4; omega) ((ceP12 h4) _) rfl 4 (by decide) (hts _ (List.mem_of_getElem? (i := 1) rfl)) (v := .int (x15 (5 + 21 * i + 12) 4)) rfl dX5_add_45 ?_
    refine lv_topi (fun v19 ev19 => ?_)
    have wv19 : v19.toInt = (x15 (5 + 21 * i + 12) 4).toInt := by rw [ev19]
    have rv19 : (0 : Int) ≤ v19.toInt ∧ v19.toInt ≤ (3 : Int) := by rw [ev19]; exact hI16.atP (j := 12) (k := 4) h4 (by decide)
    refine lv_iload S.1 S.2.1 dX5_add_48 (lv_at hl 4 rfl) ?_
    refine w_iast S hK hg hP hS (5 + 21 * i + 16) (by have := h4; omega) (ceP16 h4) (by omega) (by omega) dX5_add_50 (fun x20 H locs ex20 hP hS => ?_)
    have hI21 : Inv x20 := by rw [ex20]; exact hI16.upP (j := 16) h4 (by decide) (i_ge _) (i_le _)
    have hT22 : Same (TC) x x20 := by rw [ex20]; exact hT17.up (by unfold TC TrC; omega)
    have u23 : (x20 (5 + 21 * i + 12) 4).toInt = (x15 (5 + 21 * i + 12) 4).toInt := by rw [ex20, up2_ne _ _ (by omega)]
    refine lv_aload_n S.1 S.2.1 dX5_add_51 rfl (lv_at hl 0 rfl) ?_
    refine lv_dup S.1 S.2.1 dX5_add_52 rfl ?_
    refine w_get (C := RX5) (T := TX5) (N := 5) S (fun _ h => List.mem_cons_of_mem _ (List.mem_append_right _ h)) hK hP (5 + 21 * i + 12) (by have := h4; omega) ((ceP12 h4) _) rfl 4 (by decide) (hts _ (List.mem_of_getElem? (i := 1) rfl)) (v := .int (x20 (5 + 21 * i + 12) 4)) rfl dX5_add_53 ?_
    refine lv_topi (fun v24 ev24 => ?_)
    have wv24 : v24.toInt = (x20 (5 + 21 * i + 12) 4).toInt := by rw [ev24]
    have rv24 : (0 : Int) ≤ v24.toInt ∧ v24.toInt ≤ (3 : Int) := by rw [ev24]; exact hI21.atP (j := 12) (k := 4) h4 (by decide)
    refine w_iconst S dX5_add_56 (by decide) (fun k25 hk25 => ?_)
    refine w_iadd S dX5_add_57 (by omega) (by omega) (fun v26 hv26 => ?_)
    refine w_put (C := RX5) (T := TX5) (N := 5) (F := FWait g (5 + 21 * i)) S (fun _ h => List.mem_cons_of_mem _ (List.mem_append_right _ h)) tyX5_ok nmX5 hK hg hP hS (5 + 21 * i + 12) (by have := h4; omega) (ceP12 h4) rfl 4 (by decide) (hts _ (List.mem_of_getElem? (i := 1) rfl)) rfl rfl rfl (fun _ => Nat.le_of_ble_eq_true rfl) (fun _ => rfl) dX5_add_58 (fun x27 H locs ex27 hP hS => ?_)
    have hI28 : Inv x27 := by rw [ex27]; exact hI21.upP (j := 12) h4 (by decide) (show (0 : Int) ≤ _ by omega) (show _ ≤ (3 : Int) by omega)
    have hT29 : Same (TC) x x27 := by rw [ex27]; exact hT22.up (by unfold TC TrC; omega)
    have u30 : (x27 (5 + 21 * i + 12) 4).toInt = v26.toInt := by rw [ex27, up2_at]
    refine w_iconst S dX5_add_61 (by decide) (fun k31 hk31 => ?_)
    exact w_zret S hr0 hlk hP hS dX5_add_62 (z01 (by omega) (by omega)) (⟨hI28, hT29, by omega, by omega⟩)
  · refine w_iconst S dX5_add_8 (by decide) (fun k32 hk32 => ?_)
    exact w_zret S hr0 hlk hP hS dX5_add_9 (z01 (by omega) (by omega)) (⟨hI, hT, by omega, by omega⟩)
set_option maxRecDepth 100000 in
set_option maxHeartbeats 4000000 in
theorem c_X5_isFirstDue (l : Launch) (D : va_G) (g : GA) (hg : Inj g) (x : St) (hI : Inv x) (i : Nat) (h4 : i < 4) : Met l yX5_isFirstDue wsX5_isFirstDue ({ frames := 0, cells := 0, slots := 0, locals := 0 } : Room) (va_Pc [.ref (g.1 (5 + 21 * i + 12))] (WI D g x)) (va_Qi (fun r x2 => x2 = x ∧ (r.toInt = 1 → 0 < (x (5 + 21 * i + 12) 4).toInt) ∧ 0 ≤ r.toInt ∧ r.toInt ≤ 1) (WO D g) (AQ g)) 0 0 (AQ g) := by
  refine w_met (cc := cX5_isFirstDue) (maxL := 1) (ret := (some .boolean)) (own := RX5) (by decide) rfl rfl (Nat.le_of_ble_eq_true rfl) (fun p e s m below meth co S hr0 hlk hK hN hP hS ls hl => ?_)
  have hts := S.2.2.2.2
  have hl : lv_has ls 1 [(0, .ref (g.1 (5 + 21 * i + 12)))] := hl
  refine lv_aload_n S.1 S.2.1 dX5_isFirstDue_0 rfl (lv_at hl 0 rfl) ?_
  refine w_get (C := RX5) (T := TX5) (N := 5) S (fun _ h => List.mem_cons_of_mem _ (List.mem_append_right _ h)) hK hP (5 + 21 * i + 12) (by have := h4; omega) ((ceP12 h4) _) rfl 4 (by decide) (hts _ (List.mem_of_getElem? (i := 1) rfl)) (v := .int (x (5 + 21 * i + 12) 4)) rfl dX5_isFirstDue_1 ?_
  refine lv_topi (fun v1 ev1 => ?_)
  have wv1 : v1.toInt = (x (5 + 21 * i + 12) 4).toInt := by rw [ev1]
  have rv1 : (0 : Int) ≤ v1.toInt ∧ v1.toInt ≤ (3 : Int) := by rw [ev1]; exact hI.atP (j := 12) (k := 4) h4 (by decide)
  refine w_if_le (tgt := 20) S dX5_isFirstDue_4 (by decide) (fun hb2 => ?_) (fun hb2 => ?_)
  · refine w_iconst S dX5_isFirstDue_20 (by decide) (fun k3 hk3 => ?_)
    exact w_zret S hr0 hlk hP hS dX5_isFirstDue_21 (z01 (by omega) (by omega)) (⟨rfl, by omega, by omega⟩)
  · refine lv_aload_n S.1 S.2.1 dX5_isFirstDue_7 rfl (lv_at hl 0 rfl) ?_
    refine w_get (C := RX5) (T := TX5) (N := 5) S (fun _ h => List.mem_cons_of_mem _ (List.mem_append_right _ h)) hK hP (5 + 21 * i + 12) (by have := h4; omega) ((ceP12 h4) _) rfl 3 (by decide) (hts _ (List.mem_of_getElem? (i := 2) rfl)) (v := .ref (g.1 (5 + 21 * i + 16))) rfl dX5_isFirstDue_8 ?_
    refine w_iconst S dX5_isFirstDue_11 (by decide) (fun k4 hk4 => ?_)
    refine w_iald S hK hP (5 + 21 * i + 16) (by have := h4; omega) (ceP16 h4) (by omega) (by omega) dX5_isFirstDue_12 (fun v5 ev5 => ?_)
    have wv5 : v5.toInt = (x (5 + 21 * i + 16) k4.toInt.toNat).toInt := by rw [ev5]
    refine w_if_ne (tgt := 20) S dX5_isFirstDue_13 (by decide) (fun hb6 => ?_) (fun hb6 => ?_)
    · refine w_iconst S dX5_isFirstDue_20 (by decide) (fun k7 hk7 => ?_)
      exact w_zret S hr0 hlk hP hS dX5_isFirstDue_21 (z01 (by omega) (by omega)) (⟨rfl, by omega, by omega⟩)
    · refine w_iconst S dX5_isFirstDue_16 (by decide) (fun k8 hk8 => ?_)
      refine lv_goto (tgt := 21) S.1 S.2.1 dX5_isFirstDue_17 (by decide) ?_
      exact w_zret S hr0 hlk hP hS dX5_isFirstDue_21 (z01 (by omega) (by omega)) (⟨rfl, by omega, by omega⟩)
set_option maxRecDepth 100000 in
set_option maxHeartbeats 4000000 in
theorem c_X5_removeFirst (l : Launch) (D : va_G) (g : GA) (hg : Inj g) (x : St) (hI : Inv x) (i : Nat) (h4 : i < 4) : Met l yX5_removeFirst wsX5_removeFirst ({ frames := 1, cells := 0, slots := 0, locals := 21 } : Room) (va_Pc [.ref (g.1 (5 + 21 * i + 12))] (WI D g x)) (va_Qv (fun x2 => Inv x2 ∧ Same TC x x2 ∧ True) (WO D g) (AQ g)) 0 0 (AQ g) := by
  refine w_met (cc := cX5_removeFirst) (maxL := 2) (ret := none) (own := RX5) (by decide) rfl rfl (Nat.le_of_ble_eq_true rfl) (fun p e s m below meth co S hr0 hlk hK hN hP hS ls hl => ?_)
  have hts := S.2.2.2.2
  have hl : lv_has ls 2 [(0, .ref (g.1 (5 + 21 * i + 12)))] := hl
  have hT : Same (TC) x x := Same.rf
  have J2 : ∀ (n0 : Nat) (x_2 : St) (H : Heap) (locs : List Loc) (ls : Array Slot) (y2_1 : Int32), Inv x_2 → Same (TC) x x_2 → (1 ≤ y2_1.toInt) → (y2_1.toInt ≤ 3) → (3 - y2_1.toInt).toNat < n0 → va_P D vwCl (WL g x_2) H → va_S (AQ g) s.heap H locs → lv_has ls 2 [(0, .ref (g.1 (5 + 21 * i + 12))), (1, .int y2_1)] → W p l e ({ frames := 1, cells := 0, slots := 0, locals := 21 } : Room) s m ([.ref (g.1 (5 + 21 * i + 12))] : List Value).toArray below meth co H locs 0 0 (MQ below (va_Qv (fun x2 => Inv x2 ∧ Same TC x x2 ∧ True) (WO D g) (AQ g)) ([.ref (g.1 (5 + 21 * i + 12))] : List Value).toArray s 0 0 (AQ g)) (F0 m 2 ls []) := by
    intro n0
    induction n0 with
    | zero => intro x_2 H locs ls y2_1 hI_2 hT_2 hf2_0 hf2_1 hm_2 hP hS hl; exact absurd hm_2 (Nat.not_lt_zero _)
    | succ n0 ih2 =>
      intro x_2 H locs ls y2_1 hI_2 hT_2 hf2_0 hf2_1 hm_2 hP hS hl
      refine lv_iload_n S.1 S.2.1 dX5_removeFirst_2 rfl (lv_at hl 1 rfl) ?_
      refine lv_aload_n S.1 S.2.1 dX5_removeFirst_3 rfl (lv_at hl 0 rfl) ?_
      refine w_get (C := RX5) (T := TX5) (N := 5) S (fun _ h => List.mem_cons_of_mem _ (List.mem_append_right _ h)) hK hP (5 + 21 * i + 12) (by have := h4; omega) ((ceP12 h4) _) rfl 4 (by decide) (hts _ (List.mem_of_getElem? (i := 1) rfl)) (v := .int (x_2 (5 + 21 * i + 12) 4)) rfl dX5_removeFirst_4 ?_
      refine lv_topi (fun v1 ev1 => ?_)
      have wv1 : v1.toInt = (x_2 (5 + 21 * i + 12) 4).toInt := by rw [ev1]
      have rv1 : (0 : Int) ≤ v1.toInt ∧ v1.toInt ≤ (3 : Int) := by rw [ev1]; exact hI_2.atP (j := 12) (k := 4) h4 (by decide)
      refine w_icmp_ge (tgt := 72) S dX5_removeFirst_7 (by decide) (fun hb2 => ?_) (fun hb2 => ?_)
      · refine lv_aload_n S.1 S.2.1 dX5_removeFirst_72 rfl (lv_at hl 0 rfl) ?_
        refine w_iconst S dX5_removeFirst_73 (by decide) (fun k3 hk3 => ?_)
        refine lv_aload_n S.1 S.2.1 dX5_removeFirst_74 rfl (lv_at hl 0 rfl) ?_
        refine w_get (C := RX5) (T := TX5) (N := 5) S (fun _ h => List.mem_cons_of_mem _ (List.mem_append_right _ h)) hK hP (5 + 21 * i + 12) (by have := h4; omega) ((ceP12 h4) _) rfl 4 (by decide) (hts _ (List.mem_of_getElem? (i := 1) rfl)) (v := .int (x_2 (5 + 21 * i + 12) 4)) rfl dX5_removeFirst_75 ?_
        refine lv_topi (fun v4 ev4 => ?_)
        have wv4 : v4.toInt = (x_2 (5 + 21 * i + 12) 4).toInt := by rw [ev4]
        have rv4 : (0 : Int) ≤ v4.toInt ∧ v4.toInt ≤ (3 : Int) := by rw [ev4]; exact hI_2.atP (j := 12) (k := 4) h4 (by decide)
        refine w_iconst S dX5_removeFirst_78 (by decide) (fun k5 hk5 => ?_)
        refine w_isub S dX5_removeFirst_79 (by omega) (by omega) (fun v6 hv6 => ?_)
        refine va_mmax S.1 S.2.1 (by rw [S.2.2.1]; exact hl.1.symm) S.2.2.2.1 (hts _ (List.mem_of_getElem? (i := 6) rfl)) (hts _ (List.mem_of_getElem? (i := 7) rfl)) (hts _ (List.mem_of_getElem? (i := 8) rfl)) (hts _ (List.mem_of_getElem? (i := 9) rfl)) (Nat.le_of_ble_eq_true rfl) (Nat.le_of_ble_eq_true rfl) (Nat.zero_le _) (Nat.zero_le _) dX5_removeFirst_80 ?_
        refine lv_topi (fun v7 ev7 => ?_)
        have hv7 := t_max ev7
        refine w_put (C := RX5) (T := TX5) (N := 5) (F := FWait g (5 + 21 * i)) S (fun _ h => List.mem_cons_of_mem _ (List.mem_append_right _ h)) tyX5_ok nmX5 hK hg hP hS (5 + 21 * i + 12) (by have := h4; omega) (ceP12 h4) rfl 4 (by decide) (hts _ (List.mem_of_getElem? (i := 1) rfl)) rfl rfl rfl (fun _ => Nat.le_of_ble_eq_true rfl) (fun _ => rfl) dX5_removeFirst_83 (fun x8 H locs ex8 hP hS => ?_)
        have hI9 : Inv x8 := by rw [ex8]; exact hI_2.upP (j := 12) h4 (by decide) (show (0 : Int) ≤ _ by omega) (show _ ≤ (3 : Int) by omega)
        have hT10 : Same (TC) x x8 := by rw [ex8]; exact hT_2.up (by unfold TC TrC; omega)
        have u11 : (x8 (5 + 21 * i + 12) 4).toInt = v7.toInt := by rw [ex8, up2_at]
        exact w_vret S hr0 hlk hP hS dX5_removeFirst_86 (⟨hI9, hT10, trivial⟩)
      · refine lv_aload_n S.1 S.2.1 dX5_removeFirst_10 rfl (lv_at hl 0 rfl) ?_
        refine w_get (C := RX5) (T := TX5) (N := 5) S (fun _ h => List.mem_cons_of_mem _ (List.mem_append_right _ h)) hK hP (5 + 21 * i + 12) (by have := h4; omega) ((ceP12 h4) _) rfl 0 (by decide) (hts _ (List.mem_of_getElem? (i := 2) rfl)) (v := .ref (g.1 (5 + 21 * i + 13))) rfl dX5_removeFirst_11 ?_
        refine lv_iload_n S.1 S.2.1 dX5_removeFirst_14 rfl (lv_at hl 1 rfl) ?_
        refine w_iconst S dX5_removeFirst_15 (by decide) (fun k12 hk12 => ?_)
        refine w_isub S dX5_removeFirst_16 (by omega) (by omega) (fun v13 hv13 => ?_)
        refine lv_aload_n S.1 S.2.1 dX5_removeFirst_17 rfl (lv_at hl 0 rfl) ?_
        refine w_get (C := RX5) (T := TX5) (N := 5) S (fun _ h => List.mem_cons_of_mem _ (List.mem_append_right _ h)) hK hP (5 + 21 * i + 12) (by have := h4; omega) ((ceP12 h4) _) rfl 0 (by decide) (hts _ (List.mem_of_getElem? (i := 2) rfl)) (v := .ref (g.1 (5 + 21 * i + 13))) rfl dX5_removeFirst_18 ?_
        refine lv_iload_n S.1 S.2.1 dX5_removeFirst_21 rfl (lv_at hl 1 rfl) ?_
        refine w_iald S hK hP (5 + 21 * i + 13) (by have := h4; omega) (ceP13 h4) (by omega) (by omega) dX5_removeFirst_22 (fun v14 ev14 => ?_)
        have wv14 : v14.toInt = (x_2 (5 + 21 * i + 13) y2_1.toInt.toNat).toInt := by rw [ev14]
        have rv14 : (0 : Int) ≤ v14.toInt ∧ v14.toInt ≤ (24 : Int) := by rw [ev14]; exact hI_2.atP (j := 13) (k := _) h4 (by decide)
        refine w_iast S hK hg hP hS (5 + 21 * i + 13) (by have := h4; omega) (ceP13 h4) (by omega) (by omega) dX5_removeFirst_23 (fun x15 H locs ex15 hP hS => ?_)
        have hI16 : Inv x15 := by rw [ex15]; exact hI_2.upP (j := 13) h4 (by decide) (show (0 : Int) ≤ _ by omega) (show _ ≤ (24 : Int) by omega)
        have hT17 : Same (TC) x x15 := by rw [ex15]; exact hT_2.up (by unfold TC TrC; omega)
        have u18 : (x15 (5 + 21 * i + 12) 4).toInt = (x_2 (5 + 21 * i + 12) 4).toInt := by rw [ex15, up2_ne _ _ (by omega)]
        refine lv_aload_n S.1 S.2.1 dX5_removeFirst_24 rfl (lv_at hl 0 rfl) ?_
        refine w_get (C := RX5) (T := TX5) (N := 5) S (fun _ h => List.mem_cons_of_mem _ (List.mem_append_right _ h)) hK hP (5 + 21 * i + 12) (by have := h4; omega) ((ceP12 h4) _) rfl 1 (by decide) (hts _ (List.mem_of_getElem? (i := 3) rfl)) (v := .ref (g.1 (5 + 21 * i + 14))) rfl dX5_removeFirst_25 ?_
        refine lv_iload_n S.1 S.2.1 dX5_removeFirst_28 rfl (lv_at hl 1 rfl) ?_
        refine w_iconst S dX5_removeFirst_29 (by decide) (fun k19 hk19 => ?_)
        refine w_isub S dX5_removeFirst_30 (by omega) (by omega) (fun v20 hv20 => ?_)
        refine lv_aload_n S.1 S.2.1 dX5_removeFirst_31 rfl (lv_at hl 0 rfl) ?_
        refine w_get (C := RX5) (T := TX5) (N := 5) S (fun _ h => List.mem_cons_of_mem _ (List.mem_append_right _ h)) hK hP (5 + 21 * i + 12) (by have := h4; omega) ((ceP12 h4) _) rfl 1 (by decide) (hts _ (List.mem_of_getElem? (i := 3) rfl)) (v := .ref (g.1 (5 + 21 * i + 14))) rfl dX5_removeFirst_32 ?_
        refine lv_iload_n S.1 S.2.1 dX5_removeFirst_35 rfl (lv_at hl 1 rfl) ?_
        refine w_iald S hK hP (5 + 21 * i + 14) (by have := h4; omega) (ceP14 h4) (by omega) (by omega) dX5_removeFirst_36 (fun v21 ev21 => ?_)
        have wv21 : v21.toInt = (x15 (5 + 21 * i + 14) y2_1.toInt.toNat).toInt := by rw [ev21]
        refine w_iast S hK hg hP hS (5 + 21 * i + 14) (by have := h4; omega) (ceP14 h4) (by omega) (by omega) dX5_removeFirst_37 (fun x22 H locs ex22 hP hS => ?_)
        have hI23 : Inv x22 := by rw [ex22]; exact hI16.upP (j := 14) h4 (by decide) (i_ge _) (i_le _)
        have hT24 : Same (TC) x x22 := by rw [ex22]; exact hT17.up (by unfold TC TrC; omega)
        have u25 : (x22 (5 + 21 * i + 12) 4).toInt = (x15 (5 + 21 * i + 12) 4).toInt := by rw [ex22, up2_ne _ _ (by omega)]
        refine lv_aload_n S.1 S.2.1 dX5_removeFirst_38 rfl (lv_at hl 0 rfl) ?_
        refine w_get (C := RX5) (T := TX5) (N := 5) S (fun _ h => List.mem_cons_of_mem _ (List.mem_append_right _ h)) hK hP (5 + 21 * i + 12) (by have := h4; omega) ((ceP12 h4) _) rfl 2 (by decide) (hts _ (List.mem_of_getElem? (i := 4) rfl)) (v := .ref (g.1 (5 + 21 * i + 15))) rfl dX5_removeFirst_39 ?_
        refine lv_iload_n S.1 S.2.1 dX5_removeFirst_42 rfl (lv_at hl 1 rfl) ?_
        refine w_iconst S dX5_removeFirst_43 (by decide) (fun k26 hk26 => ?_)
        refine w_isub S dX5_removeFirst_44 (by omega) (by omega) (fun v27 hv27 => ?_)
        refine lv_aload_n S.1 S.2.1 dX5_removeFirst_45 rfl (lv_at hl 0 rfl) ?_
        refine w_get (C := RX5) (T := TX5) (N := 5) S (fun _ h => List.mem_cons_of_mem _ (List.mem_append_right _ h)) hK hP (5 + 21 * i + 12) (by have := h4; omega) ((ceP12 h4) _) rfl 2 (by decide) (hts _ (List.mem_of_getElem? (i := 4) rfl)) (v := .ref (g.1 (5 + 21 * i + 15))) rfl dX5_removeFirst_46 ?_
        refine lv_iload_n S.1 S.2.1 dX5_removeFirst_49 rfl (lv_at hl 1 rfl) ?_
        refine w_zald S hK hP (5 + 21 * i + 15) (by have := h4; omega) (ceP15 h4) (by omega) (by omega) dX5_removeFirst_50 (fun v28 ev28 => ?_)
        have wv28 : v28.toInt = (x22 (5 + 21 * i + 15) y2_1.toInt.toNat).toInt := by rw [ev28]
        have rv28 : (0 : Int) ≤ v28.toInt ∧ v28.toInt ≤ (1 : Int) := by rw [ev28]; exact hI23.atP (j := 15) (k := _) h4 (by decide)
        refine w_zast S hK hg hP hS (5 + 21 * i + 15) (by have := h4; omega) (ceP15 h4) (z01 (by omega) (by omega)) (by omega) (by omega) dX5_removeFirst_51 (fun x29 H locs ex29 hP hS => ?_)
        have hI30 : Inv x29 := by rw [ex29]; exact hI23.upP (j := 15) h4 (by decide) (show (0 : Int) ≤ _ by omega) (show _ ≤ (1 : Int) by omega)
        have hT31 : Same (TC) x x29 := by rw [ex29]; exact hT24.up (by unfold TC TrC; omega)
        have u32 : (x29 (5 + 21 * i + 12) 4).toInt = (x22 (5 + 21 * i + 12) 4).toInt := by rw [ex29, up2_ne _ _ (by omega)]
        refine lv_aload_n S.1 S.2.1 dX5_removeFirst_52 rfl (lv_at hl 0 rfl) ?_
        refine w_get (C := RX5) (T := TX5) (N := 5) S (fun _ h => List.mem_cons_of_mem _ (List.mem_append_right _ h)) hK hP (5 + 21 * i + 12) (by have := h4; omega) ((ceP12 h4) _) rfl 3 (by decide) (hts _ (List.mem_of_getElem? (i := 5) rfl)) (v := .ref (g.1 (5 + 21 * i + 16))) rfl dX5_removeFirst_53 ?_
        refine lv_iload_n S.1 S.2.1 dX5_removeFirst_56 rfl (lv_at hl 1 rfl) ?_
        refine w_iconst S dX5_removeFirst_57 (by decide) (fun k33 hk33 => ?_)
        refine w_isub S dX5_removeFirst_58 (by omega) (by omega) (fun v34 hv34 => ?_)
        refine lv_aload_n S.1 S.2.1 dX5_removeFirst_59 rfl (lv_at hl 0 rfl) ?_
        refine w_get (C := RX5) (T := TX5) (N := 5) S (fun _ h => List.mem_cons_of_mem _ (List.mem_append_right _ h)) hK hP (5 + 21 * i + 12) (by have := h4; omega) ((ceP12 h4) _) rfl 3 (by decide) (hts _ (List.mem_of_getElem? (i := 5) rfl)) (v := .ref (g.1 (5 + 21 * i + 16))) rfl dX5_removeFirst_60 ?_
        refine lv_iload_n S.1 S.2.1 dX5_removeFirst_63 rfl (lv_at hl 1 rfl) ?_
        refine w_iald S hK hP (5 + 21 * i + 16) (by have := h4; omega) (ceP16 h4) (by omega) (by omega) dX5_removeFirst_64 (fun v35 ev35 => ?_)
        have wv35 : v35.toInt = (x29 (5 + 21 * i + 16) y2_1.toInt.toNat).toInt := by rw [ev35]
        refine w_iast S hK hg hP hS (5 + 21 * i + 16) (by have := h4; omega) (ceP16 h4) (by omega) (by omega) dX5_removeFirst_65 (fun x36 H locs ex36 hP hS => ?_)
        have hI37 : Inv x36 := by rw [ex36]; exact hI30.upP (j := 16) h4 (by decide) (i_ge _) (i_le _)
        have hT38 : Same (TC) x x36 := by rw [ex36]; exact hT31.up (by unfold TC TrC; omega)
        have u39 : (x36 (5 + 21 * i + 12) 4).toInt = (x29 (5 + 21 * i + 12) 4).toInt := by rw [ex36, up2_ne _ _ (by omega)]
        refine w_iinc (lv' := [(0, .ref (g.1 (5 + 21 * i + 12)))]) S dX5_removeFirst_66 hl (k := 1) rfl (by decide) (by decide) (by omega) (by omega) (fun _ => rfl) (fun v40 ls hv40 hl => ?_)
        refine lv_goto (tgt := 2) S.1 S.2.1 dX5_removeFirst_69 (by decide) ?_
        exact ih2 _ _ _ _ v40 hI37 hT38 (by omega) (by omega) (by omega) hP hS (lv_sub hl [1, 0] rfl)
  refine w_iconst S dX5_removeFirst_0 (by decide) (fun k41 hk41 => ?_)
  refine lv_istore_n (lv' := [(1, .int k41), (0, .ref (g.1 (5 + 21 * i + 12)))]) S.1 S.2.1 dX5_removeFirst_1 rfl hl (by decide) rfl (fun ls hl => ?_)
  exact J2 _ _ _ _ _ k41 hI hT (by omega) (by omega) (Nat.lt_succ_self _) hP hS (lv_sub hl [1, 0] rfl)
set_option maxRecDepth 100000 in
set_option maxHeartbeats 4000000 in
theorem c_X5_byteHasGone (l : Launch) (D : va_G) (g : GA) (hg : Inj g) (x : St) (hI : Inv x) (i : Nat) (h4 : i < 4) : Met l yX5_byteHasGone wsX5_byteHasGone ({ frames := 1, cells := 0, slots := 0, locals := 21 } : Room) (va_Pc [.ref (g.1 (5 + 21 * i + 12))] (WI D g x)) (va_Qv (fun x2 => Inv x2 ∧ Same TC x x2 ∧ True) (WO D g) (AQ g)) 0 0 (AQ g) := by
  refine w_met (cc := cX5_byteHasGone) (maxL := 2) (ret := none) (own := RX5) (by decide) rfl rfl (Nat.le_of_ble_eq_true rfl) (fun p e s m below meth co S hr0 hlk hK hN hP hS ls hl => ?_)
  have hts := S.2.2.2.2
  have hl : lv_has ls 2 [(0, .ref (g.1 (5 + 21 * i + 12)))] := hl
  have hT : Same (TC) x x := Same.rf
  have J2 : ∀ (n0 : Nat) (x_2 : St) (H : Heap) (locs : List Loc) (ls : Array Slot) (y2_1 : Int32), Inv x_2 → Same (TC) x x_2 → (0 ≤ y2_1.toInt) → (y2_1.toInt ≤ 3) → (3 - y2_1.toInt).toNat < n0 → va_P D vwCl (WL g x_2) H → va_S (AQ g) s.heap H locs → lv_has ls 2 [(0, .ref (g.1 (5 + 21 * i + 12))), (1, .int y2_1)] → W p l e ({ frames := 1, cells := 0, slots := 0, locals := 21 } : Room) s m ([.ref (g.1 (5 + 21 * i + 12))] : List Value).toArray below meth co H locs 0 0 (MQ below (va_Qv (fun x2 => Inv x2 ∧ Same TC x x2 ∧ True) (WO D g) (AQ g)) ([.ref (g.1 (5 + 21 * i + 12))] : List Value).toArray s 0 0 (AQ g)) (F0 m 2 ls []) := by
    intro n0
    induction n0 with
    | zero => intro x_2 H locs ls y2_1 hI_2 hT_2 hf2_0 hf2_1 hm_2 hP hS hl; exact absurd hm_2 (Nat.not_lt_zero _)
    | succ n0 ih2 =>
      intro x_2 H locs ls y2_1 hI_2 hT_2 hf2_0 hf2_1 hm_2 hP hS hl
      refine lv_iload_n S.1 S.2.1 dX5_byteHasGone_2 rfl (lv_at hl 1 rfl) ?_
      refine lv_aload_n S.1 S.2.1 dX5_byteHasGone_3 rfl (lv_at hl 0 rfl) ?_
      refine w_get (C := RX5) (T := TX5) (N := 5) S (fun _ h => List.mem_cons_of_mem _ (List.mem_append_right _ h)) hK hP (5 + 21 * i + 12) (by have := h4; omega) ((ceP12 h4) _) rfl 4 (by decide) (hts _ (List.mem_of_getElem? (i := 1) rfl)) (v := .int (x_2 (5 + 21 * i + 12) 4)) rfl dX5_byteHasGone_4 ?_
      refine lv_topi (fun v1 ev1 => ?_)
      have wv1 : v1.toInt = (x_2 (5 + 21 * i + 12) 4).toInt := by rw [ev1]
      have rv1 : (0 : Int) ≤ v1.toInt ∧ v1.toInt ≤ (3 : Int) := by rw [ev1]; exact hI_2.atP (j := 12) (k := 4) h4 (by decide)
      refine w_icmp_ge (tgt := 34) S dX5_byteHasGone_7 (by decide) (fun hb2 => ?_) (fun hb2 => ?_)
      · exact w_vret S hr0 hlk hP hS dX5_byteHasGone_34 (⟨hI_2, hT_2, trivial⟩)
      · refine lv_aload_n S.1 S.2.1 dX5_byteHasGone_10 rfl (lv_at hl 0 rfl) ?_
        refine w_get (C := RX5) (T := TX5) (N := 5) S (fun _ h => List.mem_cons_of_mem _ (List.mem_append_right _ h)) hK hP (5 + 21 * i + 12) (by have := h4; omega) ((ceP12 h4) _) rfl 3 (by decide) (hts _ (List.mem_of_getElem? (i := 2) rfl)) (v := .ref (g.1 (5 + 21 * i + 16))) rfl dX5_byteHasGone_11 ?_
        refine lv_iload_n S.1 S.2.1 dX5_byteHasGone_14 rfl (lv_at hl 1 rfl) ?_
        refine w_iconst S dX5_byteHasGone_15 (by decide) (fun k3 hk3 => ?_)
        refine lv_aload_n S.1 S.2.1 dX5_byteHasGone_16 rfl (lv_at hl 0 rfl) ?_
        refine w_get (C := RX5) (T := TX5) (N := 5) S (fun _ h => List.mem_cons_of_mem _ (List.mem_append_right _ h)) hK hP (5 + 21 * i + 12) (by have := h4; omega) ((ceP12 h4) _) rfl 3 (by decide) (hts _ (List.mem_of_getElem? (i := 2) rfl)) (v := .ref (g.1 (5 + 21 * i + 16))) rfl dX5_byteHasGone_17 ?_
        refine lv_iload_n S.1 S.2.1 dX5_byteHasGone_20 rfl (lv_at hl 1 rfl) ?_
        refine w_iald S hK hP (5 + 21 * i + 16) (by have := h4; omega) (ceP16 h4) (by omega) (by omega) dX5_byteHasGone_21 (fun v4 ev4 => ?_)
        have wv4 : v4.toInt = (x_2 (5 + 21 * i + 16) y2_1.toInt.toNat).toInt := by rw [ev4]
        refine w_iconst S dX5_byteHasGone_22 (by decide) (fun k5 hk5 => ?_)
        refine lv_isub S.1 S.2.1 dX5_byteHasGone_23 ?_
        refine w_any1 (fun v6 => ?_)
        refine va_mmax S.1 S.2.1 (by rw [S.2.2.1]; exact hl.1.symm) S.2.2.2.1 (hts _ (List.mem_of_getElem? (i := 3) rfl)) (hts _ (List.mem_of_getElem? (i := 4) rfl)) (hts _ (List.mem_of_getElem? (i := 5) rfl)) (hts _ (List.mem_of_getElem? (i := 6) rfl)) (Nat.le_of_ble_eq_true rfl) (Nat.le_of_ble_eq_true rfl) (Nat.zero_le _) (Nat.zero_le _) dX5_byteHasGone_24 ?_
        refine lv_topi (fun v7 ev7 => ?_)
        have hv7 := t_max ev7
        refine w_iast S hK hg hP hS (5 + 21 * i + 16) (by have := h4; omega) (ceP16 h4) (by omega) (by omega) dX5_byteHasGone_27 (fun x8 H locs ex8 hP hS => ?_)
        have hI9 : Inv x8 := by rw [ex8]; exact hI_2.upP (j := 16) h4 (by decide) (i_ge _) (i_le _)
        have hT10 : Same (TC) x x8 := by rw [ex8]; exact hT_2.up (by unfold TC TrC; omega)
        refine w_iinc (lv' := [(0, .ref (g.1 (5 + 21 * i + 12)))]) S dX5_byteHasGone_28 hl (k := 1) rfl (by decide) (by decide) (by omega) (by omega) (fun _ => rfl) (fun v11 ls hv11 hl => ?_)
        refine lv_goto (tgt := 2) S.1 S.2.1 dX5_byteHasGone_31 (by decide) ?_
        exact ih2 _ _ _ _ v11 hI9 hT10 (by omega) (by omega) (by omega) hP hS (lv_sub hl [1, 0] rfl)
  refine w_iconst S dX5_byteHasGone_0 (by decide) (fun k12 hk12 => ?_)
  refine lv_istore_n (lv' := [(1, .int k12), (0, .ref (g.1 (5 + 21 * i + 12)))]) S.1 S.2.1 dX5_byteHasGone_1 rfl hl (by decide) rfl (fun ls hl => ?_)
  exact J2 _ _ _ _ _ k12 hI hT (by omega) (by omega) (Nat.lt_succ_self _) hP hS (lv_sub hl [1, 0] rfl)
set_option maxRecDepth 100000 in
set_option maxHeartbeats 4000000 in
theorem c_X5_onlyLeft (l : Launch) (D : va_G) (g : GA) (hg : Inj g) (x : St) (hI : Inv x) (i : Nat) (h4 : i < 4) (lim : Int32) : Met l yX5_onlyLeft wsX5_onlyLeft ({ frames := 1, cells := 0, slots := 0, locals := 21 } : Room) (va_Pc [.ref (g.1 (5 + 21 * i + 12)), .int lim] (WI D g x)) (va_Qv (fun x2 => Inv x2 ∧ Same TC x x2 ∧ True) (WO D g) (AQ g)) 0 0 (AQ g) := by
  refine w_met (cc := cX5_onlyLeft) (maxL := 3) (ret := none) (own := RX5) (by decide) rfl rfl (Nat.le_of_ble_eq_true rfl) (fun p e s m below meth co S hr0 hlk hK hN hP hS ls hl => ?_)
  have hts := S.2.2.2.2
  have hl : lv_has ls 3 [(0, .ref (g.1 (5 + 21 * i + 12))), (1, .int lim)] := hl
  have hT : Same (TC) x x := Same.rf
  have J2 : ∀ (n0 : Nat) (x_2 : St) (H : Heap) (locs : List Loc) (ls : Array Slot) (y2_2 : Int32), Inv x_2 → Same (TC) x x_2 → (0 ≤ y2_2.toInt) → (y2_2.toInt ≤ 3) → (3 - y2_2.toInt).toNat < n0 → va_P D vwCl (WL g x_2) H → va_S (AQ g) s.heap H locs → lv_has ls 3 [(0, .ref (g.1 (5 + 21 * i + 12))), (1, .int lim), (2, .int y2_2)] → W p l e ({ frames := 1, cells := 0, slots := 0, locals := 21 } : Room) s m ([.ref (g.1 (5 + 21 * i + 12)), .int lim] : List Value).toArray below meth co H locs 0 0 (MQ below (va_Qv (fun x2 => Inv x2 ∧ Same TC x x2 ∧ True) (WO D g) (AQ g)) ([.ref (g.1 (5 + 21 * i + 12)), .int lim] : List Value).toArray s 0 0 (AQ g)) (F0 m 2 ls []) := by
    intro n0
    induction n0 with
    | zero => intro x_2 H locs ls y2_2 hI_2 hT_2 hf2_0 hf2_1 hm_2 hP hS hl; exact absurd hm_2 (Nat.not_lt_zero _)
    | succ n0 ih2 =>
      intro x_2 H locs ls y2_2 hI_2 hT_2 hf2_0 hf2_1 hm_2 hP hS hl
      refine lv_iload_n S.1 S.2.1 dX5_onlyLeft_2 rfl (lv_at hl 2 rfl) ?_
      refine lv_aload_n S.1 S.2.1 dX5_onlyLeft_3 rfl (lv_at hl 0 rfl) ?_
      refine w_get (C := RX5) (T := TX5) (N := 5) S (fun _ h => List.mem_cons_of_mem _ (List.mem_append_right _ h)) hK hP (5 + 21 * i + 12) (by have := h4; omega) ((ceP12 h4) _) rfl 4 (by decide) (hts _ (List.mem_of_getElem? (i := 1) rfl)) (v := .int (x_2 (5 + 21 * i + 12) 4)) rfl dX5_onlyLeft_4 ?_
      refine lv_topi (fun v1 ev1 => ?_)
      have wv1 : v1.toInt = (x_2 (5 + 21 * i + 12) 4).toInt := by rw [ev1]
      have rv1 : (0 : Int) ≤ v1.toInt ∧ v1.toInt ≤ (3 : Int) := by rw [ev1]; exact hI_2.atP (j := 12) (k := 4) h4 (by decide)
      refine w_icmp_ge (tgt := 32) S dX5_onlyLeft_7 (by decide) (fun hb2 => ?_) (fun hb2 => ?_)
      · exact w_vret S hr0 hlk hP hS dX5_onlyLeft_32 (⟨hI_2, hT_2, trivial⟩)
      · refine lv_aload_n S.1 S.2.1 dX5_onlyLeft_10 rfl (lv_at hl 0 rfl) ?_
        refine w_get (C := RX5) (T := TX5) (N := 5) S (fun _ h => List.mem_cons_of_mem _ (List.mem_append_right _ h)) hK hP (5 + 21 * i + 12) (by have := h4; omega) ((ceP12 h4) _) rfl 3 (by decide) (hts _ (List.mem_of_getElem? (i := 2) rfl)) (v := .ref (g.1 (5 + 21 * i + 16))) rfl dX5_onlyLeft_11 ?_
        refine lv_iload_n S.1 S.2.1 dX5_onlyLeft_14 rfl (lv_at hl 2 rfl) ?_
        refine lv_aload_n S.1 S.2.1 dX5_onlyLeft_15 rfl (lv_at hl 0 rfl) ?_
        refine w_get (C := RX5) (T := TX5) (N := 5) S (fun _ h => List.mem_cons_of_mem _ (List.mem_append_right _ h)) hK hP (5 + 21 * i + 12) (by have := h4; omega) ((ceP12 h4) _) rfl 3 (by decide) (hts _ (List.mem_of_getElem? (i := 2) rfl)) (v := .ref (g.1 (5 + 21 * i + 16))) rfl dX5_onlyLeft_16 ?_
        refine lv_iload_n S.1 S.2.1 dX5_onlyLeft_19 rfl (lv_at hl 2 rfl) ?_
        refine w_iald S hK hP (5 + 21 * i + 16) (by have := h4; omega) (ceP16 h4) (by omega) (by omega) dX5_onlyLeft_20 (fun v3 ev3 => ?_)
        have wv3 : v3.toInt = (x_2 (5 + 21 * i + 16) y2_2.toInt.toNat).toInt := by rw [ev3]
        refine lv_iload_n S.1 S.2.1 dX5_onlyLeft_21 rfl (lv_at hl 1 rfl) ?_
        refine va_mmin S.1 S.2.1 (by rw [S.2.2.1]; exact hl.1.symm) S.2.2.2.1 (hts _ (List.mem_of_getElem? (i := 3) rfl)) (hts _ (List.mem_of_getElem? (i := 4) rfl)) (hts _ (List.mem_of_getElem? (i := 5) rfl)) (hts _ (List.mem_of_getElem? (i := 6) rfl)) (Nat.le_of_ble_eq_true rfl) (Nat.le_of_ble_eq_true rfl) (Nat.zero_le _) (Nat.zero_le _) dX5_onlyLeft_22 ?_
        refine lv_topi (fun v4 ev4 => ?_)
        have hv4 := t_min ev4
        refine w_iast S hK hg hP hS (5 + 21 * i + 16) (by have := h4; omega) (ceP16 h4) (by omega) (by omega) dX5_onlyLeft_25 (fun x5 H locs ex5 hP hS => ?_)
        have hI6 : Inv x5 := by rw [ex5]; exact hI_2.upP (j := 16) h4 (by decide) (i_ge _) (i_le _)
        have hT7 : Same (TC) x x5 := by rw [ex5]; exact hT_2.up (by unfold TC TrC; omega)
        refine w_iinc (lv' := [(0, .ref (g.1 (5 + 21 * i + 12))), (1, .int lim)]) S dX5_onlyLeft_26 hl (k := 2) rfl (by decide) (by decide) (by omega) (by omega) (fun _ => rfl) (fun v8 ls hv8 hl => ?_)
        refine lv_goto (tgt := 2) S.1 S.2.1 dX5_onlyLeft_29 (by decide) ?_
        exact ih2 _ _ _ _ v8 hI6 hT7 (by omega) (by omega) (by omega) hP hS (lv_sub hl [1, 2, 0] rfl)
  refine w_iconst S dX5_onlyLeft_0 (by decide) (fun k9 hk9 => ?_)
  refine lv_istore_n (lv' := [(2, .int k9), (0, .ref (g.1 (5 + 21 * i + 12))), (1, .int lim)]) S.1 S.2.1 dX5_onlyLeft_1 rfl hl (by decide) rfl (fun ls hl => ?_)
  exact J2 _ _ _ _ _ k9 hI hT (by omega) (by omega) (Nat.lt_succ_self _) hP hS (lv_sub hl [1, 2, 0] rfl)
