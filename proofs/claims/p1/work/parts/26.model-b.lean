set_option maxRecDepth 100000 in
set_option maxHeartbeats 4000000 in
theorem c_X7_receive (l : Launch) (D : va_G) (g : GA) (hg : Inj g) (x : St) (hI : Inv x) (hE : Rel x) (po : Int32) (b : Int32) (fl : Int32) (hy0 : (x 89 33).toInt = 0) : Met l yX7_receive wsX7_receive ({ frames := 1, cells := 0, slots := 0, locals := 20 } : Room) (va_Pc [.ref (g.1 89), .int po, .int b, .int fl] (WI D g x)) (va_Qi (fun r x2 => Inv x2 ∧ Same (TMr po.toInt.toNat) x x2 ∧ Rel x2 ∧ (x2 89 33).toInt = 0 ∧ ((0 ≤ po.toInt ∧ po.toInt ≤ 3 ∧ 0 ≤ b.toInt ∧ b.toInt ≤ 255 ∧ 0 ≤ fl.toInt ∧ fl.toInt ≤ 3) → ((x 93 (po.toInt.toNat)).toInt < 8 → r.toInt = 1 ∧ (x2 93 (po.toInt.toNat)).toInt = (x 93 (po.toInt.toNat)).toInt + 1) ∧ ((x 93 (po.toInt.toNat)).toInt = 8 → r.toInt = 0 ∧ (x2 93 (po.toInt.toNat)).toInt = (x 93 (po.toInt.toNat)).toInt)) ∧ (¬ (0 ≤ po.toInt ∧ po.toInt ≤ 3 ∧ 0 ≤ b.toInt ∧ b.toInt ≤ 255 ∧ 0 ≤ fl.toInt ∧ fl.toInt ≤ 3) → r.toInt = 0 ∧ Same TM x x2) ∧ 0 ≤ r.toInt ∧ r.toInt ≤ 1) (WO D g) (AQ g)) 0 0 (AQ g) := by
  refine w_met (cc := cX7_receive) (maxL := 4) (ret := (some .boolean)) (own := RX7) (by decide) rfl rfl (Nat.le_of_ble_eq_true rfl) (fun p e s m below meth co S hr0 hlk hK hN hP hS ls hl => ?_)
  have hts := S.2.2.2.2
  have hl : lv_has ls 4 [(0, .ref (g.1 89)), (1, .int po), (2, .int b), (3, .int fl)] := hl
  have hT : Same (TMr po.toInt.toNat) x x := Same.rf
  refine lv_aload_n S.1 S.2.1 dX7_receive_0 rfl (lv_at hl 0 rfl) ?_
  refine w_iconst S dX7_receive_1 (by decide) (fun k1 hk1 => ?_)
  refine w_put (C := RX7) (T := TX7) (N := 34) (F := FMod g) S (fun _ h => List.mem_cons_of_mem _ (List.mem_append_right _ h)) tyX7_ok nmX7 hK hg hP hS 89 (by decide) ceK89 rfl 0 (by decide) (hts _ (List.mem_of_getElem? (i := 1) rfl)) rfl rfl rfl (fun _ => Nat.le_of_ble_eq_true rfl) (fun _ => rfl) dX7_receive_2 (fun x2 H locs ex2 hP hS => ?_)
  have hI3 : Inv x2 := by rw [ex2]; exact hI.up (i_ge _) (i_le _)
  have hT4 : Same (TMr po.toInt.toNat) x x2 := by rw [ex2]; exact hT.up (by unfold TMr TM TrM; omega)
  have hE5 : Rel x2 := by rw [ex2]; exact Rel.oth hE (by decide) (by decide)
  have u6 : (x2 89 (33)).toInt = (x 89 (33)).toInt := by rw [ex2, up2_ne _ _ (by omega)]
  have u7 : (x2 93 (po.toInt.toNat)).toInt = (x 93 (po.toInt.toNat)).toInt := by rw [ex2, up2_ne _ _ (by omega)]
  have hm5 : Same TM x x2 := by rw [ex2]; exact Same.rf.up (by unfold TM TrM; omega)
  refine lv_iload_n S.1 S.2.1 dX7_receive_5 rfl (lv_at hl 1 rfl) ?_
  refine w_cSi (As := [.int po]) (rest := []) S hK hN hP hS hl (c_X7_isPort l D g hg x2 hI3 po) (va_cwS 1 hts gX7_receive_X7_isPort rfl rfl rfl (by decide +kernel) ⟨Nat.le_of_ble_eq_true rfl, Nat.le_of_ble_eq_true rfl⟩) rfl rfl (Nat.le_of_ble_eq_true rfl) dX7_receive_6 ⟨Nat.zero_le _, Nat.zero_le _⟩ (fun r9 x8 H locs hq10 hP hS => ?_)
  obtain ⟨ex11, hf12⟩ := hq10
  rw [ex11] at hP
  refine w_if_eq (tgt := 32) S dX7_receive_9 (by decide) (fun hb13 => ?_) (fun hb13 => ?_)
  · refine w_iconst S dX7_receive_32 (by decide) (fun k14 hk14 => ?_)
    exact w_zret S hr0 hlk hP hS dX7_receive_33 (z01 (by omega) (by omega)) (⟨hI3, hT4, hE5, by omega, fun hv => absurd hv (by omega), fun _ => ⟨by omega, hm5⟩, by omega, by omega⟩)
  · refine lv_iload_n S.1 S.2.1 dX7_receive_12 rfl (lv_at hl 2 rfl) ?_
    refine w_if_lt (tgt := 32) S dX7_receive_13 (by decide) (fun hb15 => ?_) (fun hb15 => ?_)
    · refine w_iconst S dX7_receive_32 (by decide) (fun k16 hk16 => ?_)
      exact w_zret S hr0 hlk hP hS dX7_receive_33 (z01 (by omega) (by omega)) (⟨hI3, hT4, hE5, by omega, fun hv => absurd hv (by omega), fun _ => ⟨by omega, hm5⟩, by omega, by omega⟩)
    · refine lv_iload_n S.1 S.2.1 dX7_receive_16 rfl (lv_at hl 2 rfl) ?_
      refine w_sipush S dX7_receive_17 (by decide) (fun k17 hk17 => ?_)
      refine w_icmp_gt (tgt := 32) S dX7_receive_20 (by decide) (fun hb18 => ?_) (fun hb18 => ?_)
      · refine w_iconst S dX7_receive_32 (by decide) (fun k19 hk19 => ?_)
        exact w_zret S hr0 hlk hP hS dX7_receive_33 (z01 (by omega) (by omega)) (⟨hI3, hT4, hE5, by omega, fun hv => absurd hv (by omega), fun _ => ⟨by omega, hm5⟩, by omega, by omega⟩)
      · refine lv_iload_n S.1 S.2.1 dX7_receive_23 rfl (lv_at hl 3 rfl) ?_
        refine w_if_lt (tgt := 32) S dX7_receive_24 (by decide) (fun hb20 => ?_) (fun hb20 => ?_)
        · refine w_iconst S dX7_receive_32 (by decide) (fun k21 hk21 => ?_)
          exact w_zret S hr0 hlk hP hS dX7_receive_33 (z01 (by omega) (by omega)) (⟨hI3, hT4, hE5, by omega, fun hv => absurd hv (by omega), fun _ => ⟨by omega, hm5⟩, by omega, by omega⟩)
        · refine lv_iload_n S.1 S.2.1 dX7_receive_27 rfl (lv_at hl 3 rfl) ?_
          refine w_iconst S dX7_receive_28 (by decide) (fun k22 hk22 => ?_)
          refine w_icmp_le (tgt := 34) S dX7_receive_29 (by decide) (fun hb23 => ?_) (fun hb23 => ?_)
          · refine lv_aload_n S.1 S.2.1 dX7_receive_34 rfl (lv_at hl 0 rfl) ?_
            refine w_get (C := RX7) (T := TX7) (N := 34) S (fun _ h => List.mem_cons_of_mem _ (List.mem_append_right _ h)) hK hP 89 (by decide) (ceK89 _) rfl 4 (by decide) (hts _ (List.mem_of_getElem? (i := 2) rfl)) (v := .ref (g.1 93)) rfl dX7_receive_35 ?_
            refine lv_iload_n S.1 S.2.1 dX7_receive_38 rfl (lv_at hl 1 rfl) ?_
            refine w_iald S hK hP 93 (by decide) ceK93 (by omega) (by omega) dX7_receive_39 (fun v24 ev24 => ?_)
            have wv24 : v24.toInt = (x2 93 po.toInt.toNat).toInt := by rw [ev24]
            have rv24 : (0 : Int) ≤ v24.toInt ∧ v24.toInt ≤ (8 : Int) := by rw [ev24]; exact hI3 93 _
            refine w_bipush S dX7_receive_40 (by decide) (fun k25 hk25 => ?_)
            refine w_icmp_ne (tgt := 61) S dX7_receive_42 (by decide) (fun hb26 => ?_) (fun hb26 => ?_)
            · refine lv_aload_n S.1 S.2.1 dX7_receive_61 rfl (lv_at hl 0 rfl) ?_
              refine w_get (C := RX7) (T := TX7) (N := 34) S (fun _ h => List.mem_cons_of_mem _ (List.mem_append_right _ h)) hK hP 89 (by decide) (ceK89 _) rfl 2 (by decide) (hts _ (List.mem_of_getElem? (i := 4) rfl)) (v := .ref (g.1 91)) rfl dX7_receive_62 ?_
              refine w_bipush S dX7_receive_65 (by decide) (fun k27 hk27 => ?_)
              refine lv_iload_n S.1 S.2.1 dX7_receive_67 rfl (lv_at hl 1 rfl) ?_
              refine w_imulk S dX7_receive_68 8 hk27 (by omega) (by omega) (fun v28 hv28 => ?_)
              refine lv_aload_n S.1 S.2.1 dX7_receive_69 rfl (lv_at hl 0 rfl) ?_
              refine w_get (C := RX7) (T := TX7) (N := 34) S (fun _ h => List.mem_cons_of_mem _ (List.mem_append_right _ h)) hK hP 89 (by decide) (ceK89 _) rfl 4 (by decide) (hts _ (List.mem_of_getElem? (i := 2) rfl)) (v := .ref (g.1 93)) rfl dX7_receive_70 ?_
              refine lv_iload_n S.1 S.2.1 dX7_receive_73 rfl (lv_at hl 1 rfl) ?_
              refine w_iald S hK hP 93 (by decide) ceK93 (by omega) (by omega) dX7_receive_74 (fun v29 ev29 => ?_)
              have wv29 : v29.toInt = (x2 93 po.toInt.toNat).toInt := by rw [ev29]
              have rv29 : (0 : Int) ≤ v29.toInt ∧ v29.toInt ≤ (8 : Int) := by rw [ev29]; exact hI3 93 _
              refine w_iadd S dX7_receive_75 (by omega) (by omega) (fun v30 hv30 => ?_)
              refine lv_iload_n S.1 S.2.1 dX7_receive_76 rfl (lv_at hl 2 rfl) ?_
              refine w_iast S hK hg hP hS 91 (by decide) ceK91 (by omega) (by omega) dX7_receive_77 (fun x31 H locs ex31 hP hS => ?_)
              have hI32 : Inv x31 := by rw [ex31]; exact hI3.up (i_ge _) (i_le _)
              have hT33 : Same (TMr po.toInt.toNat) x x31 := by rw [ex31]; exact hT4.up (by unfold TMr TM TrM; omega)
              have hE34 : Rel x31 := by rw [ex31]; exact Rel.oth hE5 (by decide) (by decide)
              have u35 : (x31 89 (33)).toInt = (x2 89 (33)).toInt := by rw [ex31, up2_ne _ _ (by omega)]
              have u36 : (x31 93 (po.toInt.toNat)).toInt = (x2 93 (po.toInt.toNat)).toInt := by rw [ex31, up2_ne _ _ (by omega)]
              refine lv_aload_n S.1 S.2.1 dX7_receive_78 rfl (lv_at hl 0 rfl) ?_
              refine w_get (C := RX7) (T := TX7) (N := 34) S (fun _ h => List.mem_cons_of_mem _ (List.mem_append_right _ h)) hK hP 89 (by decide) (ceK89 _) rfl 3 (by decide) (hts _ (List.mem_of_getElem? (i := 5) rfl)) (v := .ref (g.1 92)) rfl dX7_receive_79 ?_
              refine w_bipush S dX7_receive_82 (by decide) (fun k37 hk37 => ?_)
              refine lv_iload_n S.1 S.2.1 dX7_receive_84 rfl (lv_at hl 1 rfl) ?_
              refine w_imulk S dX7_receive_85 8 hk37 (by omega) (by omega) (fun v38 hv38 => ?_)
              refine lv_aload_n S.1 S.2.1 dX7_receive_86 rfl (lv_at hl 0 rfl) ?_
              refine w_get (C := RX7) (T := TX7) (N := 34) S (fun _ h => List.mem_cons_of_mem _ (List.mem_append_right _ h)) hK hP 89 (by decide) (ceK89 _) rfl 4 (by decide) (hts _ (List.mem_of_getElem? (i := 2) rfl)) (v := .ref (g.1 93)) rfl dX7_receive_87 ?_
              refine lv_iload_n S.1 S.2.1 dX7_receive_90 rfl (lv_at hl 1 rfl) ?_
              refine w_iald S hK hP 93 (by decide) ceK93 (by omega) (by omega) dX7_receive_91 (fun v39 ev39 => ?_)
              have wv39 : v39.toInt = (x31 93 po.toInt.toNat).toInt := by rw [ev39]
              have rv39 : (0 : Int) ≤ v39.toInt ∧ v39.toInt ≤ (8 : Int) := by rw [ev39]; exact hI32 93 _
              refine w_iadd S dX7_receive_92 (by omega) (by omega) (fun v40 hv40 => ?_)
              refine lv_iload_n S.1 S.2.1 dX7_receive_93 rfl (lv_at hl 3 rfl) ?_
              refine w_iast S hK hg hP hS 92 (by decide) ceK92 (by omega) (by omega) dX7_receive_94 (fun x41 H locs ex41 hP hS => ?_)
              have hI42 : Inv x41 := by rw [ex41]; exact hI32.up (i_ge _) (i_le _)
              have hT43 : Same (TMr po.toInt.toNat) x x41 := by rw [ex41]; exact hT33.up (by unfold TMr TM TrM; omega)
              have hE44 : Rel x41 := by rw [ex41]; exact Rel.oth hE34 (by decide) (by decide)
              have u45 : (x41 89 (33)).toInt = (x31 89 (33)).toInt := by rw [ex41, up2_ne _ _ (by omega)]
              have u46 : (x41 93 (po.toInt.toNat)).toInt = (x31 93 (po.toInt.toNat)).toInt := by rw [ex41, up2_ne _ _ (by omega)]
              refine lv_aload_n S.1 S.2.1 dX7_receive_95 rfl (lv_at hl 0 rfl) ?_
              refine w_get (C := RX7) (T := TX7) (N := 34) S (fun _ h => List.mem_cons_of_mem _ (List.mem_append_right _ h)) hK hP 89 (by decide) (ceK89 _) rfl 4 (by decide) (hts _ (List.mem_of_getElem? (i := 2) rfl)) (v := .ref (g.1 93)) rfl dX7_receive_96 ?_
              refine lv_iload_n S.1 S.2.1 dX7_receive_99 rfl (lv_at hl 1 rfl) ?_
              refine lv_dup2_11 S.1 S.2.1 dX7_receive_100 rfl rfl ?_
              refine w_iald S hK hP 93 (by decide) ceK93 (by omega) (by omega) dX7_receive_101 (fun v47 ev47 => ?_)
              have wv47 : v47.toInt = (x41 93 po.toInt.toNat).toInt := by rw [ev47]
              have rv47 : (0 : Int) ≤ v47.toInt ∧ v47.toInt ≤ (8 : Int) := by rw [ev47]; exact hI42 93 _
              refine w_iconst S dX7_receive_102 (by decide) (fun k48 hk48 => ?_)
              refine w_iadd S dX7_receive_103 (by omega) (by omega) (fun v49 hv49 => ?_)
              refine w_iast S hK hg hP hS 93 (by decide) ceK93 (by omega) (by omega) dX7_receive_104 (fun x50 H locs ex50 hP hS => ?_)
              have hI51 : Inv x50 := by rw [ex50]; exact hI42.up (show (0 : Int) ≤ _ by omega) (show _ ≤ (8 : Int) by omega)
              have hT52 : Same (TMr po.toInt.toNat) x x50 := by rw [ex50]; exact hT43.up (by unfold TMr TM TrM; omega)
              have hE53 : Rel x50 := by rw [ex50]; exact Rel.oth hE44 (by decide) (by decide)
              have u54 : (x50 89 (33)).toInt = (x41 89 (33)).toInt := by rw [ex50, up2_ne _ _ (by omega)]
              have u55 : (x50 93 (po.toInt.toNat)).toInt = v49.toInt := by rw [ex50, up2_at]
              refine lv_aload_n S.1 S.2.1 dX7_receive_105 rfl (lv_at hl 0 rfl) ?_
              refine w_get (C := RX7) (T := TX7) (N := 34) S (fun _ h => List.mem_cons_of_mem _ (List.mem_append_right _ h)) hK hP 89 (by decide) (ceK89 _) rfl 31 (by decide) (hts _ (List.mem_of_getElem? (i := 3) rfl)) (v := .ref (g.1 120)) rfl dX7_receive_106 ?_
              refine w_iconst S dX7_receive_109 (by decide) (fun k56 hk56 => ?_)
              refine lv_iload_n S.1 S.2.1 dX7_receive_110 rfl (lv_at hl 1 rfl) ?_
              refine w_imulk S dX7_receive_111 5 hk56 (by omega) (by omega) (fun v57 hv57 => ?_)
              refine lv_dup2_11 S.1 S.2.1 dX7_receive_112 rfl rfl ?_
              refine w_iald S hK hP 120 (by decide) ceK120 (by omega) (by omega) dX7_receive_113 (fun v58 ev58 => ?_)
              have wv58 : v58.toInt = (x50 120 v57.toInt.toNat).toInt := by rw [ev58]
              refine w_iconst S dX7_receive_114 (by decide) (fun k59 hk59 => ?_)
              refine lv_iadd S.1 S.2.1 dX7_receive_115 ?_
              refine w_any1 (fun v60 => ?_)
              refine w_iast S hK hg hP hS 120 (by decide) ceK120 (by omega) (by omega) dX7_receive_116 (fun x61 H locs ex61 hP hS => ?_)
              have hI62 : Inv x61 := by rw [ex61]; exact hI51.up (i_ge _) (i_le _)
              have hT63 : Same (TMr po.toInt.toNat) x x61 := by rw [ex61]; exact hT52.up (by unfold TMr TM TrM; omega)
              have hE64 : Rel x61 := by rw [ex61]; exact Rel.oth hE53 (by decide) (by decide)
              have u65 : (x61 89 (33)).toInt = (x50 89 (33)).toInt := by rw [ex61, up2_ne _ _ (by omega)]
              have u66 : (x61 93 (po.toInt.toNat)).toInt = (x50 93 (po.toInt.toNat)).toInt := by rw [ex61, up2_ne _ _ (by omega)]
              refine w_iconst S dX7_receive_117 (by decide) (fun k67 hk67 => ?_)
              exact w_zret S hr0 hlk hP hS dX7_receive_118 (z01 (by omega) (by omega)) (⟨hI62, hT63, hE64, by omega, fun _ => by omega, fun hv => absurd hv (by omega), by omega, by omega⟩)
            · refine lv_aload_n S.1 S.2.1 dX7_receive_45 rfl (lv_at hl 0 rfl) ?_
              refine w_get (C := RX7) (T := TX7) (N := 34) S (fun _ h => List.mem_cons_of_mem _ (List.mem_append_right _ h)) hK hP 89 (by decide) (ceK89 _) rfl 31 (by decide) (hts _ (List.mem_of_getElem? (i := 3) rfl)) (v := .ref (g.1 120)) rfl dX7_receive_46 ?_
              refine w_iconst S dX7_receive_49 (by decide) (fun k68 hk68 => ?_)
              refine lv_iload_n S.1 S.2.1 dX7_receive_50 rfl (lv_at hl 1 rfl) ?_
              refine w_imulk S dX7_receive_51 5 hk68 (by omega) (by omega) (fun v69 hv69 => ?_)
              refine w_iconst S dX7_receive_52 (by decide) (fun k70 hk70 => ?_)
              refine w_iadd S dX7_receive_53 (by omega) (by omega) (fun v71 hv71 => ?_)
              refine lv_dup2_11 S.1 S.2.1 dX7_receive_54 rfl rfl ?_
              refine w_iald S hK hP 120 (by decide) ceK120 (by omega) (by omega) dX7_receive_55 (fun v72 ev72 => ?_)
              have wv72 : v72.toInt = (x2 120 v71.toInt.toNat).toInt := by rw [ev72]
              refine w_iconst S dX7_receive_56 (by decide) (fun k73 hk73 => ?_)
              refine lv_iadd S.1 S.2.1 dX7_receive_57 ?_
              refine w_any1 (fun v74 => ?_)
              refine w_iast S hK hg hP hS 120 (by decide) ceK120 (by omega) (by omega) dX7_receive_58 (fun x75 H locs ex75 hP hS => ?_)
              have hI76 : Inv x75 := by rw [ex75]; exact hI3.up (i_ge _) (i_le _)
              have hT77 : Same (TMr po.toInt.toNat) x x75 := by rw [ex75]; exact hT4.up (by unfold TMr TM TrM; omega)
              have hE78 : Rel x75 := by rw [ex75]; exact Rel.oth hE5 (by decide) (by decide)
              have u79 : (x75 89 (33)).toInt = (x2 89 (33)).toInt := by rw [ex75, up2_ne _ _ (by omega)]
              have u80 : (x75 93 (po.toInt.toNat)).toInt = (x2 93 (po.toInt.toNat)).toInt := by rw [ex75, up2_ne _ _ (by omega)]
              refine w_iconst S dX7_receive_59 (by decide) (fun k81 hk81 => ?_)
              exact w_zret S hr0 hlk hP hS dX7_receive_60 (z01 (by omega) (by omega)) (⟨hI76, hT77, hE78, by omega, fun _ => by omega, fun hv => absurd hv (by omega), by omega, by omega⟩)
          · refine w_iconst S dX7_receive_32 (by decide) (fun k82 hk82 => ?_)
            exact w_zret S hr0 hlk hP hS dX7_receive_33 (z01 (by omega) (by omega)) (⟨hI3, hT4, hE5, by omega, fun hv => absurd hv (by omega), fun _ => ⟨by omega, hm5⟩, by omega, by omega⟩)
set_option maxRecDepth 100000 in
set_option maxHeartbeats 4000000 in
theorem c_X7_transmit (l : Launch) (D : va_G) (g : GA) (hg : Inj g) (x : St) (hI : Inv x) (hE : Rel x) (po : Int32) (hy0 : (x 89 33).toInt = 0) : Met l yX7_transmit wsX7_transmit ({ frames := 3, cells := 0, slots := 0, locals := 71 } : Room) (va_Pc [.ref (g.1 89), .int po] (WI D g x)) (va_Qi (fun r x2 => Inv x2 ∧ Same TM x x2 ∧ Rel x2 ∧ (x2 89 33).toInt = 0 ∧ ((0 ≤ po.toInt ∧ po.toInt ≤ 3) → (x 107 (po.toInt.toNat)).toInt = 0 → (x 100 (po.toInt.toNat)).toInt = 0 → (x 102 (po.toInt.toNat)).toInt = 0 → r.toInt = -1) ∧ (¬ (0 ≤ po.toInt ∧ po.toInt ≤ 3) → r.toInt = -1)) (WO D g) (AQ g)) 0 0 (AQ g) := by
  refine w_met (cc := cX7_transmit) (maxL := 4) (ret := (some .int)) (own := RX7) (by decide) rfl rfl (Nat.le_of_ble_eq_true rfl) (fun p e s m below meth co S hr0 hlk hK hN hP hS ls hl => ?_)
  have hts := S.2.2.2.2
  have hl : lv_has ls 4 [(0, .ref (g.1 89)), (1, .int po)] := hl
  have hT : Same (TM) x x := Same.rf
  have J170 : ∀ (x_170 : St) (H : Heap) (locs : List Loc) (ls : Array Slot) (y170_2 : Int32), Inv x_170 → Same (TM) x x_170 → Rel x_170 → ((x_170 89 33).toInt = 0) → ((x 107 (po.toInt.toNat)).toInt = 0 → (x 100 (po.toInt.toNat)).toInt = 0 → (x 102 (po.toInt.toNat)).toInt = 0 → y170_2.toInt = -1) → (0 ≤ po.toInt ∧ po.toInt ≤ 3) → va_P D vwCl (WL g x_170) H → va_S (AQ g) s.heap H locs → lv_has ls 4 [(0, .ref (g.1 89)), (1, .int po), (2, .int y170_2)] → W p l e ({ frames := 3, cells := 0, slots := 0, locals := 71 } : Room) s m ([.ref (g.1 89), .int po] : List Value).toArray below meth co H locs 0 0 (MQ below (va_Qi (fun r x2 => Inv x2 ∧ Same TM x x2 ∧ Rel x2 ∧ (x2 89 33).toInt = 0 ∧ ((0 ≤ po.toInt ∧ po.toInt ≤ 3) → (x 107 (po.toInt.toNat)).toInt = 0 → (x 100 (po.toInt.toNat)).toInt = 0 → (x 102 (po.toInt.toNat)).toInt = 0 → r.toInt = -1) ∧ (¬ (0 ≤ po.toInt ∧ po.toInt ≤ 3) → r.toInt = -1)) (WO D g) (AQ g)) ([.ref (g.1 89), .int po] : List Value).toArray s 0 0 (AQ g)) (F0 m 170 ls []) := by
    intro x_170 H locs ls y170_2 hI_170 hT_170 hE_170 hf170_0 hf170_1 hf170_2 hP hS hl
    refine lv_iload_n S.1 S.2.1 dX7_transmit_170 rfl (lv_at hl 2 rfl) ?_
    refine w_if_lt (tgt := 188) S dX7_transmit_171 (by decide) (fun hb1 => ?_) (fun hb1 => ?_)
    · refine lv_aload_n S.1 S.2.1 dX7_transmit_188 rfl (lv_at hl 0 rfl) ?_
      refine lv_iload_n S.1 S.2.1 dX7_transmit_189 rfl (lv_at hl 1 rfl) ?_
      refine w_cVv (As := [.int po]) (rest := []) S hK hN hP hS hl 89 (by decide) (ceK89 _) rfl (c_X7_push l D g hg x_170 hI_170 hE_170 po (by omega)) (cwV 1 hts gX7_transmit_X7_push rfl rfl rfl (by decide +kernel) ⟨Nat.le_of_ble_eq_true rfl, Nat.le_of_ble_eq_true rfl⟩) rfl rfl (Nat.le_of_ble_eq_true rfl) dX7_transmit_190 ⟨Nat.zero_le _, Nat.zero_le _⟩ (fun x2 H locs hq4 hP hS => ?_)
      obtain ⟨hI5, hT6, hE8, hf7⟩ := hq4
      have hT9 : Same (TM) x x2 := hT_170.tr hT6 (fun _ _ h => h)
      refine lv_aload_n S.1 S.2.1 dX7_transmit_193 rfl (lv_at hl 0 rfl) ?_
      refine lv_iload_n S.1 S.2.1 dX7_transmit_194 rfl (lv_at hl 1 rfl) ?_
      refine w_cVv (As := [.int po]) (rest := []) S hK hN hP hS hl 89 (by decide) (ceK89 _) rfl (c_X7_settle l D g hg x2 hI5 hE8 po (by omega)) (cwV 1 hts gX7_transmit_X7_settle rfl rfl rfl (by decide +kernel) ⟨Nat.le_of_ble_eq_true rfl, Nat.le_of_ble_eq_true rfl⟩) rfl rfl (Nat.le_of_ble_eq_true rfl) dX7_transmit_195 ⟨Nat.zero_le _, Nat.zero_le _⟩ (fun x10 H locs hq12 hP hS => ?_)
      obtain ⟨hI13, hT14, hE16, hf15⟩ := hq12
      have hT17 : Same (TM) x x10 := hT9.tr hT14 (fun _ _ h => h)
      refine lv_iload_n S.1 S.2.1 dX7_transmit_198 rfl (lv_at hl 2 rfl) ?_
      exact w_iret S hr0 hlk hP hS dX7_transmit_199 (⟨hI13, hT17, hE16, by omega, by omega, by omega⟩)
    · refine lv_aload_n S.1 S.2.1 dX7_transmit_174 rfl (lv_at hl 0 rfl) ?_
      refine w_get (C := RX7) (T := TX7) (N := 34) S (fun _ h => List.mem_cons_of_mem _ (List.mem_append_right _ h)) hK hP 89 (by decide) (ceK89 _) rfl 31 (by decide) (hts _ (List.mem_of_getElem? (i := 9) rfl)) (v := .ref (g.1 120)) rfl dX7_transmit_175 ?_
      refine w_iconst S dX7_transmit_178 (by decide) (fun k18 hk18 => ?_)
      refine lv_iload_n S.1 S.2.1 dX7_transmit_179 rfl (lv_at hl 1 rfl) ?_
      refine w_imulk S dX7_transmit_180 5 hk18 (by omega) (by omega) (fun v19 hv19 => ?_)
      refine w_iconst S dX7_transmit_181 (by decide) (fun k20 hk20 => ?_)
      refine w_iadd S dX7_transmit_182 (by omega) (by omega) (fun v21 hv21 => ?_)
      refine lv_dup2_11 S.1 S.2.1 dX7_transmit_183 rfl rfl ?_
      refine w_iald S hK hP 120 (by decide) ceK120 (by omega) (by omega) dX7_transmit_184 (fun v22 ev22 => ?_)
      have wv22 : v22.toInt = (x_170 120 v21.toInt.toNat).toInt := by rw [ev22]
      refine w_iconst S dX7_transmit_185 (by decide) (fun k23 hk23 => ?_)
      refine lv_iadd S.1 S.2.1 dX7_transmit_186 ?_
      refine w_any1 (fun v24 => ?_)
      refine w_iast S hK hg hP hS 120 (by decide) ceK120 (by omega) (by omega) dX7_transmit_187 (fun x25 H locs ex25 hP hS => ?_)
      have hI26 : Inv x25 := by rw [ex25]; exact hI_170.up (i_ge _) (i_le _)
      have hT27 : Same (TM) x x25 := by rw [ex25]; exact hT_170.up (by unfold TM TrM; omega)
      have hE28 : Rel x25 := by rw [ex25]; exact Rel.oth hE_170 (by decide) (by decide)
      have u29 : (x25 89 (33)).toInt = (x_170 89 (33)).toInt := by rw [ex25, up2_ne _ _ (by omega)]
      have u30 : (x25 100 (po.toInt.toNat)).toInt = (x_170 100 (po.toInt.toNat)).toInt := by rw [ex25, up2_ne _ _ (by omega)]
      have u31 : (x25 102 (po.toInt.toNat)).toInt = (x_170 102 (po.toInt.toNat)).toInt := by rw [ex25, up2_ne _ _ (by omega)]
      have u32 : (x25 107 (po.toInt.toNat)).toInt = (x_170 107 (po.toInt.toNat)).toInt := by rw [ex25, up2_ne _ _ (by omega)]
      refine lv_aload_n S.1 S.2.1 dX7_transmit_188 rfl (lv_at hl 0 rfl) ?_
      refine lv_iload_n S.1 S.2.1 dX7_transmit_189 rfl (lv_at hl 1 rfl) ?_
      refine w_cVv (As := [.int po]) (rest := []) S hK hN hP hS hl 89 (by decide) (ceK89 _) rfl (c_X7_push l D g hg x25 hI26 hE28 po (by omega)) (cwV 1 hts gX7_transmit_X7_push rfl rfl rfl (by decide +kernel) ⟨Nat.le_of_ble_eq_true rfl, Nat.le_of_ble_eq_true rfl⟩) rfl rfl (Nat.le_of_ble_eq_true rfl) dX7_transmit_190 ⟨Nat.zero_le _, Nat.zero_le _⟩ (fun x33 H locs hq35 hP hS => ?_)
      obtain ⟨hI36, hT37, hE39, hf38⟩ := hq35
      have hT40 : Same (TM) x x33 := hT27.tr hT37 (fun _ _ h => h)
      refine lv_aload_n S.1 S.2.1 dX7_transmit_193 rfl (lv_at hl 0 rfl) ?_
      refine lv_iload_n S.1 S.2.1 dX7_transmit_194 rfl (lv_at hl 1 rfl) ?_
      refine w_cVv (As := [.int po]) (rest := []) S hK hN hP hS hl 89 (by decide) (ceK89 _) rfl (c_X7_settle l D g hg x33 hI36 hE39 po (by omega)) (cwV 1 hts gX7_transmit_X7_settle rfl rfl rfl (by decide +kernel) ⟨Nat.le_of_ble_eq_true rfl, Nat.le_of_ble_eq_true rfl⟩) rfl rfl (Nat.le_of_ble_eq_true rfl) dX7_transmit_195 ⟨Nat.zero_le _, Nat.zero_le _⟩ (fun x41 H locs hq43 hP hS => ?_)
      obtain ⟨hI44, hT45, hE47, hf46⟩ := hq43
      have hT48 : Same (TM) x x41 := hT40.tr hT45 (fun _ _ h => h)
      refine lv_iload_n S.1 S.2.1 dX7_transmit_198 rfl (lv_at hl 2 rfl) ?_
      exact w_iret S hr0 hlk hP hS dX7_transmit_199 (⟨hI44, hT48, hE47, by omega, by omega, by omega⟩)
  have J127 : ∀ (n0 : Nat) (x_127 : St) (H : Heap) (locs : List Loc) (ls : Array Slot) (y127_2 : Int32) (y127_3 : Int32), Inv x_127 → Same (TM) x x_127 → Rel x_127 → (0 ≤ y127_3.toInt) → (y127_3.toInt ≤ 3) → ((x_127 89 33).toInt = 0) → (¬ ((x 107 (po.toInt.toNat)).toInt = 0 ∧ (x 100 (po.toInt.toNat)).toInt = 0 ∧ (x 102 (po.toInt.toNat)).toInt = 0)) → (0 ≤ po.toInt ∧ po.toInt ≤ 3) → (3 - y127_3.toInt).toNat < n0 → va_P D vwCl (WL g x_127) H → va_S (AQ g) s.heap H locs → lv_has ls 4 [(0, .ref (g.1 89)), (1, .int po), (2, .int y127_2), (3, .int y127_3)] → W p l e ({ frames := 3, cells := 0, slots := 0, locals := 71 } : Room) s m ([.ref (g.1 89), .int po] : List Value).toArray below meth co H locs 0 0 (MQ below (va_Qi (fun r x2 => Inv x2 ∧ Same TM x x2 ∧ Rel x2 ∧ (x2 89 33).toInt = 0 ∧ ((0 ≤ po.toInt ∧ po.toInt ≤ 3) → (x 107 (po.toInt.toNat)).toInt = 0 → (x 100 (po.toInt.toNat)).toInt = 0 → (x 102 (po.toInt.toNat)).toInt = 0 → r.toInt = -1) ∧ (¬ (0 ≤ po.toInt ∧ po.toInt ≤ 3) → r.toInt = -1)) (WO D g) (AQ g)) ([.ref (g.1 89), .int po] : List Value).toArray s 0 0 (AQ g)) (F0 m 127 ls []) := by
    intro n0
    induction n0 with
    | zero => intro x_127 H locs ls y127_2 y127_3 hI_127 hT_127 hE_127 hf127_0 hf127_1 hf127_2 hf127_3 hf127_4 hm_127 hP hS hl; exact absurd hm_127 (Nat.not_lt_zero _)
    | succ n0 ih127 =>
      intro x_127 H locs ls y127_2 y127_3 hI_127 hT_127 hE_127 hf127_0 hf127_1 hf127_2 hf127_3 hf127_4 hm_127 hP hS hl
      refine lv_iload_n S.1 S.2.1 dX7_transmit_127 rfl (lv_at hl 3 rfl) ?_
      refine lv_aload_n S.1 S.2.1 dX7_transmit_128 rfl (lv_at hl 0 rfl) ?_
      refine w_get (C := RX7) (T := TX7) (N := 34) S (fun _ h => List.mem_cons_of_mem _ (List.mem_append_right _ h)) hK hP 89 (by decide) (ceK89 _) rfl 23 (by decide) (hts _ (List.mem_of_getElem? (i := 7) rfl)) (v := .ref (g.1 112)) rfl dX7_transmit_129 ?_
      refine lv_iload_n S.1 S.2.1 dX7_transmit_132 rfl (lv_at hl 1 rfl) ?_
      refine w_iald S hK hP 112 (by decide) ceK112 (by omega) (by omega) dX7_transmit_133 (fun v49 ev49 => ?_)
      have wv49 : v49.toInt = (x_127 112 po.toInt.toNat).toInt := by rw [ev49]
      have rv49 : (0 : Int) ≤ v49.toInt ∧ v49.toInt ≤ (3 : Int) := by rw [ev49]; exact hI_127 112 _
      refine w_icmp_ge (tgt := 170) S dX7_transmit_134 (by decide) (fun hb50 => ?_) (fun hb50 => ?_)
      · exact J170 _ _ _ _ y127_2 hI_127 hT_127 hE_127 (by omega) (by omega) (by omega) hP hS (lv_sub hl [0, 1, 2] rfl)
      · refine lv_aload_n S.1 S.2.1 dX7_transmit_137 rfl (lv_at hl 0 rfl) ?_
        refine w_get (C := RX7) (T := TX7) (N := 34) S (fun _ h => List.mem_cons_of_mem _ (List.mem_append_right _ h)) hK hP 89 (by decide) (ceK89 _) rfl 27 (by decide) (hts _ (List.mem_of_getElem? (i := 8) rfl)) (v := .ref (g.1 116)) rfl dX7_transmit_138 ?_
        refine w_iconst S dX7_transmit_141 (by decide) (fun k51 hk51 => ?_)
        refine lv_iload_n S.1 S.2.1 dX7_transmit_142 rfl (lv_at hl 1 rfl) ?_
        refine w_imulk S dX7_transmit_143 3 hk51 (by omega) (by omega) (fun v52 hv52 => ?_)
        refine lv_iload_n S.1 S.2.1 dX7_transmit_144 rfl (lv_at hl 3 rfl) ?_
        refine w_iadd S dX7_transmit_145 (by omega) (by omega) (fun v53 hv53 => ?_)
        refine w_iald S hK hP 116 (by decide) ceK116 (by omega) (by omega) dX7_transmit_146 (fun v54 ev54 => ?_)
        have wv54 : v54.toInt = (x_127 116 v53.toInt.toNat).toInt := by rw [ev54]
        refine w_if_le (tgt := 164) S dX7_transmit_147 (by decide) (fun hb55 => ?_) (fun hb55 => ?_)
        · refine w_iinc (lv' := [(0, .ref (g.1 89)), (1, .int po), (2, .int y127_2)]) S dX7_transmit_164 hl (k := 3) rfl (by decide) (by decide) (by omega) (by omega) (fun _ => rfl) (fun v56 ls hv56 hl => ?_)
          refine lv_goto (tgt := 127) S.1 S.2.1 dX7_transmit_167 (by decide) ?_
          exact ih127 _ _ _ _ y127_2 v56 hI_127 hT_127 hE_127 (by omega) (by omega) (by omega) (by omega) (by omega) (by omega) hP hS (lv_sub hl [1, 2, 3, 0] rfl)
        · refine lv_aload_n S.1 S.2.1 dX7_transmit_150 rfl (lv_at hl 0 rfl) ?_
          refine w_get (C := RX7) (T := TX7) (N := 34) S (fun _ h => List.mem_cons_of_mem _ (List.mem_append_right _ h)) hK hP 89 (by decide) (ceK89 _) rfl 27 (by decide) (hts _ (List.mem_of_getElem? (i := 8) rfl)) (v := .ref (g.1 116)) rfl dX7_transmit_151 ?_
          refine w_iconst S dX7_transmit_154 (by decide) (fun k57 hk57 => ?_)
          refine lv_iload_n S.1 S.2.1 dX7_transmit_155 rfl (lv_at hl 1 rfl) ?_
          refine w_imulk S dX7_transmit_156 3 hk57 (by omega) (by omega) (fun v58 hv58 => ?_)
          refine lv_iload_n S.1 S.2.1 dX7_transmit_157 rfl (lv_at hl 3 rfl) ?_
          refine w_iadd S dX7_transmit_158 (by omega) (by omega) (fun v59 hv59 => ?_)
          refine lv_dup2_11 S.1 S.2.1 dX7_transmit_159 rfl rfl ?_
          refine w_iald S hK hP 116 (by decide) ceK116 (by omega) (by omega) dX7_transmit_160 (fun v60 ev60 => ?_)
          have wv60 : v60.toInt = (x_127 116 v59.toInt.toNat).toInt := by rw [ev60]
          refine w_iconst S dX7_transmit_161 (by decide) (fun k61 hk61 => ?_)
          refine lv_isub S.1 S.2.1 dX7_transmit_162 ?_
          refine w_any1 (fun v62 => ?_)
          refine w_iast S hK hg hP hS 116 (by decide) ceK116 (by omega) (by omega) dX7_transmit_163 (fun x63 H locs ex63 hP hS => ?_)
          have hI64 : Inv x63 := by rw [ex63]; exact hI_127.up (i_ge _) (i_le _)
          have hT65 : Same (TM) x x63 := by rw [ex63]; exact hT_127.up (by unfold TM TrM; omega)
          have hE66 : Rel x63 := by rw [ex63]; exact Rel.oth hE_127 (by decide) (by decide)
          have u67 : (x63 89 (33)).toInt = (x_127 89 (33)).toInt := by rw [ex63, up2_ne _ _ (by omega)]
          have u68 : (x63 100 (po.toInt.toNat)).toInt = (x_127 100 (po.toInt.toNat)).toInt := by rw [ex63, up2_ne _ _ (by omega)]
          have u69 : (x63 102 (po.toInt.toNat)).toInt = (x_127 102 (po.toInt.toNat)).toInt := by rw [ex63, up2_ne _ _ (by omega)]
          have u70 : (x63 107 (po.toInt.toNat)).toInt = (x_127 107 (po.toInt.toNat)).toInt := by rw [ex63, up2_ne _ _ (by omega)]
          refine w_iinc (lv' := [(0, .ref (g.1 89)), (1, .int po), (2, .int y127_2)]) S dX7_transmit_164 hl (k := 3) rfl (by decide) (by decide) (by omega) (by omega) (fun _ => rfl) (fun v71 ls hv71 hl => ?_)
          refine lv_goto (tgt := 127) S.1 S.2.1 dX7_transmit_167 (by decide) ?_
          exact ih127 _ _ _ _ y127_2 v71 hI64 hT65 hE66 (by omega) (by omega) (by omega) (by omega) (by omega) (by omega) hP hS (lv_sub hl [1, 2, 3, 0] rfl)
  have J85 : ∀ (n0 : Nat) (x_85 : St) (H : Heap) (locs : List Loc) (ls : Array Slot) (y85_2 : Int32) (y85_3 : Int32), Inv x_85 → Same (TM) x x_85 → Rel x_85 → (0 ≤ y85_3.toInt) → (y85_3.toInt ≤ 8) → ((x_85 102 (po.toInt.toNat)).toInt ≤ 7) → ((x_85 89 33).toInt = 0) → (¬ ((x 107 (po.toInt.toNat)).toInt = 0 ∧ (x 100 (po.toInt.toNat)).toInt = 0 ∧ (x 102 (po.toInt.toNat)).toInt = 0)) → (0 ≤ po.toInt ∧ po.toInt ≤ 3) → (8 - y85_3.toInt).toNat < n0 → va_P D vwCl (WL g x_85) H → va_S (AQ g) s.heap H locs → lv_has ls 4 [(0, .ref (g.1 89)), (1, .int po), (2, .int y85_2), (3, .int y85_3)] → W p l e ({ frames := 3, cells := 0, slots := 0, locals := 71 } : Room) s m ([.ref (g.1 89), .int po] : List Value).toArray below meth co H locs 0 0 (MQ below (va_Qi (fun r x2 => Inv x2 ∧ Same TM x x2 ∧ Rel x2 ∧ (x2 89 33).toInt = 0 ∧ ((0 ≤ po.toInt ∧ po.toInt ≤ 3) → (x 107 (po.toInt.toNat)).toInt = 0 → (x 100 (po.toInt.toNat)).toInt = 0 → (x 102 (po.toInt.toNat)).toInt = 0 → r.toInt = -1) ∧ (¬ (0 ≤ po.toInt ∧ po.toInt ≤ 3) → r.toInt = -1)) (WO D g) (AQ g)) ([.ref (g.1 89), .int po] : List Value).toArray s 0 0 (AQ g)) (F0 m 85 ls []) := by
    intro n0
    induction n0 with
    | zero => intro x_85 H locs ls y85_2 y85_3 hI_85 hT_85 hE_85 hf85_0 hf85_1 hf85_2 hf85_3 hf85_4 hf85_5 hm_85 hP hS hl; exact absurd hm_85 (Nat.not_lt_zero _)
    | succ n0 ih85 =>
      intro x_85 H locs ls y85_2 y85_3 hI_85 hT_85 hE_85 hf85_0 hf85_1 hf85_2 hf85_3 hf85_4 hf85_5 hm_85 hP hS hl
      refine lv_iload_n S.1 S.2.1 dX7_transmit_85 rfl (lv_at hl 3 rfl) ?_
      refine lv_aload_n S.1 S.2.1 dX7_transmit_86 rfl (lv_at hl 0 rfl) ?_
      refine w_get (C := RX7) (T := TX7) (N := 34) S (fun _ h => List.mem_cons_of_mem _ (List.mem_append_right _ h)) hK hP 89 (by decide) (ceK89 _) rfl 13 (by decide) (hts _ (List.mem_of_getElem? (i := 5) rfl)) (v := .ref (g.1 102)) rfl dX7_transmit_87 ?_
      refine lv_iload_n S.1 S.2.1 dX7_transmit_90 rfl (lv_at hl 1 rfl) ?_
      refine w_iald S hK hP 102 (by decide) ceK102 (by omega) (by omega) dX7_transmit_91 (fun v72 ev72 => ?_)
      have wv72 : v72.toInt = (x_85 102 po.toInt.toNat).toInt := by rw [ev72]
      have rv72 : (0 : Int) ≤ v72.toInt ∧ v72.toInt ≤ (8 : Int) := by rw [ev72]; exact hI_85 102 _
      refine w_icmp_ge (tgt := 125) S dX7_transmit_92 (by decide) (fun hb73 => ?_) (fun hb73 => ?_)
      · refine w_iconst S dX7_transmit_125 (by decide) (fun k74 hk74 => ?_)
        refine lv_istore_n (lv' := [(3, .int k74), (0, .ref (g.1 89)), (1, .int po), (2, .int y85_2)]) S.1 S.2.1 dX7_transmit_126 rfl hl (by decide) rfl (fun ls hl => ?_)
        exact J127 _ _ _ _ _ y85_2 k74 hI_85 hT_85 hE_85 (by omega) (by omega) (by omega) (by omega) (by omega) (Nat.lt_succ_self _) hP hS (lv_sub hl [1, 2, 3, 0] rfl)
      · refine lv_aload_n S.1 S.2.1 dX7_transmit_95 rfl (lv_at hl 0 rfl) ?_
        refine w_get (C := RX7) (T := TX7) (N := 34) S (fun _ h => List.mem_cons_of_mem _ (List.mem_append_right _ h)) hK hP 89 (by decide) (ceK89 _) rfl 12 (by decide) (hts _ (List.mem_of_getElem? (i := 6) rfl)) (v := .ref (g.1 101)) rfl dX7_transmit_96 ?_
        refine w_bipush S dX7_transmit_99 (by decide) (fun k75 hk75 => ?_)
        refine lv_iload_n S.1 S.2.1 dX7_transmit_101 rfl (lv_at hl 1 rfl) ?_
        refine w_imulk S dX7_transmit_102 8 hk75 (by omega) (by omega) (fun v76 hv76 => ?_)
        refine lv_iload_n S.1 S.2.1 dX7_transmit_103 rfl (lv_at hl 3 rfl) ?_
        refine w_iadd S dX7_transmit_104 (by omega) (by omega) (fun v77 hv77 => ?_)
        refine lv_aload_n S.1 S.2.1 dX7_transmit_105 rfl (lv_at hl 0 rfl) ?_
        refine w_get (C := RX7) (T := TX7) (N := 34) S (fun _ h => List.mem_cons_of_mem _ (List.mem_append_right _ h)) hK hP 89 (by decide) (ceK89 _) rfl 12 (by decide) (hts _ (List.mem_of_getElem? (i := 6) rfl)) (v := .ref (g.1 101)) rfl dX7_transmit_106 ?_
        refine w_bipush S dX7_transmit_109 (by decide) (fun k78 hk78 => ?_)
        refine lv_iload_n S.1 S.2.1 dX7_transmit_111 rfl (lv_at hl 1 rfl) ?_
        refine w_imulk S dX7_transmit_112 8 hk78 (by omega) (by omega) (fun v79 hv79 => ?_)
        refine lv_iload_n S.1 S.2.1 dX7_transmit_113 rfl (lv_at hl 3 rfl) ?_
        refine w_iadd S dX7_transmit_114 (by omega) (by omega) (fun v80 hv80 => ?_)
        refine w_iconst S dX7_transmit_115 (by decide) (fun k81 hk81 => ?_)
        refine w_iadd S dX7_transmit_116 (by omega) (by omega) (fun v82 hv82 => ?_)
        refine w_iald S hK hP 101 (by decide) ceK101 (by omega) (by omega) dX7_transmit_117 (fun v83 ev83 => ?_)
        have wv83 : v83.toInt = (x_85 101 v82.toInt.toNat).toInt := by rw [ev83]
        refine w_iast S hK hg hP hS 101 (by decide) ceK101 (by omega) (by omega) dX7_transmit_118 (fun x84 H locs ex84 hP hS => ?_)
        have hI85 : Inv x84 := by rw [ex84]; exact hI_85.up (i_ge _) (i_le _)
        have hT86 : Same (TM) x x84 := by rw [ex84]; exact hT_85.up (by unfold TM TrM; omega)
        have hE87 : Rel x84 := by rw [ex84]; exact Rel.oth hE_85 (by decide) (by decide)
        have u88 : (x84 89 (33)).toInt = (x_85 89 (33)).toInt := by rw [ex84, up2_ne _ _ (by omega)]
        have u89 : (x84 100 (po.toInt.toNat)).toInt = (x_85 100 (po.toInt.toNat)).toInt := by rw [ex84, up2_ne _ _ (by omega)]
        have u90 : (x84 102 (po.toInt.toNat)).toInt = (x_85 102 (po.toInt.toNat)).toInt := by rw [ex84, up2_ne _ _ (by omega)]
        have u91 : (x84 107 (po.toInt.toNat)).toInt = (x_85 107 (po.toInt.toNat)).toInt := by rw [ex84, up2_ne _ _ (by omega)]
        refine w_iinc (lv' := [(0, .ref (g.1 89)), (1, .int po), (2, .int y85_2)]) S dX7_transmit_119 hl (k := 3) rfl (by decide) (by decide) (by omega) (by omega) (fun _ => rfl) (fun v92 ls hv92 hl => ?_)
        refine lv_goto (tgt := 85) S.1 S.2.1 dX7_transmit_122 (by decide) ?_
        exact ih85 _ _ _ _ y85_2 v92 hI85 hT86 hE87 (by omega) (by omega) (by omega) (by omega) (by omega) (by omega) (by omega) hP hS (lv_sub hl [1, 2, 3, 0] rfl)
  refine lv_aload_n S.1 S.2.1 dX7_transmit_0 rfl (lv_at hl 0 rfl) ?_
  refine w_iconst S dX7_transmit_1 (by decide) (fun k93 hk93 => ?_)
  refine w_put (C := RX7) (T := TX7) (N := 34) (F := FMod g) S (fun _ h => List.mem_cons_of_mem _ (List.mem_append_right _ h)) tyX7_ok nmX7 hK hg hP hS 89 (by decide) ceK89 rfl 0 (by decide) (hts _ (List.mem_of_getElem? (i := 1) rfl)) rfl rfl rfl (fun _ => Nat.le_of_ble_eq_true rfl) (fun _ => rfl) dX7_transmit_2 (fun x94 H locs ex94 hP hS => ?_)
  have hI95 : Inv x94 := by rw [ex94]; exact hI.up (i_ge _) (i_le _)
  have hT96 : Same (TM) x x94 := by rw [ex94]; exact hT.up (by unfold TM TrM; omega)
  have hE97 : Rel x94 := by rw [ex94]; exact Rel.oth hE (by decide) (by decide)
  have u98 : (x94 89 (33)).toInt = (x 89 (33)).toInt := by rw [ex94, up2_ne _ _ (by omega)]
  have u99 : (x94 100 (po.toInt.toNat)).toInt = (x 100 (po.toInt.toNat)).toInt := by rw [ex94, up2_ne _ _ (by omega)]
  have u100 : (x94 102 (po.toInt.toNat)).toInt = (x 102 (po.toInt.toNat)).toInt := by rw [ex94, up2_ne _ _ (by omega)]
  have u101 : (x94 107 (po.toInt.toNat)).toInt = (x 107 (po.toInt.toNat)).toInt := by rw [ex94, up2_ne _ _ (by omega)]
  refine lv_iload_n S.1 S.2.1 dX7_transmit_5 rfl (lv_at hl 1 rfl) ?_
  refine w_cSi (As := [.int po]) (rest := []) S hK hN hP hS hl (c_X7_isPort l D g hg x94 hI95 po) (va_cwS 1 hts gX7_transmit_X7_isPort rfl rfl rfl (by decide +kernel) ⟨Nat.le_of_ble_eq_true rfl, Nat.le_of_ble_eq_true rfl⟩) rfl rfl (Nat.le_of_ble_eq_true rfl) dX7_transmit_6 ⟨Nat.zero_le _, Nat.zero_le _⟩ (fun r103 x102 H locs hq104 hP hS => ?_)
  obtain ⟨ex105, hf106⟩ := hq104
  rw [ex105] at hP
  refine w_if_ne (tgt := 14) S dX7_transmit_9 (by decide) (fun hb107 => ?_) (fun hb107 => ?_)
  · refine lv_aload_n S.1 S.2.1 dX7_transmit_14 rfl (lv_at hl 0 rfl) ?_
    refine lv_iload_n S.1 S.2.1 dX7_transmit_15 rfl (lv_at hl 1 rfl) ?_
    refine w_cVv (As := [.int po]) (rest := []) S hK hN hP hS hl 89 (by decide) (ceK89 _) rfl (c_X7_push l D g hg x94 hI95 hE97 po (by omega)) (cwV 1 hts gX7_transmit_X7_push rfl rfl rfl (by decide +kernel) ⟨Nat.le_of_ble_eq_true rfl, Nat.le_of_ble_eq_true rfl⟩) rfl rfl (Nat.le_of_ble_eq_true rfl) dX7_transmit_16 ⟨Nat.zero_le _, Nat.zero_le _⟩ (fun x108 H locs hq110 hP hS => ?_)
    obtain ⟨hI111, hT112, hE114, hf113⟩ := hq110
    have hT115 : Same (TM) x x108 := hT96.tr hT112 (fun _ _ h => h)
    have hc1 : (x94 100 (po.toInt.toNat)).toInt = 0 → (x108 102 (po.toInt.toNat)).toInt = (x94 102 (po.toInt.toNat)).toInt := fun h => by rw [hf113.2 h]
    have hc2 : (x94 100 (po.toInt.toNat)).toInt = 0 → (x108 107 (po.toInt.toNat)).toInt = (x94 107 (po.toInt.toNat)).toInt := fun h => by rw [hf113.2 h]
    have hc3 := hf113.1
    refine lv_aload_n S.1 S.2.1 dX7_transmit_19 rfl (lv_at hl 0 rfl) ?_
    refine lv_iload_n S.1 S.2.1 dX7_transmit_20 rfl (lv_at hl 1 rfl) ?_
    refine w_cVi (As := [.int po]) (rest := []) S hK hN hP hS hl 89 (by decide) (ceK89 _) rfl (c_X7_flowByte l D g hg x108 hI111 po (by omega)) (cwV 1 hts gX7_transmit_X7_flowByte rfl rfl rfl (by decide +kernel) ⟨Nat.le_of_ble_eq_true rfl, Nat.le_of_ble_eq_true rfl⟩) rfl rfl (Nat.le_of_ble_eq_true rfl) dX7_transmit_21 ⟨Nat.zero_le _, Nat.zero_le _⟩ (fun r117 x116 H locs hq118 hP hS => ?_)
    obtain ⟨ex119, hf120⟩ := hq118
    rw [ex119] at hP
    refine lv_istore_n (lv' := [(2, .int r117), (0, .ref (g.1 89)), (1, .int po)]) S.1 S.2.1 dX7_transmit_24 rfl hl (by decide) rfl (fun ls hl => ?_)
    refine lv_aload_n S.1 S.2.1 dX7_transmit_25 rfl (lv_at hl 1 rfl) ?_
    refine w_get (C := RX7) (T := TX7) (N := 34) S (fun _ h => List.mem_cons_of_mem _ (List.mem_append_right _ h)) hK hP 89 (by decide) (ceK89 _) rfl 18 (by decide) (hts _ (List.mem_of_getElem? (i := 2) rfl)) (v := .ref (g.1 107)) rfl dX7_transmit_26 ?_
    refine lv_iload_n S.1 S.2.1 dX7_transmit_29 rfl (lv_at hl 2 rfl) ?_
    refine w_iconst S dX7_transmit_30 (by decide) (fun k121 hk121 => ?_)
    refine w_iast S hK hg hP hS 107 (by decide) ceK107 (by omega) (by omega) dX7_transmit_31 (fun x122 H locs ex122 hP hS => ?_)
    have hI123 : Inv x122 := by rw [ex122]; exact hI111.up (i_ge _) (i_le _)
    have hT124 : Same (TM) x x122 := by rw [ex122]; exact hT115.up (by unfold TM TrM; omega)
    have hE125 : Rel x122 := by rw [ex122]; exact Rel.oth hE114 (by decide) (by decide)
    have u126 : (x122 89 (33)).toInt = (x108 89 (33)).toInt := by rw [ex122, up2_ne _ _ (by omega)]
    have u127 : (x122 100 (po.toInt.toNat)).toInt = (x108 100 (po.toInt.toNat)).toInt := by rw [ex122, up2_ne _ _ (by omega)]
    have u128 : (x122 102 (po.toInt.toNat)).toInt = (x108 102 (po.toInt.toNat)).toInt := by rw [ex122, up2_ne _ _ (by omega)]
    have u129 : (x122 107 (po.toInt.toNat)).toInt = k121.toInt := by rw [ex122, up2_at]
    refine lv_iload_n S.1 S.2.1 dX7_transmit_32 rfl (lv_at hl 0 rfl) ?_
    refine w_if_ge (tgt := 170) S dX7_transmit_33 (by decide) (fun hb130 => ?_) (fun hb130 => ?_)
    · exact J170 _ _ _ _ r117 hI123 hT124 hE125 (by omega) (by omega) (by omega) hP hS (lv_sub hl [1, 2, 0] rfl)
    · refine lv_aload_n S.1 S.2.1 dX7_transmit_36 rfl (lv_at hl 1 rfl) ?_
      refine w_get (C := RX7) (T := TX7) (N := 34) S (fun _ h => List.mem_cons_of_mem _ (List.mem_append_right _ h)) hK hP 89 (by decide) (ceK89 _) rfl 14 (by decide) (hts _ (List.mem_of_getElem? (i := 3) rfl)) (v := .ref (g.1 103)) rfl dX7_transmit_37 ?_
      refine lv_iload_n S.1 S.2.1 dX7_transmit_40 rfl (lv_at hl 2 rfl) ?_
      refine w_zald S hK hP 103 (by decide) ceK103 (by omega) (by omega) dX7_transmit_41 (fun v131 ev131 => ?_)
      have wv131 : v131.toInt = (x122 103 po.toInt.toNat).toInt := by rw [ev131]
      have rv131 : (0 : Int) ≤ v131.toInt ∧ v131.toInt ≤ (1 : Int) := by rw [ev131]; exact hI123 103 _
      refine w_if_ne (tgt := 170) S dX7_transmit_42 (by decide) (fun hb132 => ?_) (fun hb132 => ?_)
      · exact J170 _ _ _ _ r117 hI123 hT124 hE125 (by omega) (by omega) (by omega) hP hS (lv_sub hl [1, 2, 0] rfl)
      · refine lv_aload_n S.1 S.2.1 dX7_transmit_45 rfl (lv_at hl 1 rfl) ?_
        refine w_get (C := RX7) (T := TX7) (N := 34) S (fun _ h => List.mem_cons_of_mem _ (List.mem_append_right _ h)) hK hP 89 (by decide) (ceK89 _) rfl 20 (by decide) (hts _ (List.mem_of_getElem? (i := 4) rfl)) (v := .ref (g.1 109)) rfl dX7_transmit_46 ?_
        refine lv_iload_n S.1 S.2.1 dX7_transmit_49 rfl (lv_at hl 2 rfl) ?_
        refine w_zald S hK hP 109 (by decide) ceK109 (by omega) (by omega) dX7_transmit_50 (fun v133 ev133 => ?_)
        have wv133 : v133.toInt = (x122 109 po.toInt.toNat).toInt := by rw [ev133]
        have rv133 : (0 : Int) ≤ v133.toInt ∧ v133.toInt ≤ (1 : Int) := by rw [ev133]; exact hI123 109 _
        refine w_if_eq (tgt := 170) S dX7_transmit_51 (by decide) (fun hb134 => ?_) (fun hb134 => ?_)
        · exact J170 _ _ _ _ r117 hI123 hT124 hE125 (by omega) (by omega) (by omega) hP hS (lv_sub hl [1, 2, 0] rfl)
        · refine lv_aload_n S.1 S.2.1 dX7_transmit_54 rfl (lv_at hl 1 rfl) ?_
          refine w_get (C := RX7) (T := TX7) (N := 34) S (fun _ h => List.mem_cons_of_mem _ (List.mem_append_right _ h)) hK hP 89 (by decide) (ceK89 _) rfl 13 (by decide) (hts _ (List.mem_of_getElem? (i := 5) rfl)) (v := .ref (g.1 102)) rfl dX7_transmit_55 ?_
          refine lv_iload_n S.1 S.2.1 dX7_transmit_58 rfl (lv_at hl 2 rfl) ?_
          refine w_iald S hK hP 102 (by decide) ceK102 (by omega) (by omega) dX7_transmit_59 (fun v135 ev135 => ?_)
          have wv135 : v135.toInt = (x122 102 po.toInt.toNat).toInt := by rw [ev135]
          have rv135 : (0 : Int) ≤ v135.toInt ∧ v135.toInt ≤ (8 : Int) := by rw [ev135]; exact hI123 102 _
          refine w_if_le (tgt := 170) S dX7_transmit_60 (by decide) (fun hb136 => ?_) (fun hb136 => ?_)
          · exact J170 _ _ _ _ r117 hI123 hT124 hE125 (by omega) (by omega) (by omega) hP hS (lv_sub hl [1, 2, 0] rfl)
          · refine lv_aload_n S.1 S.2.1 dX7_transmit_63 rfl (lv_at hl 1 rfl) ?_
            refine w_get (C := RX7) (T := TX7) (N := 34) S (fun _ h => List.mem_cons_of_mem _ (List.mem_append_right _ h)) hK hP 89 (by decide) (ceK89 _) rfl 12 (by decide) (hts _ (List.mem_of_getElem? (i := 6) rfl)) (v := .ref (g.1 101)) rfl dX7_transmit_64 ?_
            refine w_bipush S dX7_transmit_67 (by decide) (fun k137 hk137 => ?_)
            refine lv_iload_n S.1 S.2.1 dX7_transmit_69 rfl (lv_at hl 2 rfl) ?_
            refine w_imulk S dX7_transmit_70 8 hk137 (by omega) (by omega) (fun v138 hv138 => ?_)
            refine w_iald S hK hP 101 (by decide) ceK101 (by omega) (by omega) dX7_transmit_71 (fun v139 ev139 => ?_)
            have wv139 : v139.toInt = (x122 101 v138.toInt.toNat).toInt := by rw [ev139]
            refine lv_istore_n (lv' := [(2, .int v139), (0, .ref (g.1 89)), (1, .int po)]) S.1 S.2.1 dX7_transmit_72 rfl hl (by decide) rfl (fun ls hl => ?_)
            refine lv_aload_n S.1 S.2.1 dX7_transmit_73 rfl (lv_at hl 1 rfl) ?_
            refine w_get (C := RX7) (T := TX7) (N := 34) S (fun _ h => List.mem_cons_of_mem _ (List.mem_append_right _ h)) hK hP 89 (by decide) (ceK89 _) rfl 13 (by decide) (hts _ (List.mem_of_getElem? (i := 5) rfl)) (v := .ref (g.1 102)) rfl dX7_transmit_74 ?_
            refine lv_iload_n S.1 S.2.1 dX7_transmit_77 rfl (lv_at hl 2 rfl) ?_
            refine lv_dup2_11 S.1 S.2.1 dX7_transmit_78 rfl rfl ?_
            refine w_iald S hK hP 102 (by decide) ceK102 (by omega) (by omega) dX7_transmit_79 (fun v140 ev140 => ?_)
            have wv140 : v140.toInt = (x122 102 po.toInt.toNat).toInt := by rw [ev140]
            have rv140 : (0 : Int) ≤ v140.toInt ∧ v140.toInt ≤ (8 : Int) := by rw [ev140]; exact hI123 102 _
            refine w_iconst S dX7_transmit_80 (by decide) (fun k141 hk141 => ?_)
            refine w_isub S dX7_transmit_81 (by omega) (by omega) (fun v142 hv142 => ?_)
            refine w_iast S hK hg hP hS 102 (by decide) ceK102 (by omega) (by omega) dX7_transmit_82 (fun x143 H locs ex143 hP hS => ?_)
            have hI144 : Inv x143 := by rw [ex143]; exact hI123.up (show (0 : Int) ≤ _ by omega) (show _ ≤ (8 : Int) by omega)
            have hT145 : Same (TM) x x143 := by rw [ex143]; exact hT124.up (by unfold TM TrM; omega)
            have hE146 : Rel x143 := by rw [ex143]; exact Rel.oth hE125 (by decide) (by decide)
            have u147 : (x143 89 (33)).toInt = (x122 89 (33)).toInt := by rw [ex143, up2_ne _ _ (by omega)]
            have u148 : (x143 100 (po.toInt.toNat)).toInt = (x122 100 (po.toInt.toNat)).toInt := by rw [ex143, up2_ne _ _ (by omega)]
            have u149 : (x143 102 (po.toInt.toNat)).toInt = v142.toInt := by rw [ex143, up2_at]
            have u150 : (x143 107 (po.toInt.toNat)).toInt = (x122 107 (po.toInt.toNat)).toInt := by rw [ex143, up2_ne _ _ (by omega)]
            refine w_iconst S dX7_transmit_83 (by decide) (fun k151 hk151 => ?_)
            refine lv_istore_n (lv' := [(3, .int k151), (2, .int v139), (0, .ref (g.1 89)), (1, .int po)]) S.1 S.2.1 dX7_transmit_84 rfl hl (by decide) rfl (fun ls hl => ?_)
            exact J85 _ _ _ _ _ v139 k151 hI144 hT145 hE146 (by omega) (by omega) (by omega) (by omega) (by omega) (by omega) (Nat.lt_succ_self _) hP hS (lv_sub hl [2, 3, 1, 0] rfl)
  · refine w_iconst S dX7_transmit_12 (by decide) (fun k152 hk152 => ?_)
    exact w_iret S hr0 hlk hP hS dX7_transmit_13 (⟨hI95, hT96, hE97, by omega, by omega, by omega⟩)
set_option maxRecDepth 100000 in
set_option maxHeartbeats 4000000 in
theorem c_X7_held (l : Launch) (D : va_G) (g : GA) (hg : Inj g) (x : St) (hI : Inv x) (hE : Rel x) (po : Int32) (hy0 : (x 89 33).toInt = 0) : Met l yX7_held wsX7_held ({ frames := 2, cells := 0, slots := 0, locals := 44 } : Room) (va_Pc [.ref (g.1 89), .int po] (WI D g x)) (va_Qi (fun r x2 => Inv x2 ∧ Same TM x x2 ∧ Rel x2 ∧ (x2 89 33).toInt = 0 ∧ ((0 ≤ po.toInt ∧ po.toInt ≤ 3) → (x 107 (po.toInt.toNat)).toInt = 0 → (x 100 (po.toInt.toNat)).toInt = 0 → (x 102 (po.toInt.toNat)).toInt = 0 → r.toInt = 1) ∧ (¬ (0 ≤ po.toInt ∧ po.toInt ≤ 3) → r.toInt = -1)) (WO D g) (AQ g)) 0 0 (AQ g) := by
  refine w_met (cc := cX7_held) (maxL := 2) (ret := (some .int)) (own := RX7) (by decide) rfl rfl (Nat.le_of_ble_eq_true rfl) (fun p e s m below meth co S hr0 hlk hK hN hP hS ls hl => ?_)
  have hts := S.2.2.2.2
  have hl : lv_has ls 2 [(0, .ref (g.1 89)), (1, .int po)] := hl
  have hT : Same (TM) x x := Same.rf
  refine lv_aload_n S.1 S.2.1 dX7_held_0 rfl (lv_at hl 0 rfl) ?_
  refine w_iconst S dX7_held_1 (by decide) (fun k1 hk1 => ?_)
  refine w_put (C := RX7) (T := TX7) (N := 34) (F := FMod g) S (fun _ h => List.mem_cons_of_mem _ (List.mem_append_right _ h)) tyX7_ok nmX7 hK hg hP hS 89 (by decide) ceK89 rfl 0 (by decide) (hts _ (List.mem_of_getElem? (i := 1) rfl)) rfl rfl rfl (fun _ => Nat.le_of_ble_eq_true rfl) (fun _ => rfl) dX7_held_2 (fun x2 H locs ex2 hP hS => ?_)
  have hI3 : Inv x2 := by rw [ex2]; exact hI.up (i_ge _) (i_le _)
  have hT4 : Same (TM) x x2 := by rw [ex2]; exact hT.up (by unfold TM TrM; omega)
  have hE5 : Rel x2 := by rw [ex2]; exact Rel.oth hE (by decide) (by decide)
  have u6 : (x2 89 (33)).toInt = (x 89 (33)).toInt := by rw [ex2, up2_ne _ _ (by omega)]
  have u7 : (x2 100 (po.toInt.toNat)).toInt = (x 100 (po.toInt.toNat)).toInt := by rw [ex2, up2_ne _ _ (by omega)]
  have u8 : (x2 102 (po.toInt.toNat)).toInt = (x 102 (po.toInt.toNat)).toInt := by rw [ex2, up2_ne _ _ (by omega)]
  have u9 : (x2 107 (po.toInt.toNat)).toInt = (x 107 (po.toInt.toNat)).toInt := by rw [ex2, up2_ne _ _ (by omega)]
  refine lv_iload_n S.1 S.2.1 dX7_held_5 rfl (lv_at hl 1 rfl) ?_
  refine w_cSi (As := [.int po]) (rest := []) S hK hN hP hS hl (c_X7_isPort l D g hg x2 hI3 po) (va_cwS 1 hts gX7_held_X7_isPort rfl rfl rfl (by decide +kernel) ⟨Nat.le_of_ble_eq_true rfl, Nat.le_of_ble_eq_true rfl⟩) rfl rfl (Nat.le_of_ble_eq_true rfl) dX7_held_6 ⟨Nat.zero_le _, Nat.zero_le _⟩ (fun r11 x10 H locs hq12 hP hS => ?_)
  obtain ⟨ex13, hf14⟩ := hq12
  rw [ex13] at hP
  refine w_if_ne (tgt := 14) S dX7_held_9 (by decide) (fun hb15 => ?_) (fun hb15 => ?_)
  · refine lv_aload_n S.1 S.2.1 dX7_held_14 rfl (lv_at hl 0 rfl) ?_
    refine lv_iload_n S.1 S.2.1 dX7_held_15 rfl (lv_at hl 1 rfl) ?_
    refine w_cVi (As := [.int po]) (rest := []) S hK hN hP hS hl 89 (by decide) (ceK89 _) rfl (c_X7_flowByte l D g hg x2 hI3 po (by omega)) (cwV 1 hts gX7_held_X7_flowByte rfl rfl rfl (by decide +kernel) ⟨Nat.le_of_ble_eq_true rfl, Nat.le_of_ble_eq_true rfl⟩) rfl rfl (Nat.le_of_ble_eq_true rfl) dX7_held_16 ⟨Nat.zero_le _, Nat.zero_le _⟩ (fun r17 x16 H locs hq18 hP hS => ?_)
    obtain ⟨ex19, hf20⟩ := hq18
    rw [ex19] at hP
    refine w_if_lt (tgt := 24) S dX7_held_19 (by decide) (fun hb21 => ?_) (fun hb21 => ?_)
    · refine lv_aload_n S.1 S.2.1 dX7_held_24 rfl (lv_at hl 0 rfl) ?_
      refine w_get (C := RX7) (T := TX7) (N := 34) S (fun _ h => List.mem_cons_of_mem _ (List.mem_append_right _ h)) hK hP 89 (by decide) (ceK89 _) rfl 11 (by decide) (hts _ (List.mem_of_getElem? (i := 2) rfl)) (v := .ref (g.1 100)) rfl dX7_held_25 ?_
      refine lv_iload_n S.1 S.2.1 dX7_held_28 rfl (lv_at hl 1 rfl) ?_
      refine w_iald S hK hP 100 (by decide) ceK100 (by omega) (by omega) dX7_held_29 (fun v22 ev22 => ?_)
      have wv22 : v22.toInt = (x2 100 po.toInt.toNat).toInt := by rw [ev22]
      have rv22 : (0 : Int) ≤ v22.toInt ∧ v22.toInt ≤ (64 : Int) := by rw [ev22]; exact hI3 100 _
      refine lv_aload_n S.1 S.2.1 dX7_held_30 rfl (lv_at hl 0 rfl) ?_
      refine w_get (C := RX7) (T := TX7) (N := 34) S (fun _ h => List.mem_cons_of_mem _ (List.mem_append_right _ h)) hK hP 89 (by decide) (ceK89 _) rfl 13 (by decide) (hts _ (List.mem_of_getElem? (i := 3) rfl)) (v := .ref (g.1 102)) rfl dX7_held_31 ?_
      refine lv_iload_n S.1 S.2.1 dX7_held_34 rfl (lv_at hl 1 rfl) ?_
      refine w_iald S hK hP 102 (by decide) ceK102 (by omega) (by omega) dX7_held_35 (fun v23 ev23 => ?_)
      have wv23 : v23.toInt = (x2 102 po.toInt.toNat).toInt := by rw [ev23]
      have rv23 : (0 : Int) ≤ v23.toInt ∧ v23.toInt ≤ (8 : Int) := by rw [ev23]; exact hI3 102 _
      refine w_iadd S dX7_held_36 (by omega) (by omega) (fun v24 hv24 => ?_)
      refine w_if_ne (tgt := 42) S dX7_held_37 (by decide) (fun hb25 => ?_) (fun hb25 => ?_)
      · refine lv_aload_n S.1 S.2.1 dX7_held_42 rfl (lv_at hl 0 rfl) ?_
        refine w_get (C := RX7) (T := TX7) (N := 34) S (fun _ h => List.mem_cons_of_mem _ (List.mem_append_right _ h)) hK hP 89 (by decide) (ceK89 _) rfl 14 (by decide) (hts _ (List.mem_of_getElem? (i := 4) rfl)) (v := .ref (g.1 103)) rfl dX7_held_43 ?_
        refine lv_iload_n S.1 S.2.1 dX7_held_46 rfl (lv_at hl 1 rfl) ?_
        refine w_zald S hK hP 103 (by decide) ceK103 (by omega) (by omega) dX7_held_47 (fun v26 ev26 => ?_)
        have wv26 : v26.toInt = (x2 103 po.toInt.toNat).toInt := by rw [ev26]
        have rv26 : (0 : Int) ≤ v26.toInt ∧ v26.toInt ≤ (1 : Int) := by rw [ev26]; exact hI3 103 _
        refine w_if_eq (tgt := 53) S dX7_held_48 (by decide) (fun hb27 => ?_) (fun hb27 => ?_)
        · refine lv_aload_n S.1 S.2.1 dX7_held_53 rfl (lv_at hl 0 rfl) ?_
          refine w_get (C := RX7) (T := TX7) (N := 34) S (fun _ h => List.mem_cons_of_mem _ (List.mem_append_right _ h)) hK hP 89 (by decide) (ceK89 _) rfl 20 (by decide) (hts _ (List.mem_of_getElem? (i := 5) rfl)) (v := .ref (g.1 109)) rfl dX7_held_54 ?_
          refine lv_iload_n S.1 S.2.1 dX7_held_57 rfl (lv_at hl 1 rfl) ?_
          refine w_zald S hK hP 109 (by decide) ceK109 (by omega) (by omega) dX7_held_58 (fun v28 ev28 => ?_)
          have wv28 : v28.toInt = (x2 109 po.toInt.toNat).toInt := by rw [ev28]
          have rv28 : (0 : Int) ≤ v28.toInt ∧ v28.toInt ≤ (1 : Int) := by rw [ev28]; exact hI3 109 _
          refine w_if_ne (tgt := 64) S dX7_held_59 (by decide) (fun hb29 => ?_) (fun hb29 => ?_)
          · refine w_iconst S dX7_held_64 (by decide) (fun k30 hk30 => ?_)
            exact w_iret S hr0 hlk hP hS dX7_held_65 (⟨hI3, hT4, hE5, by omega, by omega, by omega⟩)
          · refine w_iconst S dX7_held_62 (by decide) (fun k31 hk31 => ?_)
            exact w_iret S hr0 hlk hP hS dX7_held_63 (⟨hI3, hT4, hE5, by omega, by omega, by omega⟩)
        · refine w_iconst S dX7_held_51 (by decide) (fun k32 hk32 => ?_)
          exact w_iret S hr0 hlk hP hS dX7_held_52 (⟨hI3, hT4, hE5, by omega, by omega, by omega⟩)
      · refine w_iconst S dX7_held_40 (by decide) (fun k33 hk33 => ?_)
        exact w_iret S hr0 hlk hP hS dX7_held_41 (⟨hI3, hT4, hE5, by omega, by omega, by omega⟩)
    · refine w_iconst S dX7_held_22 (by decide) (fun k34 hk34 => ?_)
      exact w_iret S hr0 hlk hP hS dX7_held_23 (⟨hI3, hT4, hE5, by omega, by omega, by omega⟩)
  · refine w_iconst S dX7_held_12 (by decide) (fun k35 hk35 => ?_)
    exact w_iret S hr0 hlk hP hS dX7_held_13 (⟨hI3, hT4, hE5, by omega, by omega, by omega⟩)
set_option maxRecDepth 100000 in
set_option maxHeartbeats 4000000 in
theorem c_X7_carrier (l : Launch) (D : va_G) (g : GA) (hg : Inj g) (x : St) (hI : Inv x) (hE : Rel x) (po : Int32) (on : Int32) (hy0 : (x 89 33).toInt = 0) (hy1 : 0 ≤ on.toInt ∧ on.toInt ≤ 1) : Met l yX7_carrier wsX7_carrier ({ frames := 4, cells := 0, slots := 0, locals := 93 } : Room) (va_Pc [.ref (g.1 89), .int po, .int on] (WI D g x)) (va_Qi (fun r x2 => Inv x2 ∧ Same (TMc po.toInt.toNat) x x2 ∧ Rel x2 ∧ (x2 89 33).toInt = 0 ∧ ((0 ≤ po.toInt ∧ po.toInt ≤ 3) → r.toInt = 1 ∧ (x2 108 (po.toInt.toNat)).toInt = on.toInt ∧ (x2 110 (po.toInt.toNat)).toInt = if (x 108 (po.toInt.toNat)).toInt ≠ 0 ∧ on.toInt = 0 then 1 else (x 110 (po.toInt.toNat)).toInt) ∧ (¬ (0 ≤ po.toInt ∧ po.toInt ≤ 3) → r.toInt = 0 ∧ Same TM x x2)) (WO D g) (AQ g)) 0 0 (AQ g) := by
  refine w_met (cc := cX7_carrier) (maxL := 4) (ret := (some .boolean)) (own := RX7) (by decide) rfl rfl (Nat.le_of_ble_eq_true rfl) (fun p e s m below meth co S hr0 hlk hK hN hP hS ls hl => ?_)
  have hts := S.2.2.2.2
  have hl : lv_has ls 4 [(0, .ref (g.1 89)), (1, .int po), (2, .int on)] := hl
  have hT : Same (TMc po.toInt.toNat) x x := Same.rf
  refine lv_aload_n S.1 S.2.1 dX7_carrier_0 rfl (lv_at hl 0 rfl) ?_
  refine w_iconst S dX7_carrier_1 (by decide) (fun k1 hk1 => ?_)
  refine w_put (C := RX7) (T := TX7) (N := 34) (F := FMod g) S (fun _ h => List.mem_cons_of_mem _ (List.mem_append_right _ h)) tyX7_ok nmX7 hK hg hP hS 89 (by decide) ceK89 rfl 0 (by decide) (hts _ (List.mem_of_getElem? (i := 1) rfl)) rfl rfl rfl (fun _ => Nat.le_of_ble_eq_true rfl) (fun _ => rfl) dX7_carrier_2 (fun x2 H locs ex2 hP hS => ?_)
  have hI3 : Inv x2 := by rw [ex2]; exact hI.up (i_ge _) (i_le _)
  have hT4 : Same (TMc po.toInt.toNat) x x2 := by rw [ex2]; exact hT.up (by unfold TMc TM TrM; omega)
  have hE5 : Rel x2 := by rw [ex2]; exact Rel.oth hE (by decide) (by decide)
  have u6 : (x2 89 (33)).toInt = (x 89 (33)).toInt := by rw [ex2, up2_ne _ _ (by omega)]
  have u7 : (x2 108 (po.toInt.toNat)).toInt = (x 108 (po.toInt.toNat)).toInt := by rw [ex2, up2_ne _ _ (by omega)]
  have u8 : (x2 110 (po.toInt.toNat)).toInt = (x 110 (po.toInt.toNat)).toInt := by rw [ex2, up2_ne _ _ (by omega)]
  have hm5 : Same TM x x2 := by rw [ex2]; exact Same.rf.up (by unfold TM TrM; omega)
  refine lv_iload_n S.1 S.2.1 dX7_carrier_5 rfl (lv_at hl 1 rfl) ?_
  refine w_cSi (As := [.int po]) (rest := []) S hK hN hP hS hl (c_X7_isPort l D g hg x2 hI3 po) (va_cwS 1 hts gX7_carrier_X7_isPort rfl rfl rfl (by decide +kernel) ⟨Nat.le_of_ble_eq_true rfl, Nat.le_of_ble_eq_true rfl⟩) rfl rfl (Nat.le_of_ble_eq_true rfl) dX7_carrier_6 ⟨Nat.zero_le _, Nat.zero_le _⟩ (fun r10 x9 H locs hq11 hP hS => ?_)
  obtain ⟨ex12, hf13⟩ := hq11
  rw [ex12] at hP
  refine w_if_ne (tgt := 14) S dX7_carrier_9 (by decide) (fun hb14 => ?_) (fun hb14 => ?_)
  · refine lv_aload_n S.1 S.2.1 dX7_carrier_14 rfl (lv_at hl 0 rfl) ?_
    refine w_get (C := RX7) (T := TX7) (N := 34) S (fun _ h => List.mem_cons_of_mem _ (List.mem_append_right _ h)) hK hP 89 (by decide) (ceK89 _) rfl 19 (by decide) (hts _ (List.mem_of_getElem? (i := 2) rfl)) (v := .ref (g.1 108)) rfl dX7_carrier_15 ?_
    refine lv_iload_n S.1 S.2.1 dX7_carrier_18 rfl (lv_at hl 1 rfl) ?_
    refine w_zald S hK hP 108 (by decide) ceK108 (by omega) (by omega) dX7_carrier_19 (fun v15 ev15 => ?_)
    have wv15 : v15.toInt = (x2 108 po.toInt.toNat).toInt := by rw [ev15]
    have rv15 : (0 : Int) ≤ v15.toInt ∧ v15.toInt ≤ (1 : Int) := by rw [ev15]; exact hI3 108 _
    refine w_if_eq (tgt := 31) S dX7_carrier_20 (by decide) (fun hb16 => ?_) (fun hb16 => ?_)
    · refine w_iconst S dX7_carrier_31 (by decide) (fun k17 hk17 => ?_)
      refine lv_istore_n (lv' := [(3, .int k17), (0, .ref (g.1 89)), (1, .int po), (2, .int on)]) S.1 S.2.1 dX7_carrier_32 rfl hl (by decide) rfl (fun ls hl => ?_)
      refine lv_aload_n S.1 S.2.1 dX7_carrier_33 rfl (lv_at hl 1 rfl) ?_
      refine w_get (C := RX7) (T := TX7) (N := 34) S (fun _ h => List.mem_cons_of_mem _ (List.mem_append_right _ h)) hK hP 89 (by decide) (ceK89 _) rfl 19 (by decide) (hts _ (List.mem_of_getElem? (i := 2) rfl)) (v := .ref (g.1 108)) rfl dX7_carrier_34 ?_
      refine lv_iload_n S.1 S.2.1 dX7_carrier_37 rfl (lv_at hl 2 rfl) ?_
      refine lv_iload_n S.1 S.2.1 dX7_carrier_38 rfl (lv_at hl 3 rfl) ?_
      refine w_zast S hK hg hP hS 108 (by decide) ceK108 (z01 (by omega) (by omega)) (by omega) (by omega) dX7_carrier_39 (fun x18 H locs ex18 hP hS => ?_)
      have hI19 : Inv x18 := by rw [ex18]; exact hI3.up (show (0 : Int) ≤ _ by omega) (show _ ≤ (1 : Int) by omega)
      have hT20 : Same (TMc po.toInt.toNat) x x18 := by rw [ex18]; exact hT4.up (by unfold TMc TM TrM; omega)
      have hE21 : Rel x18 := by rw [ex18]; exact Rel.oth hE5 (by decide) (by decide)
      have u22 : (x18 89 (33)).toInt = (x2 89 (33)).toInt := by rw [ex18, up2_ne _ _ (by omega)]
      have u23 : (x18 108 (po.toInt.toNat)).toInt = on.toInt := by rw [ex18, up2_at]
      have u24 : (x18 110 (po.toInt.toNat)).toInt = (x2 110 (po.toInt.toNat)).toInt := by rw [ex18, up2_ne _ _ (by omega)]
      refine lv_iload_n S.1 S.2.1 dX7_carrier_40 rfl (lv_at hl 0 rfl) ?_
      refine w_if_eq (tgt := 68) S dX7_carrier_41 (by decide) (fun hb25 => ?_) (fun hb25 => ?_)
      · refine w_iconst S dX7_carrier_68 (by decide) (fun k26 hk26 => ?_)
        exact w_zret S hr0 hlk hP hS dX7_carrier_69 (z01 (by omega) (by omega)) (⟨hI19, hT20, hE21, by omega, fun _ => ⟨by omega, by omega, by first | (rw [if_pos (by omega)]; omega) | (rw [if_neg (by omega)]; omega)⟩, fun hv => absurd hv (by omega)⟩)
      · refine lv_aload_n S.1 S.2.1 dX7_carrier_44 rfl (lv_at hl 1 rfl) ?_
        refine w_get (C := RX7) (T := TX7) (N := 34) S (fun _ h => List.mem_cons_of_mem _ (List.mem_append_right _ h)) hK hP 89 (by decide) (ceK89 _) rfl 21 (by decide) (hts _ (List.mem_of_getElem? (i := 3) rfl)) (v := .ref (g.1 110)) rfl dX7_carrier_45 ?_
        refine lv_iload_n S.1 S.2.1 dX7_carrier_48 rfl (lv_at hl 2 rfl) ?_
        refine w_iconst S dX7_carrier_49 (by decide) (fun k27 hk27 => ?_)
        refine w_zast S hK hg hP hS 110 (by decide) ceK110 (z01 (by omega) (by omega)) (by omega) (by omega) dX7_carrier_50 (fun x28 H locs ex28 hP hS => ?_)
        have hI29 : Inv x28 := by rw [ex28]; exact hI19.up (show (0 : Int) ≤ _ by omega) (show _ ≤ (1 : Int) by omega)
        have hT30 : Same (TMc po.toInt.toNat) x x28 := by rw [ex28]; exact hT20.up (by unfold TMc TM TrM; omega)
        have hE31 : Rel x28 := by rw [ex28]; exact Rel.oth hE21 (by decide) (by decide)
        have u32 : (x28 89 (33)).toInt = (x18 89 (33)).toInt := by rw [ex28, up2_ne _ _ (by omega)]
        have u33 : (x28 108 (po.toInt.toNat)).toInt = (x18 108 (po.toInt.toNat)).toInt := by rw [ex28, up2_ne _ _ (by omega)]
        have u34 : (x28 110 (po.toInt.toNat)).toInt = k27.toInt := by rw [ex28, up2_at]
        refine lv_aload_n S.1 S.2.1 dX7_carrier_51 rfl (lv_at hl 1 rfl) ?_
        refine lv_aload_n S.1 S.2.1 dX7_carrier_52 rfl (lv_at hl 1 rfl) ?_
        refine w_get (C := RX7) (T := TX7) (N := 34) S (fun _ h => List.mem_cons_of_mem _ (List.mem_append_right _ h)) hK hP 89 (by decide) (ceK89 _) rfl 22 (by decide) (hts _ (List.mem_of_getElem? (i := 4) rfl)) (v := .ref (g.1 111)) rfl dX7_carrier_53 ?_
        refine lv_iload_n S.1 S.2.1 dX7_carrier_56 rfl (lv_at hl 2 rfl) ?_
        refine w_iald S hK hP 111 (by decide) ceK111 (by omega) (by omega) dX7_carrier_57 (fun v35 ev35 => ?_)
        have wv35 : v35.toInt = (x28 111 po.toInt.toNat).toInt := by rw [ev35]
        refine w_bipush S dX7_carrier_58 (by decide) (fun k36 hk36 => ?_)
        refine w_cVv (As := [.int v35, .int k36]) (rest := []) S hK hN hP hS hl 89 (by decide) (ceK89 _) rfl (c_X7_raise l D g hg x28 hI29 hE31 v35 k36) (cwV 2 hts gX7_carrier_X7_raise rfl rfl rfl (by decide +kernel) ⟨Nat.le_of_ble_eq_true rfl, Nat.le_of_ble_eq_true rfl⟩) rfl rfl (Nat.le_of_ble_eq_true rfl) dX7_carrier_60 ⟨Nat.zero_le _, Nat.zero_le _⟩ (fun x37 H locs hq39 hP hS => ?_)
        obtain ⟨hI40, hT41, hE43, hf42⟩ := hq39
        have hT44 : Same (TMc po.toInt.toNat) x x37 := hT30.tr hT41 (fun _ _ h => h.1)
        have u45 : (x37 108 (po.toInt.toNat)).toInt = (x28 108 (po.toInt.toNat)).toInt := by rw [hT41 108 (po.toInt.toNat) (by unfold TM TrM; omega)]
        have u46 : (x37 110 (po.toInt.toNat)).toInt = (x28 110 (po.toInt.toNat)).toInt := by rw [hT41 110 (po.toInt.toNat) (by unfold TM TrM; omega)]
        refine lv_aload_n S.1 S.2.1 dX7_carrier_63 rfl (lv_at hl 1 rfl) ?_
        refine lv_iload_n S.1 S.2.1 dX7_carrier_64 rfl (lv_at hl 2 rfl) ?_
        refine w_cVv (As := [.int po]) (rest := []) S hK hN hP hS hl 89 (by decide) (ceK89 _) rfl (c_X7_emptyAll l D g hg x37 hI40 hE43 po (by omega)) (cwV 1 hts gX7_carrier_X7_emptyAll rfl rfl rfl (by decide +kernel) ⟨Nat.le_of_ble_eq_true rfl, Nat.le_of_ble_eq_true rfl⟩) rfl rfl (Nat.le_of_ble_eq_true rfl) dX7_carrier_65 ⟨Nat.zero_le _, Nat.zero_le _⟩ (fun x47 H locs hq49 hP hS => ?_)
        obtain ⟨hI50, hT51, hE53, hf52⟩ := hq49
        have hT54 : Same (TMc po.toInt.toNat) x x47 := hT44.tr hT51 (fun _ _ h => h.1)
        have u55 : (x47 108 (po.toInt.toNat)).toInt = (x37 108 (po.toInt.toNat)).toInt := by rw [hT51 108 (po.toInt.toNat) (by unfold TM TrM; omega)]
        have u56 : (x47 110 (po.toInt.toNat)).toInt = (x37 110 (po.toInt.toNat)).toInt := by rw [hT51 110 (po.toInt.toNat) (by unfold TM TrM; omega)]
        refine w_iconst S dX7_carrier_68 (by decide) (fun k57 hk57 => ?_)
        exact w_zret S hr0 hlk hP hS dX7_carrier_69 (z01 (by omega) (by omega)) (⟨hI50, hT54, hE53, by omega, fun _ => ⟨by omega, by omega, by first | (rw [if_pos (by omega)]; omega) | (rw [if_neg (by omega)]; omega)⟩, fun hv => absurd hv (by omega)⟩)
    · refine lv_iload_n S.1 S.2.1 dX7_carrier_23 rfl (lv_at hl 2 rfl) ?_
      refine w_if_ne (tgt := 31) S dX7_carrier_24 (by decide) (fun hb58 => ?_) (fun hb58 => ?_)
      · refine w_iconst S dX7_carrier_31 (by decide) (fun k59 hk59 => ?_)
        refine lv_istore_n (lv' := [(3, .int k59), (0, .ref (g.1 89)), (1, .int po), (2, .int on)]) S.1 S.2.1 dX7_carrier_32 rfl hl (by decide) rfl (fun ls hl => ?_)
        refine lv_aload_n S.1 S.2.1 dX7_carrier_33 rfl (lv_at hl 1 rfl) ?_
        refine w_get (C := RX7) (T := TX7) (N := 34) S (fun _ h => List.mem_cons_of_mem _ (List.mem_append_right _ h)) hK hP 89 (by decide) (ceK89 _) rfl 19 (by decide) (hts _ (List.mem_of_getElem? (i := 2) rfl)) (v := .ref (g.1 108)) rfl dX7_carrier_34 ?_
        refine lv_iload_n S.1 S.2.1 dX7_carrier_37 rfl (lv_at hl 2 rfl) ?_
        refine lv_iload_n S.1 S.2.1 dX7_carrier_38 rfl (lv_at hl 3 rfl) ?_
        refine w_zast S hK hg hP hS 108 (by decide) ceK108 (z01 (by omega) (by omega)) (by omega) (by omega) dX7_carrier_39 (fun x60 H locs ex60 hP hS => ?_)
        have hI61 : Inv x60 := by rw [ex60]; exact hI3.up (show (0 : Int) ≤ _ by omega) (show _ ≤ (1 : Int) by omega)
        have hT62 : Same (TMc po.toInt.toNat) x x60 := by rw [ex60]; exact hT4.up (by unfold TMc TM TrM; omega)
        have hE63 : Rel x60 := by rw [ex60]; exact Rel.oth hE5 (by decide) (by decide)
        have u64 : (x60 89 (33)).toInt = (x2 89 (33)).toInt := by rw [ex60, up2_ne _ _ (by omega)]
        have u65 : (x60 108 (po.toInt.toNat)).toInt = on.toInt := by rw [ex60, up2_at]
        have u66 : (x60 110 (po.toInt.toNat)).toInt = (x2 110 (po.toInt.toNat)).toInt := by rw [ex60, up2_ne _ _ (by omega)]
        refine lv_iload_n S.1 S.2.1 dX7_carrier_40 rfl (lv_at hl 0 rfl) ?_
        refine w_if_eq (tgt := 68) S dX7_carrier_41 (by decide) (fun hb67 => ?_) (fun hb67 => ?_)
        · refine w_iconst S dX7_carrier_68 (by decide) (fun k68 hk68 => ?_)
          exact w_zret S hr0 hlk hP hS dX7_carrier_69 (z01 (by omega) (by omega)) (⟨hI61, hT62, hE63, by omega, fun _ => ⟨by omega, by omega, by first | (rw [if_pos (by omega)]; omega) | (rw [if_neg (by omega)]; omega)⟩, fun hv => absurd hv (by omega)⟩)
        · refine lv_aload_n S.1 S.2.1 dX7_carrier_44 rfl (lv_at hl 1 rfl) ?_
          refine w_get (C := RX7) (T := TX7) (N := 34) S (fun _ h => List.mem_cons_of_mem _ (List.mem_append_right _ h)) hK hP 89 (by decide) (ceK89 _) rfl 21 (by decide) (hts _ (List.mem_of_getElem? (i := 3) rfl)) (v := .ref (g.1 110)) rfl dX7_carrier_45 ?_
          refine lv_iload_n S.1 S.2.1 dX7_carrier_48 rfl (lv_at hl 2 rfl) ?_
          refine w_iconst S dX7_carrier_49 (by decide) (fun k69 hk69 => ?_)
          refine w_zast S hK hg hP hS 110 (by decide) ceK110 (z01 (by omega) (by omega)) (by omega) (by omega) dX7_carrier_50 (fun x70 H locs ex70 hP hS => ?_)
          have hI71 : Inv x70 := by rw [ex70]; exact hI61.up (show (0 : Int) ≤ _ by omega) (show _ ≤ (1 : Int) by omega)
          have hT72 : Same (TMc po.toInt.toNat) x x70 := by rw [ex70]; exact hT62.up (by unfold TMc TM TrM; omega)
          have hE73 : Rel x70 := by rw [ex70]; exact Rel.oth hE63 (by decide) (by decide)
          have u74 : (x70 89 (33)).toInt = (x60 89 (33)).toInt := by rw [ex70, up2_ne _ _ (by omega)]
          have u75 : (x70 108 (po.toInt.toNat)).toInt = (x60 108 (po.toInt.toNat)).toInt := by rw [ex70, up2_ne _ _ (by omega)]
          have u76 : (x70 110 (po.toInt.toNat)).toInt = k69.toInt := by rw [ex70, up2_at]
          refine lv_aload_n S.1 S.2.1 dX7_carrier_51 rfl (lv_at hl 1 rfl) ?_
          refine lv_aload_n S.1 S.2.1 dX7_carrier_52 rfl (lv_at hl 1 rfl) ?_
          refine w_get (C := RX7) (T := TX7) (N := 34) S (fun _ h => List.mem_cons_of_mem _ (List.mem_append_right _ h)) hK hP 89 (by decide) (ceK89 _) rfl 22 (by decide) (hts _ (List.mem_of_getElem? (i := 4) rfl)) (v := .ref (g.1 111)) rfl dX7_carrier_53 ?_
          refine lv_iload_n S.1 S.2.1 dX7_carrier_56 rfl (lv_at hl 2 rfl) ?_
          refine w_iald S hK hP 111 (by decide) ceK111 (by omega) (by omega) dX7_carrier_57 (fun v77 ev77 => ?_)
          have wv77 : v77.toInt = (x70 111 po.toInt.toNat).toInt := by rw [ev77]
          refine w_bipush S dX7_carrier_58 (by decide) (fun k78 hk78 => ?_)
          refine w_cVv (As := [.int v77, .int k78]) (rest := []) S hK hN hP hS hl 89 (by decide) (ceK89 _) rfl (c_X7_raise l D g hg x70 hI71 hE73 v77 k78) (cwV 2 hts gX7_carrier_X7_raise rfl rfl rfl (by decide +kernel) ⟨Nat.le_of_ble_eq_true rfl, Nat.le_of_ble_eq_true rfl⟩) rfl rfl (Nat.le_of_ble_eq_true rfl) dX7_carrier_60 ⟨Nat.zero_le _, Nat.zero_le _⟩ (fun x79 H locs hq81 hP hS => ?_)
          obtain ⟨hI82, hT83, hE85, hf84⟩ := hq81
          have hT86 : Same (TMc po.toInt.toNat) x x79 := hT72.tr hT83 (fun _ _ h => h.1)
          have u87 : (x79 108 (po.toInt.toNat)).toInt = (x70 108 (po.toInt.toNat)).toInt := by rw [hT83 108 (po.toInt.toNat) (by unfold TM TrM; omega)]
          have u88 : (x79 110 (po.toInt.toNat)).toInt = (x70 110 (po.toInt.toNat)).toInt := by rw [hT83 110 (po.toInt.toNat) (by unfold TM TrM; omega)]
          refine lv_aload_n S.1 S.2.1 dX7_carrier_63 rfl (lv_at hl 1 rfl) ?_
          refine lv_iload_n S.1 S.2.1 dX7_carrier_64 rfl (lv_at hl 2 rfl) ?_
          refine w_cVv (As := [.int po]) (rest := []) S hK hN hP hS hl 89 (by decide) (ceK89 _) rfl (c_X7_emptyAll l D g hg x79 hI82 hE85 po (by omega)) (cwV 1 hts gX7_carrier_X7_emptyAll rfl rfl rfl (by decide +kernel) ⟨Nat.le_of_ble_eq_true rfl, Nat.le_of_ble_eq_true rfl⟩) rfl rfl (Nat.le_of_ble_eq_true rfl) dX7_carrier_65 ⟨Nat.zero_le _, Nat.zero_le _⟩ (fun x89 H locs hq91 hP hS => ?_)
          obtain ⟨hI92, hT93, hE95, hf94⟩ := hq91
          have hT96 : Same (TMc po.toInt.toNat) x x89 := hT86.tr hT93 (fun _ _ h => h.1)
          have u97 : (x89 108 (po.toInt.toNat)).toInt = (x79 108 (po.toInt.toNat)).toInt := by rw [hT93 108 (po.toInt.toNat) (by unfold TM TrM; omega)]
          have u98 : (x89 110 (po.toInt.toNat)).toInt = (x79 110 (po.toInt.toNat)).toInt := by rw [hT93 110 (po.toInt.toNat) (by unfold TM TrM; omega)]
          refine w_iconst S dX7_carrier_68 (by decide) (fun k99 hk99 => ?_)
          exact w_zret S hr0 hlk hP hS dX7_carrier_69 (z01 (by omega) (by omega)) (⟨hI92, hT96, hE95, by omega, fun _ => ⟨by omega, by omega, by first | (rw [if_pos (by omega)]; omega) | (rw [if_neg (by omega)]; omega)⟩, fun hv => absurd hv (by omega)⟩)
      · refine w_iconst S dX7_carrier_27 (by decide) (fun k100 hk100 => ?_)
        refine lv_goto (tgt := 32) S.1 S.2.1 dX7_carrier_28 (by decide) ?_
        refine lv_istore_n (lv' := [(3, .int k100), (0, .ref (g.1 89)), (1, .int po), (2, .int on)]) S.1 S.2.1 dX7_carrier_32 rfl hl (by decide) rfl (fun ls hl => ?_)
        refine lv_aload_n S.1 S.2.1 dX7_carrier_33 rfl (lv_at hl 1 rfl) ?_
        refine w_get (C := RX7) (T := TX7) (N := 34) S (fun _ h => List.mem_cons_of_mem _ (List.mem_append_right _ h)) hK hP 89 (by decide) (ceK89 _) rfl 19 (by decide) (hts _ (List.mem_of_getElem? (i := 2) rfl)) (v := .ref (g.1 108)) rfl dX7_carrier_34 ?_
        refine lv_iload_n S.1 S.2.1 dX7_carrier_37 rfl (lv_at hl 2 rfl) ?_
        refine lv_iload_n S.1 S.2.1 dX7_carrier_38 rfl (lv_at hl 3 rfl) ?_
        refine w_zast S hK hg hP hS 108 (by decide) ceK108 (z01 (by omega) (by omega)) (by omega) (by omega) dX7_carrier_39 (fun x101 H locs ex101 hP hS => ?_)
        have hI102 : Inv x101 := by rw [ex101]; exact hI3.up (show (0 : Int) ≤ _ by omega) (show _ ≤ (1 : Int) by omega)
        have hT103 : Same (TMc po.toInt.toNat) x x101 := by rw [ex101]; exact hT4.up (by unfold TMc TM TrM; omega)
        have hE104 : Rel x101 := by rw [ex101]; exact Rel.oth hE5 (by decide) (by decide)
        have u105 : (x101 89 (33)).toInt = (x2 89 (33)).toInt := by rw [ex101, up2_ne _ _ (by omega)]
        have u106 : (x101 108 (po.toInt.toNat)).toInt = on.toInt := by rw [ex101, up2_at]
        have u107 : (x101 110 (po.toInt.toNat)).toInt = (x2 110 (po.toInt.toNat)).toInt := by rw [ex101, up2_ne _ _ (by omega)]
        refine lv_iload_n S.1 S.2.1 dX7_carrier_40 rfl (lv_at hl 0 rfl) ?_
        refine w_if_eq (tgt := 68) S dX7_carrier_41 (by decide) (fun hb108 => ?_) (fun hb108 => ?_)
        · refine w_iconst S dX7_carrier_68 (by decide) (fun k109 hk109 => ?_)
          exact w_zret S hr0 hlk hP hS dX7_carrier_69 (z01 (by omega) (by omega)) (⟨hI102, hT103, hE104, by omega, fun _ => ⟨by omega, by omega, by first | (rw [if_pos (by omega)]; omega) | (rw [if_neg (by omega)]; omega)⟩, fun hv => absurd hv (by omega)⟩)
        · refine lv_aload_n S.1 S.2.1 dX7_carrier_44 rfl (lv_at hl 1 rfl) ?_
          refine w_get (C := RX7) (T := TX7) (N := 34) S (fun _ h => List.mem_cons_of_mem _ (List.mem_append_right _ h)) hK hP 89 (by decide) (ceK89 _) rfl 21 (by decide) (hts _ (List.mem_of_getElem? (i := 3) rfl)) (v := .ref (g.1 110)) rfl dX7_carrier_45 ?_
          refine lv_iload_n S.1 S.2.1 dX7_carrier_48 rfl (lv_at hl 2 rfl) ?_
          refine w_iconst S dX7_carrier_49 (by decide) (fun k110 hk110 => ?_)
          refine w_zast S hK hg hP hS 110 (by decide) ceK110 (z01 (by omega) (by omega)) (by omega) (by omega) dX7_carrier_50 (fun x111 H locs ex111 hP hS => ?_)
          have hI112 : Inv x111 := by rw [ex111]; exact hI102.up (show (0 : Int) ≤ _ by omega) (show _ ≤ (1 : Int) by omega)
          have hT113 : Same (TMc po.toInt.toNat) x x111 := by rw [ex111]; exact hT103.up (by unfold TMc TM TrM; omega)
          have hE114 : Rel x111 := by rw [ex111]; exact Rel.oth hE104 (by decide) (by decide)
          have u115 : (x111 89 (33)).toInt = (x101 89 (33)).toInt := by rw [ex111, up2_ne _ _ (by omega)]
          have u116 : (x111 108 (po.toInt.toNat)).toInt = (x101 108 (po.toInt.toNat)).toInt := by rw [ex111, up2_ne _ _ (by omega)]
          have u117 : (x111 110 (po.toInt.toNat)).toInt = k110.toInt := by rw [ex111, up2_at]
          refine lv_aload_n S.1 S.2.1 dX7_carrier_51 rfl (lv_at hl 1 rfl) ?_
          refine lv_aload_n S.1 S.2.1 dX7_carrier_52 rfl (lv_at hl 1 rfl) ?_
          refine w_get (C := RX7) (T := TX7) (N := 34) S (fun _ h => List.mem_cons_of_mem _ (List.mem_append_right _ h)) hK hP 89 (by decide) (ceK89 _) rfl 22 (by decide) (hts _ (List.mem_of_getElem? (i := 4) rfl)) (v := .ref (g.1 111)) rfl dX7_carrier_53 ?_
          refine lv_iload_n S.1 S.2.1 dX7_carrier_56 rfl (lv_at hl 2 rfl) ?_
          refine w_iald S hK hP 111 (by decide) ceK111 (by omega) (by omega) dX7_carrier_57 (fun v118 ev118 => ?_)
          have wv118 : v118.toInt = (x111 111 po.toInt.toNat).toInt := by rw [ev118]
          refine w_bipush S dX7_carrier_58 (by decide) (fun k119 hk119 => ?_)
          refine w_cVv (As := [.int v118, .int k119]) (rest := []) S hK hN hP hS hl 89 (by decide) (ceK89 _) rfl (c_X7_raise l D g hg x111 hI112 hE114 v118 k119) (cwV 2 hts gX7_carrier_X7_raise rfl rfl rfl (by decide +kernel) ⟨Nat.le_of_ble_eq_true rfl, Nat.le_of_ble_eq_true rfl⟩) rfl rfl (Nat.le_of_ble_eq_true rfl) dX7_carrier_60 ⟨Nat.zero_le _, Nat.zero_le _⟩ (fun x120 H locs hq122 hP hS => ?_)
          obtain ⟨hI123, hT124, hE126, hf125⟩ := hq122
          have hT127 : Same (TMc po.toInt.toNat) x x120 := hT113.tr hT124 (fun _ _ h => h.1)
          have u128 : (x120 108 (po.toInt.toNat)).toInt = (x111 108 (po.toInt.toNat)).toInt := by rw [hT124 108 (po.toInt.toNat) (by unfold TM TrM; omega)]
          have u129 : (x120 110 (po.toInt.toNat)).toInt = (x111 110 (po.toInt.toNat)).toInt := by rw [hT124 110 (po.toInt.toNat) (by unfold TM TrM; omega)]
          refine lv_aload_n S.1 S.2.1 dX7_carrier_63 rfl (lv_at hl 1 rfl) ?_
          refine lv_iload_n S.1 S.2.1 dX7_carrier_64 rfl (lv_at hl 2 rfl) ?_
          refine w_cVv (As := [.int po]) (rest := []) S hK hN hP hS hl 89 (by decide) (ceK89 _) rfl (c_X7_emptyAll l D g hg x120 hI123 hE126 po (by omega)) (cwV 1 hts gX7_carrier_X7_emptyAll rfl rfl rfl (by decide +kernel) ⟨Nat.le_of_ble_eq_true rfl, Nat.le_of_ble_eq_true rfl⟩) rfl rfl (Nat.le_of_ble_eq_true rfl) dX7_carrier_65 ⟨Nat.zero_le _, Nat.zero_le _⟩ (fun x130 H locs hq132 hP hS => ?_)
          obtain ⟨hI133, hT134, hE136, hf135⟩ := hq132
          have hT137 : Same (TMc po.toInt.toNat) x x130 := hT127.tr hT134 (fun _ _ h => h.1)
          have u138 : (x130 108 (po.toInt.toNat)).toInt = (x120 108 (po.toInt.toNat)).toInt := by rw [hT134 108 (po.toInt.toNat) (by unfold TM TrM; omega)]
          have u139 : (x130 110 (po.toInt.toNat)).toInt = (x120 110 (po.toInt.toNat)).toInt := by rw [hT134 110 (po.toInt.toNat) (by unfold TM TrM; omega)]
          refine w_iconst S dX7_carrier_68 (by decide) (fun k140 hk140 => ?_)
          exact w_zret S hr0 hlk hP hS dX7_carrier_69 (z01 (by omega) (by omega)) (⟨hI133, hT137, hE136, by omega, fun _ => ⟨by omega, by omega, by first | (rw [if_pos (by omega)]; omega) | (rw [if_neg (by omega)]; omega)⟩, fun hv => absurd hv (by omega)⟩)
  · refine w_iconst S dX7_carrier_12 (by decide) (fun k141 hk141 => ?_)
    exact w_zret S hr0 hlk hP hS dX7_carrier_13 (z01 (by omega) (by omega)) (⟨hI3, hT4, hE5, by omega, fun hv => absurd hv (by omega), fun _ => ⟨by omega, hm5⟩⟩)
set_option maxRecDepth 100000 in
set_option maxHeartbeats 4000000 in
theorem c_X7_clear (l : Launch) (D : va_G) (g : GA) (hg : Inj g) (x : St) (hI : Inv x) (hE : Rel x) (po : Int32) (on : Int32) (hy0 : (x 89 33).toInt = 0) (hy1 : 0 ≤ on.toInt ∧ on.toInt ≤ 1) : Met l yX7_clear wsX7_clear ({ frames := 1, cells := 0, slots := 0, locals := 20 } : Room) (va_Pc [.ref (g.1 89), .int po, .int on] (WI D g x)) (va_Qi (fun r x2 => Inv x2 ∧ Same TM x x2 ∧ Rel x2 ∧ (x2 89 33).toInt = 0 ∧ ((0 ≤ po.toInt ∧ po.toInt ≤ 3) → r.toInt = 1) ∧ (¬ (0 ≤ po.toInt ∧ po.toInt ≤ 3) → r.toInt = 0)) (WO D g) (AQ g)) 0 0 (AQ g) := by
  refine w_met (cc := cX7_clear) (maxL := 3) (ret := (some .boolean)) (own := RX7) (by decide) rfl rfl (Nat.le_of_ble_eq_true rfl) (fun p e s m below meth co S hr0 hlk hK hN hP hS ls hl => ?_)
  have hts := S.2.2.2.2
  have hl : lv_has ls 3 [(0, .ref (g.1 89)), (1, .int po), (2, .int on)] := hl
  have hT : Same (TM) x x := Same.rf
  refine lv_aload_n S.1 S.2.1 dX7_clear_0 rfl (lv_at hl 0 rfl) ?_
  refine w_iconst S dX7_clear_1 (by decide) (fun k1 hk1 => ?_)
  refine w_put (C := RX7) (T := TX7) (N := 34) (F := FMod g) S (fun _ h => List.mem_cons_of_mem _ (List.mem_append_right _ h)) tyX7_ok nmX7 hK hg hP hS 89 (by decide) ceK89 rfl 0 (by decide) (hts _ (List.mem_of_getElem? (i := 1) rfl)) rfl rfl rfl (fun _ => Nat.le_of_ble_eq_true rfl) (fun _ => rfl) dX7_clear_2 (fun x2 H locs ex2 hP hS => ?_)
  have hI3 : Inv x2 := by rw [ex2]; exact hI.up (i_ge _) (i_le _)
  have hT4 : Same (TM) x x2 := by rw [ex2]; exact hT.up (by unfold TM TrM; omega)
  have hE5 : Rel x2 := by rw [ex2]; exact Rel.oth hE (by decide) (by decide)
  have u6 : (x2 89 (33)).toInt = (x 89 (33)).toInt := by rw [ex2, up2_ne _ _ (by omega)]
  refine lv_iload_n S.1 S.2.1 dX7_clear_5 rfl (lv_at hl 1 rfl) ?_
  refine w_cSi (As := [.int po]) (rest := []) S hK hN hP hS hl (c_X7_isPort l D g hg x2 hI3 po) (va_cwS 1 hts gX7_clear_X7_isPort rfl rfl rfl (by decide +kernel) ⟨Nat.le_of_ble_eq_true rfl, Nat.le_of_ble_eq_true rfl⟩) rfl rfl (Nat.le_of_ble_eq_true rfl) dX7_clear_6 ⟨Nat.zero_le _, Nat.zero_le _⟩ (fun r8 x7 H locs hq9 hP hS => ?_)
  obtain ⟨ex10, hf11⟩ := hq9
  rw [ex10] at hP
  refine w_if_ne (tgt := 14) S dX7_clear_9 (by decide) (fun hb12 => ?_) (fun hb12 => ?_)
  · refine lv_aload_n S.1 S.2.1 dX7_clear_14 rfl (lv_at hl 0 rfl) ?_
    refine w_get (C := RX7) (T := TX7) (N := 34) S (fun _ h => List.mem_cons_of_mem _ (List.mem_append_right _ h)) hK hP 89 (by decide) (ceK89 _) rfl 20 (by decide) (hts _ (List.mem_of_getElem? (i := 2) rfl)) (v := .ref (g.1 109)) rfl dX7_clear_15 ?_
    refine lv_iload_n S.1 S.2.1 dX7_clear_18 rfl (lv_at hl 1 rfl) ?_
    refine lv_iload_n S.1 S.2.1 dX7_clear_19 rfl (lv_at hl 2 rfl) ?_
    refine w_zast S hK hg hP hS 109 (by decide) ceK109 (z01 (by omega) (by omega)) (by omega) (by omega) dX7_clear_20 (fun x13 H locs ex13 hP hS => ?_)
    have hI14 : Inv x13 := by rw [ex13]; exact hI3.up (show (0 : Int) ≤ _ by omega) (show _ ≤ (1 : Int) by omega)
    have hT15 : Same (TM) x x13 := by rw [ex13]; exact hT4.up (by unfold TM TrM; omega)
    have hE16 : Rel x13 := by rw [ex13]; exact Rel.oth hE5 (by decide) (by decide)
    have u17 : (x13 89 (33)).toInt = (x2 89 (33)).toInt := by rw [ex13, up2_ne _ _ (by omega)]
    refine w_iconst S dX7_clear_21 (by decide) (fun k18 hk18 => ?_)
    exact w_zret S hr0 hlk hP hS dX7_clear_22 (z01 (by omega) (by omega)) (⟨hI14, hT15, hE16, by omega, by omega, by omega⟩)
  · refine w_iconst S dX7_clear_12 (by decide) (fun k19 hk19 => ?_)
    exact w_zret S hr0 hlk hP hS dX7_clear_13 (z01 (by omega) (by omega)) (⟨hI3, hT4, hE5, by omega, by omega, by omega⟩)
set_option maxRecDepth 100000 in
set_option maxHeartbeats 4000000 in
theorem c_X7_join (l : Launch) (D : va_G) (g : GA) (hg : Inj g) (x : St) (hI : Inv x) (hE : Rel x) (a : Int32) (gr : Int32) (hy0 : (x 89 33).toInt = 0) : Met l yX7_join wsX7_join ({ frames := 1, cells := 0, slots := 0, locals := 20 } : Room) (va_Pc [.ref (g.1 89), .int a, .int gr] (WI D g x)) (va_Qi (fun r x2 => Inv x2 ∧ Same TM x x2 ∧ Rel x2 ∧ (x2 89 33).toInt = 0 ∧ ((0 ≤ a.toInt ∧ a.toInt ≤ 7 ∧ 0 ≤ gr.toInt ∧ gr.toInt ≤ 7) → r.toInt = 1) ∧ (¬ (0 ≤ a.toInt ∧ a.toInt ≤ 7 ∧ 0 ≤ gr.toInt ∧ gr.toInt ≤ 7) → r.toInt = 0)) (WO D g) (AQ g)) 0 0 (AQ g) := by
  refine w_met (cc := cX7_join) (maxL := 3) (ret := (some .boolean)) (own := RX7) (by decide) rfl rfl (Nat.le_of_ble_eq_true rfl) (fun p e s m below meth co S hr0 hlk hK hN hP hS ls hl => ?_)
  have hts := S.2.2.2.2
  have hl : lv_has ls 3 [(0, .ref (g.1 89)), (1, .int a), (2, .int gr)] := hl
  have hT : Same (TM) x x := Same.rf
  refine lv_aload_n S.1 S.2.1 dX7_join_0 rfl (lv_at hl 0 rfl) ?_
  refine w_iconst S dX7_join_1 (by decide) (fun k1 hk1 => ?_)
  refine w_put (C := RX7) (T := TX7) (N := 34) (F := FMod g) S (fun _ h => List.mem_cons_of_mem _ (List.mem_append_right _ h)) tyX7_ok nmX7 hK hg hP hS 89 (by decide) ceK89 rfl 0 (by decide) (hts _ (List.mem_of_getElem? (i := 1) rfl)) rfl rfl rfl (fun _ => Nat.le_of_ble_eq_true rfl) (fun _ => rfl) dX7_join_2 (fun x2 H locs ex2 hP hS => ?_)
  have hI3 : Inv x2 := by rw [ex2]; exact hI.up (i_ge _) (i_le _)
  have hT4 : Same (TM) x x2 := by rw [ex2]; exact hT.up (by unfold TM TrM; omega)
  have hE5 : Rel x2 := by rw [ex2]; exact Rel.oth hE (by decide) (by decide)
  have u6 : (x2 89 (33)).toInt = (x 89 (33)).toInt := by rw [ex2, up2_ne _ _ (by omega)]
  refine lv_iload_n S.1 S.2.1 dX7_join_5 rfl (lv_at hl 1 rfl) ?_
  refine w_cSi (As := [.int a]) (rest := []) S hK hN hP hS hl (c_X7_isProcess l D g hg x2 hI3 a) (va_cwS 1 hts gX7_join_X7_isProcess rfl rfl rfl (by decide +kernel) ⟨Nat.le_of_ble_eq_true rfl, Nat.le_of_ble_eq_true rfl⟩) rfl rfl (Nat.le_of_ble_eq_true rfl) dX7_join_6 ⟨Nat.zero_le _, Nat.zero_le _⟩ (fun r8 x7 H locs hq9 hP hS => ?_)
  obtain ⟨ex10, hf11⟩ := hq9
  rw [ex10] at hP
  refine w_if_eq (tgt := 19) S dX7_join_9 (by decide) (fun hb12 => ?_) (fun hb12 => ?_)
  · refine w_iconst S dX7_join_19 (by decide) (fun k13 hk13 => ?_)
    exact w_zret S hr0 hlk hP hS dX7_join_20 (z01 (by omega) (by omega)) (⟨hI3, hT4, hE5, by omega, by omega, by omega⟩)
  · refine lv_iload_n S.1 S.2.1 dX7_join_12 rfl (lv_at hl 2 rfl) ?_
    refine w_cSi (As := [.int gr]) (rest := []) S hK hN hP hS hl (c_X7_isProcess l D g hg x2 hI3 gr) (va_cwS 1 hts gX7_join_X7_isProcess rfl rfl rfl (by decide +kernel) ⟨Nat.le_of_ble_eq_true rfl, Nat.le_of_ble_eq_true rfl⟩) rfl rfl (Nat.le_of_ble_eq_true rfl) dX7_join_13 ⟨Nat.zero_le _, Nat.zero_le _⟩ (fun r15 x14 H locs hq16 hP hS => ?_)
    obtain ⟨ex17, hf18⟩ := hq16
    rw [ex17] at hP
    refine w_if_ne (tgt := 21) S dX7_join_16 (by decide) (fun hb19 => ?_) (fun hb19 => ?_)
    · refine lv_aload_n S.1 S.2.1 dX7_join_21 rfl (lv_at hl 0 rfl) ?_
      refine w_get (C := RX7) (T := TX7) (N := 34) S (fun _ h => List.mem_cons_of_mem _ (List.mem_append_right _ h)) hK hP 89 (by decide) (ceK89 _) rfl 29 (by decide) (hts _ (List.mem_of_getElem? (i := 2) rfl)) (v := .ref (g.1 118)) rfl dX7_join_22 ?_
      refine lv_iload_n S.1 S.2.1 dX7_join_25 rfl (lv_at hl 1 rfl) ?_
      refine lv_iload_n S.1 S.2.1 dX7_join_26 rfl (lv_at hl 2 rfl) ?_
      refine w_iast S hK hg hP hS 118 (by decide) ceK118 (by omega) (by omega) dX7_join_27 (fun x20 H locs ex20 hP hS => ?_)
      have hI21 : Inv x20 := by rw [ex20]; exact hI3.up (i_ge _) (i_le _)
      have hT22 : Same (TM) x x20 := by rw [ex20]; exact hT4.up (by unfold TM TrM; omega)
      have hE23 : Rel x20 := by rw [ex20]; exact Rel.oth hE5 (by decide) (by decide)
      have u24 : (x20 89 (33)).toInt = (x2 89 (33)).toInt := by rw [ex20, up2_ne _ _ (by omega)]
      refine w_iconst S dX7_join_28 (by decide) (fun k25 hk25 => ?_)
      exact w_zret S hr0 hlk hP hS dX7_join_29 (z01 (by omega) (by omega)) (⟨hI21, hT22, hE23, by omega, by omega, by omega⟩)
    · refine w_iconst S dX7_join_19 (by decide) (fun k26 hk26 => ?_)
      exact w_zret S hr0 hlk hP hS dX7_join_20 (z01 (by omega) (by omega)) (⟨hI3, hT4, hE5, by omega, by omega, by omega⟩)
set_option maxRecDepth 100000 in
set_option maxHeartbeats 4000000 in
theorem c_X7_foreground (l : Launch) (D : va_G) (g : GA) (hg : Inj g) (x : St) (hI : Inv x) (hE : Rel x) (po : Int32) (gr : Int32) (hy0 : (x 89 33).toInt = 0) : Met l yX7_foreground wsX7_foreground ({ frames := 1, cells := 0, slots := 0, locals := 20 } : Room) (va_Pc [.ref (g.1 89), .int po, .int gr] (WI D g x)) (va_Qi (fun r x2 => Inv x2 ∧ Same TM x x2 ∧ Rel x2 ∧ (x2 89 33).toInt = 0 ∧ ((0 ≤ po.toInt ∧ po.toInt ≤ 3 ∧ -1 ≤ gr.toInt ∧ gr.toInt ≤ 7) → r.toInt = 1) ∧ (¬ (0 ≤ po.toInt ∧ po.toInt ≤ 3 ∧ -1 ≤ gr.toInt ∧ gr.toInt ≤ 7) → r.toInt = 0)) (WO D g) (AQ g)) 0 0 (AQ g) := by
  refine w_met (cc := cX7_foreground) (maxL := 3) (ret := (some .boolean)) (own := RX7) (by decide) rfl rfl (Nat.le_of_ble_eq_true rfl) (fun p e s m below meth co S hr0 hlk hK hN hP hS ls hl => ?_)
  have hts := S.2.2.2.2
  have hl : lv_has ls 3 [(0, .ref (g.1 89)), (1, .int po), (2, .int gr)] := hl
  have hT : Same (TM) x x := Same.rf
  refine lv_aload_n S.1 S.2.1 dX7_foreground_0 rfl (lv_at hl 0 rfl) ?_
  refine w_iconst S dX7_foreground_1 (by decide) (fun k1 hk1 => ?_)
  refine w_put (C := RX7) (T := TX7) (N := 34) (F := FMod g) S (fun _ h => List.mem_cons_of_mem _ (List.mem_append_right _ h)) tyX7_ok nmX7 hK hg hP hS 89 (by decide) ceK89 rfl 0 (by decide) (hts _ (List.mem_of_getElem? (i := 1) rfl)) rfl rfl rfl (fun _ => Nat.le_of_ble_eq_true rfl) (fun _ => rfl) dX7_foreground_2 (fun x2 H locs ex2 hP hS => ?_)
  have hI3 : Inv x2 := by rw [ex2]; exact hI.up (i_ge _) (i_le _)
  have hT4 : Same (TM) x x2 := by rw [ex2]; exact hT.up (by unfold TM TrM; omega)
  have hE5 : Rel x2 := by rw [ex2]; exact Rel.oth hE (by decide) (by decide)
  have u6 : (x2 89 (33)).toInt = (x 89 (33)).toInt := by rw [ex2, up2_ne _ _ (by omega)]
  refine lv_iload_n S.1 S.2.1 dX7_foreground_5 rfl (lv_at hl 1 rfl) ?_
  refine w_cSi (As := [.int po]) (rest := []) S hK hN hP hS hl (c_X7_isPort l D g hg x2 hI3 po) (va_cwS 1 hts gX7_foreground_X7_isPort rfl rfl rfl (by decide +kernel) ⟨Nat.le_of_ble_eq_true rfl, Nat.le_of_ble_eq_true rfl⟩) rfl rfl (Nat.le_of_ble_eq_true rfl) dX7_foreground_6 ⟨Nat.zero_le _, Nat.zero_le _⟩ (fun r8 x7 H locs hq9 hP hS => ?_)
  obtain ⟨ex10, hf11⟩ := hq9
  rw [ex10] at hP
  refine w_if_eq (tgt := 23) S dX7_foreground_9 (by decide) (fun hb12 => ?_) (fun hb12 => ?_)
  · refine w_iconst S dX7_foreground_23 (by decide) (fun k13 hk13 => ?_)
    exact w_zret S hr0 hlk hP hS dX7_foreground_24 (z01 (by omega) (by omega)) (⟨hI3, hT4, hE5, by omega, by omega, by omega⟩)
  · refine lv_iload_n S.1 S.2.1 dX7_foreground_12 rfl (lv_at hl 2 rfl) ?_
    refine w_iconst S dX7_foreground_13 (by decide) (fun k14 hk14 => ?_)
    refine w_icmp_lt (tgt := 23) S dX7_foreground_14 (by decide) (fun hb15 => ?_) (fun hb15 => ?_)
    · refine w_iconst S dX7_foreground_23 (by decide) (fun k16 hk16 => ?_)
      exact w_zret S hr0 hlk hP hS dX7_foreground_24 (z01 (by omega) (by omega)) (⟨hI3, hT4, hE5, by omega, by omega, by omega⟩)
    · refine lv_iload_n S.1 S.2.1 dX7_foreground_17 rfl (lv_at hl 2 rfl) ?_
      refine w_bipush S dX7_foreground_18 (by decide) (fun k17 hk17 => ?_)
      refine w_icmp_le (tgt := 25) S dX7_foreground_20 (by decide) (fun hb18 => ?_) (fun hb18 => ?_)
      · refine lv_aload_n S.1 S.2.1 dX7_foreground_25 rfl (lv_at hl 0 rfl) ?_
        refine w_get (C := RX7) (T := TX7) (N := 34) S (fun _ h => List.mem_cons_of_mem _ (List.mem_append_right _ h)) hK hP 89 (by decide) (ceK89 _) rfl 22 (by decide) (hts _ (List.mem_of_getElem? (i := 2) rfl)) (v := .ref (g.1 111)) rfl dX7_foreground_26 ?_
        refine lv_iload_n S.1 S.2.1 dX7_foreground_29 rfl (lv_at hl 1 rfl) ?_
        refine lv_iload_n S.1 S.2.1 dX7_foreground_30 rfl (lv_at hl 2 rfl) ?_
        refine w_iast S hK hg hP hS 111 (by decide) ceK111 (by omega) (by omega) dX7_foreground_31 (fun x19 H locs ex19 hP hS => ?_)
        have hI20 : Inv x19 := by rw [ex19]; exact hI3.up (i_ge _) (i_le _)
        have hT21 : Same (TM) x x19 := by rw [ex19]; exact hT4.up (by unfold TM TrM; omega)
        have hE22 : Rel x19 := by rw [ex19]; exact Rel.oth hE5 (by decide) (by decide)
        have u23 : (x19 89 (33)).toInt = (x2 89 (33)).toInt := by rw [ex19, up2_ne _ _ (by omega)]
        refine w_iconst S dX7_foreground_32 (by decide) (fun k24 hk24 => ?_)
        exact w_zret S hr0 hlk hP hS dX7_foreground_33 (z01 (by omega) (by omega)) (⟨hI20, hT21, hE22, by omega, by omega, by omega⟩)
      · refine w_iconst S dX7_foreground_23 (by decide) (fun k25 hk25 => ?_)
        exact w_zret S hr0 hlk hP hS dX7_foreground_24 (z01 (by omega) (by omega)) (⟨hI3, hT4, hE5, by omega, by omega, by omega⟩)
set_option maxRecDepth 100000 in
set_option maxHeartbeats 4000000 in
theorem c_X7_open (l : Launch) (D : va_G) (g : GA) (hg : Inj g) (x : St) (hI : Inv x) (hE : Rel x) (a : Int32) (po : Int32) (hy0 : (x 89 33).toInt = 0) : Met l yX7_open wsX7_open ({ frames := 1, cells := 0, slots := 0, locals := 20 } : Room) (va_Pc [.ref (g.1 89), .int a, .int po] (WI D g x)) (va_Qi (fun r x2 => Inv x2 ∧ Same (TMo po.toInt.toNat) x x2 ∧ Rel x2 ∧ (x2 89 33).toInt = 0 ∧ ((0 ≤ a.toInt ∧ a.toInt ≤ 7 ∧ 0 ≤ po.toInt ∧ po.toInt ≤ 3) → ((r.toInt = 0 ∧ Same TM x x2 ∧ ((x 108 (po.toInt.toNat)).toInt = 0 ∨ ((x 117 ((8 * po.toInt + a.toInt).toNat)).toInt ≠ 0 ∧ (x 110 (po.toInt.toNat)).toInt = 0))) ∨ (r.toInt = 1 ∧ ((x 108 (po.toInt.toNat)).toInt ≠ 0 ∧ ((x 117 ((8 * po.toInt + a.toInt).toNat)).toInt = 0 ∨ (x 110 (po.toInt.toNat)).toInt ≠ 0)) ∧ (x2 110 (po.toInt.toNat)).toInt = 0 ∧ ∀ k : Nat, k < 8 → (x2 117 ((8 * po.toInt + (k : Int)).toNat)) = if k = a.toInt.toNat then 1 else if (x 110 (po.toInt.toNat)).toInt = 0 then (x 117 ((8 * po.toInt + (k : Int)).toNat)) else 0))) ∧ (¬ (0 ≤ a.toInt ∧ a.toInt ≤ 7 ∧ 0 ≤ po.toInt ∧ po.toInt ≤ 3) → r.toInt = 0 ∧ Same TM x x2)) (WO D g) (AQ g)) 0 0 (AQ g) := by
  refine w_met (cc := cX7_open) (maxL := 4) (ret := (some .boolean)) (own := RX7) (by decide) rfl rfl (Nat.le_of_ble_eq_true rfl) (fun p e s m below meth co S hr0 hlk hK hN hP hS ls hl => ?_)
  have hts := S.2.2.2.2
  have hl : lv_has ls 4 [(0, .ref (g.1 89)), (1, .int a), (2, .int po)] := hl
  have hT : Same (TMo po.toInt.toNat) x x := Same.rf
  have J90 : ∀ (x_90 : St) (H : Heap) (locs : List Loc) (ls : Array Slot), Inv x_90 → Same (TMo po.toInt.toNat) x x_90 → Rel x_90 → ((x_90 89 33).toInt = 0) → (((x 108 (po.toInt.toNat)).toInt ≠ 0 ∧ ((x 117 ((8 * po.toInt + a.toInt).toNat)).toInt = 0 ∨ (x 110 (po.toInt.toNat)).toInt ≠ 0))) → (∀ k : Nat, k < 8 → (x_90 117 ((8 * po.toInt + (k : Int)).toNat)) = if (x 110 (po.toInt.toNat)).toInt = 0 then (x 117 ((8 * po.toInt + (k : Int)).toNat)) else 0) → (0 ≤ a.toInt ∧ a.toInt ≤ 7 ∧ 0 ≤ po.toInt ∧ po.toInt ≤ 3) → va_P D vwCl (WL g x_90) H → va_S (AQ g) s.heap H locs → lv_has ls 4 [(0, .ref (g.1 89)), (1, .int a), (2, .int po)] → W p l e ({ frames := 1, cells := 0, slots := 0, locals := 20 } : Room) s m ([.ref (g.1 89), .int a, .int po] : List Value).toArray below meth co H locs 0 0 (MQ below (va_Qi (fun r x2 => Inv x2 ∧ Same (TMo po.toInt.toNat) x x2 ∧ Rel x2 ∧ (x2 89 33).toInt = 0 ∧ ((0 ≤ a.toInt ∧ a.toInt ≤ 7 ∧ 0 ≤ po.toInt ∧ po.toInt ≤ 3) → ((r.toInt = 0 ∧ Same TM x x2 ∧ ((x 108 (po.toInt.toNat)).toInt = 0 ∨ ((x 117 ((8 * po.toInt + a.toInt).toNat)).toInt ≠ 0 ∧ (x 110 (po.toInt.toNat)).toInt = 0))) ∨ (r.toInt = 1 ∧ ((x 108 (po.toInt.toNat)).toInt ≠ 0 ∧ ((x 117 ((8 * po.toInt + a.toInt).toNat)).toInt = 0 ∨ (x 110 (po.toInt.toNat)).toInt ≠ 0)) ∧ (x2 110 (po.toInt.toNat)).toInt = 0 ∧ ∀ k : Nat, k < 8 → (x2 117 ((8 * po.toInt + (k : Int)).toNat)) = if k = a.toInt.toNat then 1 else if (x 110 (po.toInt.toNat)).toInt = 0 then (x 117 ((8 * po.toInt + (k : Int)).toNat)) else 0))) ∧ (¬ (0 ≤ a.toInt ∧ a.toInt ≤ 7 ∧ 0 ≤ po.toInt ∧ po.toInt ≤ 3) → r.toInt = 0 ∧ Same TM x x2)) (WO D g) (AQ g)) ([.ref (g.1 89), .int a, .int po] : List Value).toArray s 0 0 (AQ g)) (F0 m 90 ls []) := by
    intro x_90 H locs ls hI_90 hT_90 hE_90 hf90_0 hf90_1 hf90_2 hf90_3 hP hS hl
    refine lv_aload_n S.1 S.2.1 dX7_open_90 rfl (lv_at hl 0 rfl) ?_
    refine w_get (C := RX7) (T := TX7) (N := 34) S (fun _ h => List.mem_cons_of_mem _ (List.mem_append_right _ h)) hK hP 89 (by decide) (ceK89 _) rfl 21 (by decide) (hts _ (List.mem_of_getElem? (i := 4) rfl)) (v := .ref (g.1 110)) rfl dX7_open_91 ?_
    refine lv_iload_n S.1 S.2.1 dX7_open_94 rfl (lv_at hl 2 rfl) ?_
    refine w_iconst S dX7_open_95 (by decide) (fun k1 hk1 => ?_)
    refine w_zast S hK hg hP hS 110 (by decide) ceK110 (z01 (by omega) (by omega)) (by omega) (by omega) dX7_open_96 (fun x2 H locs ex2 hP hS => ?_)
    have hI3 : Inv x2 := by rw [ex2]; exact hI_90.up (show (0 : Int) ≤ _ by omega) (show _ ≤ (1 : Int) by omega)
    have hT4 : Same (TMo po.toInt.toNat) x x2 := by rw [ex2]; exact hT_90.up (by unfold TMo TM TrM; omega)
    have hE5 : Rel x2 := by rw [ex2]; exact Rel.oth hE_90 (by decide) (by decide)
    have u6 : (x2 89 (33)).toInt = (x_90 89 (33)).toInt := by rw [ex2, up2_ne _ _ (by omega)]
    have u7 : (x2 110 (po.toInt.toNat)).toInt = k1.toInt := by rw [ex2, up2_at]
    have u8 : (x2 108 (po.toInt.toNat)).toInt = (x_90 108 (po.toInt.toNat)).toInt := by rw [ex2, up2_ne _ _ (by omega)]
    have u9 : (x2 117 ((8 * po.toInt + a.toInt).toNat)).toInt = (x_90 117 ((8 * po.toInt + a.toInt).toNat)).toInt := by rw [ex2, up2_ne _ _ (by omega)]
    have hp97 : ∀ k : Nat, k < 8 → (x2 117 ((8 * po.toInt + (k : Int)).toNat)) = (x_90 117 ((8 * po.toInt + (k : Int)).toNat)) := fun k _ => by rw [ex2, up2_ne _ _ (by omega)]
    refine lv_aload_n S.1 S.2.1 dX7_open_97 rfl (lv_at hl 0 rfl) ?_
    refine w_get (C := RX7) (T := TX7) (N := 34) S (fun _ h => List.mem_cons_of_mem _ (List.mem_append_right _ h)) hK hP 89 (by decide) (ceK89 _) rfl 28 (by decide) (hts _ (List.mem_of_getElem? (i := 3) rfl)) (v := .ref (g.1 117)) rfl dX7_open_98 ?_
    refine w_bipush S dX7_open_101 (by decide) (fun k10 hk10 => ?_)
    refine lv_iload_n S.1 S.2.1 dX7_open_103 rfl (lv_at hl 2 rfl) ?_
    refine w_imulk S dX7_open_104 8 hk10 (by omega) (by omega) (fun v11 hv11 => ?_)
    refine lv_iload_n S.1 S.2.1 dX7_open_105 rfl (lv_at hl 1 rfl) ?_
    refine w_iadd S dX7_open_106 (by omega) (by omega) (fun v12 hv12 => ?_)
    obtain ⟨ix107, hix107⟩ : ∃ z, z = v12.toInt.toNat := ⟨_, rfl⟩
    refine w_iconst S dX7_open_107 (by decide) (fun k13 hk13 => ?_)
    have hv108 : k13 = 1 := t_eq.mpr (by rw [hk13]; rfl)
    refine w_zast S hK hg hP hS 117 (by decide) ceK117 (z01 (by omega) (by omega)) (by omega) (by omega) dX7_open_108 (fun x14 H locs ex14 hP hS => ?_)
    have hI15 : Inv x14 := by rw [ex14]; exact hI3.up (show (0 : Int) ≤ _ by omega) (show _ ≤ (1 : Int) by omega)
    have hT16 : Same (TMo po.toInt.toNat) x x14 := by rw [ex14]; exact hT4.up (by unfold TMo TM TrM; omega)
    have hE17 : Rel x14 := by rw [ex14]; exact Rel.oth hE5 (by decide) (by decide)
    have u18 : (x14 89 (33)).toInt = (x2 89 (33)).toInt := by rw [ex14, up2_ne _ _ (by omega)]
    have u19 : (x14 110 (po.toInt.toNat)).toInt = (x2 110 (po.toInt.toNat)).toInt := by rw [ex14, up2_ne _ _ (by omega)]
    have u20 : (x14 108 (po.toInt.toNat)).toInt = (x2 108 (po.toInt.toNat)).toInt := by rw [ex14, up2_ne _ _ (by omega)]
    have hp109 : ∀ k : Nat, k < 8 → (x14 117 ((8 * po.toInt + (k : Int)).toNat)) = if k = a.toInt.toNat then 1 else if (x 110 (po.toInt.toNat)).toInt = 0 then (x 117 ((8 * po.toInt + (k : Int)).toNat)) else 0 := by
      intro k hk
      rw [ex14]
      by_cases hk1 : k = a.toInt.toNat
      · have e8 : (8 * po.toInt + (k : Int)).toNat = ix107 := by omega
        rw [if_pos hk1, e8, hix107, up2_at]; exact hv108
      · rw [if_neg hk1, up2_ne _ _ (by omega), hp97 k hk]; exact hf90_2 k hk
    refine w_iconst S dX7_open_109 (by decide) (fun k22 hk22 => ?_)
    exact w_zret S hr0 hlk hP hS dX7_open_110 (z01 (by omega) (by omega)) (⟨hI15, hT16, hE17, by omega, fun _ => Or.inr ⟨by omega, hf90_1, by omega, hp109⟩, fun hv => absurd hv (by omega)⟩)
  have J66 : ∀ (n0 : Nat) (x_66 : St) (H : Heap) (locs : List Loc) (ls : Array Slot) (y66_3 : Int32), Inv x_66 → Same (TMo po.toInt.toNat) x x_66 → Rel x_66 → (0 ≤ y66_3.toInt) → (y66_3.toInt ≤ 8) → ((x 110 (po.toInt.toNat)).toInt ≠ 0) → (∀ k : Nat, k < 8 → (x_66 117 ((8 * po.toInt + (k : Int)).toNat)) = if (k : Int) < y66_3.toInt then 0 else (x 117 ((8 * po.toInt + (k : Int)).toNat))) → (((x 108 (po.toInt.toNat)).toInt ≠ 0 ∧ ((x 117 ((8 * po.toInt + a.toInt).toNat)).toInt = 0 ∨ (x 110 (po.toInt.toNat)).toInt ≠ 0))) → ((x_66 89 33).toInt = 0) → (0 ≤ a.toInt ∧ a.toInt ≤ 7 ∧ 0 ≤ po.toInt ∧ po.toInt ≤ 3) → (8 - y66_3.toInt).toNat < n0 → va_P D vwCl (WL g x_66) H → va_S (AQ g) s.heap H locs → lv_has ls 4 [(0, .ref (g.1 89)), (1, .int a), (2, .int po), (3, .int y66_3)] → W p l e ({ frames := 1, cells := 0, slots := 0, locals := 20 } : Room) s m ([.ref (g.1 89), .int a, .int po] : List Value).toArray below meth co H locs 0 0 (MQ below (va_Qi (fun r x2 => Inv x2 ∧ Same (TMo po.toInt.toNat) x x2 ∧ Rel x2 ∧ (x2 89 33).toInt = 0 ∧ ((0 ≤ a.toInt ∧ a.toInt ≤ 7 ∧ 0 ≤ po.toInt ∧ po.toInt ≤ 3) → ((r.toInt = 0 ∧ Same TM x x2 ∧ ((x 108 (po.toInt.toNat)).toInt = 0 ∨ ((x 117 ((8 * po.toInt + a.toInt).toNat)).toInt ≠ 0 ∧ (x 110 (po.toInt.toNat)).toInt = 0))) ∨ (r.toInt = 1 ∧ ((x 108 (po.toInt.toNat)).toInt ≠ 0 ∧ ((x 117 ((8 * po.toInt + a.toInt).toNat)).toInt = 0 ∨ (x 110 (po.toInt.toNat)).toInt ≠ 0)) ∧ (x2 110 (po.toInt.toNat)).toInt = 0 ∧ ∀ k : Nat, k < 8 → (x2 117 ((8 * po.toInt + (k : Int)).toNat)) = if k = a.toInt.toNat then 1 else if (x 110 (po.toInt.toNat)).toInt = 0 then (x 117 ((8 * po.toInt + (k : Int)).toNat)) else 0))) ∧ (¬ (0 ≤ a.toInt ∧ a.toInt ≤ 7 ∧ 0 ≤ po.toInt ∧ po.toInt ≤ 3) → r.toInt = 0 ∧ Same TM x x2)) (WO D g) (AQ g)) ([.ref (g.1 89), .int a, .int po] : List Value).toArray s 0 0 (AQ g)) (F0 m 66 ls []) := by
    intro n0
    induction n0 with
    | zero => intro x_66 H locs ls y66_3 hI_66 hT_66 hE_66 hf66_0 hf66_1 hf66_2 hf66_3 hf66_4 hf66_5 hf66_6 hm_66 hP hS hl; exact absurd hm_66 (Nat.not_lt_zero _)
    | succ n0 ih66 =>
      intro x_66 H locs ls y66_3 hI_66 hT_66 hE_66 hf66_0 hf66_1 hf66_2 hf66_3 hf66_4 hf66_5 hf66_6 hm_66 hP hS hl
      refine lv_iload_n S.1 S.2.1 dX7_open_66 rfl (lv_at hl 3 rfl) ?_
      refine w_bipush S dX7_open_67 (by decide) (fun k23 hk23 => ?_)
      refine w_icmp_ge (tgt := 90) S dX7_open_69 (by decide) (fun hb24 => ?_) (fun hb24 => ?_)
      · exact J90 _ _ _ _ hI_66 hT_66 hE_66 (by omega) (by omega) (by intro k hk; first | (rw [if_pos (by omega)]; exact hf55_4 k hk) | (rw [if_neg (by omega), hf66_3 k hk, if_pos (by omega)])) (by omega) hP hS (lv_sub hl [0, 1, 2] rfl)
      · refine lv_aload_n S.1 S.2.1 dX7_open_72 rfl (lv_at hl 0 rfl) ?_
        refine w_get (C := RX7) (T := TX7) (N := 34) S (fun _ h => List.mem_cons_of_mem _ (List.mem_append_right _ h)) hK hP 89 (by decide) (ceK89 _) rfl 28 (by decide) (hts _ (List.mem_of_getElem? (i := 3) rfl)) (v := .ref (g.1 117)) rfl dX7_open_73 ?_
        refine w_bipush S dX7_open_76 (by decide) (fun k25 hk25 => ?_)
        refine lv_iload_n S.1 S.2.1 dX7_open_78 rfl (lv_at hl 2 rfl) ?_
        refine w_imulk S dX7_open_79 8 hk25 (by omega) (by omega) (fun v26 hv26 => ?_)
        refine lv_iload_n S.1 S.2.1 dX7_open_80 rfl (lv_at hl 3 rfl) ?_
        refine w_iadd S dX7_open_81 (by omega) (by omega) (fun v27 hv27 => ?_)
        obtain ⟨ix82, hix82⟩ : ∃ z, z = v27.toInt.toNat := ⟨_, rfl⟩
        refine w_iconst S dX7_open_82 (by decide) (fun k28 hk28 => ?_)
        have hv83 : k28 = 0 := t_eq.mpr (by rw [hk28]; rfl)
        refine w_zast S hK hg hP hS 117 (by decide) ceK117 (z01 (by omega) (by omega)) (by omega) (by omega) dX7_open_83 (fun x29 H locs ex29 hP hS => ?_)
        have hI30 : Inv x29 := by rw [ex29]; exact hI_66.up (show (0 : Int) ≤ _ by omega) (show _ ≤ (1 : Int) by omega)
        have hT31 : Same (TMo po.toInt.toNat) x x29 := by rw [ex29]; exact hT_66.up (by unfold TMo TM TrM; omega)
        have hE32 : Rel x29 := by rw [ex29]; exact Rel.oth hE_66 (by decide) (by decide)
        have u33 : (x29 89 (33)).toInt = (x_66 89 (33)).toInt := by rw [ex29, up2_ne _ _ (by omega)]
        have u34 : (x29 110 (po.toInt.toNat)).toInt = (x_66 110 (po.toInt.toNat)).toInt := by rw [ex29, up2_ne _ _ (by omega)]
        have u35 : (x29 108 (po.toInt.toNat)).toInt = (x_66 108 (po.toInt.toNat)).toInt := by rw [ex29, up2_ne _ _ (by omega)]
        have hp84 : ∀ k : Nat, k < 8 → (x29 117 ((8 * po.toInt + (k : Int)).toNat)) = if (k : Int) < y66_3.toInt + 1 then 0 else (x 117 ((8 * po.toInt + (k : Int)).toNat)) := by
          intro k hk
          rw [ex29]
          by_cases hk1 : (k : Int) = y66_3.toInt
          · rw [if_pos (by omega)]
            have e8 : (8 * po.toInt + (k : Int)).toNat = ix82 := by omega
            rw [e8, hix82, up2_at]; exact hv83
          · rw [up2_ne _ _ (by omega), hf66_3 k hk]
            by_cases hk2 : (k : Int) < y66_3.toInt
            · rw [if_pos hk2, if_pos (by omega)]
            · rw [if_neg hk2, if_neg (by omega)]
        refine w_iinc (lv' := [(0, .ref (g.1 89)), (1, .int a), (2, .int po)]) S dX7_open_84 hl (k := 3) rfl (by decide) (by decide) (by omega) (by omega) (fun _ => rfl) (fun v37 ls hv37 hl => ?_)
        refine lv_goto (tgt := 66) S.1 S.2.1 dX7_open_87 (by decide) ?_
        exact ih66 _ _ _ _ v37 hI30 hT31 hE32 (by omega) (by omega) (by omega) (by intro k hk; first | (rw [if_neg (by omega)]; exact hf55_4 k hk) | (rw [hp84 k hk]; by_cases h2 : (k : Int) < y66_3.toInt + 1; (rw [if_pos h2, if_pos (by omega)]); (rw [if_neg h2, if_neg (by omega)]))) (by omega) (by omega) (by omega) (by omega) hP hS (lv_sub hl [1, 2, 3, 0] rfl)
  have J55 : ∀ (x_55 : St) (H : Heap) (locs : List Loc) (ls : Array Slot), Inv x_55 → Same (TMo po.toInt.toNat) x x_55 → Rel x_55 → ((x_55 89 33).toInt = 0) → (((x 108 (po.toInt.toNat)).toInt ≠ 0 ∧ ((x 117 ((8 * po.toInt + a.toInt).toNat)).toInt = 0 ∨ (x 110 (po.toInt.toNat)).toInt ≠ 0))) → (0 ≤ a.toInt ∧ a.toInt ≤ 7 ∧ 0 ≤ po.toInt ∧ po.toInt ≤ 3) → ((x_55 110 (po.toInt.toNat)).toInt = (x 110 (po.toInt.toNat)).toInt) → (∀ k : Nat, k < 8 → (x_55 117 ((8 * po.toInt + (k : Int)).toNat)) = (x 117 ((8 * po.toInt + (k : Int)).toNat))) → va_P D vwCl (WL g x_55) H → va_S (AQ g) s.heap H locs → lv_has ls 4 [(0, .ref (g.1 89)), (1, .int a), (2, .int po)] → W p l e ({ frames := 1, cells := 0, slots := 0, locals := 20 } : Room) s m ([.ref (g.1 89), .int a, .int po] : List Value).toArray below meth co H locs 0 0 (MQ below (va_Qi (fun r x2 => Inv x2 ∧ Same (TMo po.toInt.toNat) x x2 ∧ Rel x2 ∧ (x2 89 33).toInt = 0 ∧ ((0 ≤ a.toInt ∧ a.toInt ≤ 7 ∧ 0 ≤ po.toInt ∧ po.toInt ≤ 3) → ((r.toInt = 0 ∧ Same TM x x2 ∧ ((x 108 (po.toInt.toNat)).toInt = 0 ∨ ((x 117 ((8 * po.toInt + a.toInt).toNat)).toInt ≠ 0 ∧ (x 110 (po.toInt.toNat)).toInt = 0))) ∨ (r.toInt = 1 ∧ ((x 108 (po.toInt.toNat)).toInt ≠ 0 ∧ ((x 117 ((8 * po.toInt + a.toInt).toNat)).toInt = 0 ∨ (x 110 (po.toInt.toNat)).toInt ≠ 0)) ∧ (x2 110 (po.toInt.toNat)).toInt = 0 ∧ ∀ k : Nat, k < 8 → (x2 117 ((8 * po.toInt + (k : Int)).toNat)) = if k = a.toInt.toNat then 1 else if (x 110 (po.toInt.toNat)).toInt = 0 then (x 117 ((8 * po.toInt + (k : Int)).toNat)) else 0))) ∧ (¬ (0 ≤ a.toInt ∧ a.toInt ≤ 7 ∧ 0 ≤ po.toInt ∧ po.toInt ≤ 3) → r.toInt = 0 ∧ Same TM x x2)) (WO D g) (AQ g)) ([.ref (g.1 89), .int a, .int po] : List Value).toArray s 0 0 (AQ g)) (F0 m 55 ls []) := by
    intro x_55 H locs ls hI_55 hT_55 hE_55 hf55_0 hf55_1 hf55_2 hf55_3 hf55_4 hP hS hl
    refine lv_aload_n S.1 S.2.1 dX7_open_55 rfl (lv_at hl 0 rfl) ?_
    refine w_get (C := RX7) (T := TX7) (N := 34) S (fun _ h => List.mem_cons_of_mem _ (List.mem_append_right _ h)) hK hP 89 (by decide) (ceK89 _) rfl 21 (by decide) (hts _ (List.mem_of_getElem? (i := 4) rfl)) (v := .ref (g.1 110)) rfl dX7_open_56 ?_
    refine lv_iload_n S.1 S.2.1 dX7_open_59 rfl (lv_at hl 2 rfl) ?_
    refine w_zald S hK hP 110 (by decide) ceK110 (by omega) (by omega) dX7_open_60 (fun v38 ev38 => ?_)
    have wv38 : v38.toInt = (x_55 110 po.toInt.toNat).toInt := by rw [ev38]
    have rv38 : (0 : Int) ≤ v38.toInt ∧ v38.toInt ≤ (1 : Int) := by rw [ev38]; exact hI_55 110 _
    refine w_if_eq (tgt := 90) S dX7_open_61 (by decide) (fun hb39 => ?_) (fun hb39 => ?_)
    · exact J90 _ _ _ _ hI_55 hT_55 hE_55 (by omega) (by omega) (by intro k hk; first | (rw [if_pos (by omega)]; exact hf55_4 k hk) | (rw [if_neg (by omega), hf66_3 k hk, if_pos (by omega)])) (by omega) hP hS (lv_sub hl [0, 1, 2] rfl)
    · refine w_iconst S dX7_open_64 (by decide) (fun k40 hk40 => ?_)
      refine lv_istore_n (lv' := [(3, .int k40), (0, .ref (g.1 89)), (1, .int a), (2, .int po)]) S.1 S.2.1 dX7_open_65 rfl hl (by decide) rfl (fun ls hl => ?_)
      exact J66 _ _ _ _ _ k40 hI_55 hT_55 hE_55 (by omega) (by omega) (by omega) (by intro k hk; first | (rw [if_neg (by omega)]; exact hf55_4 k hk) | (rw [hp84 k hk]; by_cases h2 : (k : Int) < y66_3.toInt + 1; (rw [if_pos h2, if_pos (by omega)]); (rw [if_neg h2, if_neg (by omega)]))) (by omega) (by omega) (by omega) (Nat.lt_succ_self _) hP hS (lv_sub hl [1, 2, 3, 0] rfl)
  refine lv_aload_n S.1 S.2.1 dX7_open_0 rfl (lv_at hl 0 rfl) ?_
  refine w_iconst S dX7_open_1 (by decide) (fun k41 hk41 => ?_)
  refine w_put (C := RX7) (T := TX7) (N := 34) (F := FMod g) S (fun _ h => List.mem_cons_of_mem _ (List.mem_append_right _ h)) tyX7_ok nmX7 hK hg hP hS 89 (by decide) ceK89 rfl 0 (by decide) (hts _ (List.mem_of_getElem? (i := 1) rfl)) rfl rfl rfl (fun _ => Nat.le_of_ble_eq_true rfl) (fun _ => rfl) dX7_open_2 (fun x42 H locs ex42 hP hS => ?_)
  have hI43 : Inv x42 := by rw [ex42]; exact hI.up (i_ge _) (i_le _)
  have hT44 : Same (TMo po.toInt.toNat) x x42 := by rw [ex42]; exact hT.up (by unfold TMo TM TrM; omega)
  have hE45 : Rel x42 := by rw [ex42]; exact Rel.oth hE (by decide) (by decide)
  have u46 : (x42 89 (33)).toInt = (x 89 (33)).toInt := by rw [ex42, up2_ne _ _ (by omega)]
  have u47 : (x42 110 (po.toInt.toNat)).toInt = (x 110 (po.toInt.toNat)).toInt := by rw [ex42, up2_ne _ _ (by omega)]
  have u48 : (x42 108 (po.toInt.toNat)).toInt = (x 108 (po.toInt.toNat)).toInt := by rw [ex42, up2_ne _ _ (by omega)]
  have u49 : (x42 117 ((8 * po.toInt + a.toInt).toNat)).toInt = (x 117 ((8 * po.toInt + a.toInt).toNat)).toInt := by rw [ex42, up2_ne _ _ (by omega)]
  have hm5 : Same TM x x42 := by rw [ex42]; exact Same.rf.up (by unfold TM TrM; omega)
  refine lv_iload_n S.1 S.2.1 dX7_open_5 rfl (lv_at hl 1 rfl) ?_
  refine w_cSi (As := [.int a]) (rest := []) S hK hN hP hS hl (c_X7_isProcess l D g hg x42 hI43 a) (va_cwS 1 hts gX7_open_X7_isProcess rfl rfl rfl (by decide +kernel) ⟨Nat.le_of_ble_eq_true rfl, Nat.le_of_ble_eq_true rfl⟩) rfl rfl (Nat.le_of_ble_eq_true rfl) dX7_open_6 ⟨Nat.zero_le _, Nat.zero_le _⟩ (fun r51 x50 H locs hq52 hP hS => ?_)
  obtain ⟨ex53, hf54⟩ := hq52
  rw [ex53] at hP
  refine w_if_eq (tgt := 28) S dX7_open_9 (by decide) (fun hb55 => ?_) (fun hb55 => ?_)
  · refine w_iconst S dX7_open_28 (by decide) (fun k56 hk56 => ?_)
    exact w_zret S hr0 hlk hP hS dX7_open_29 (z01 (by omega) (by omega)) (⟨hI43, hT44, hE45, by omega, fun hv => Or.inl ⟨by omega, hm5, by omega⟩, fun _ => ⟨by omega, hm5⟩⟩)
  · refine lv_iload_n S.1 S.2.1 dX7_open_12 rfl (lv_at hl 2 rfl) ?_
    refine w_cSi (As := [.int po]) (rest := []) S hK hN hP hS hl (c_X7_isPort l D g hg x42 hI43 po) (va_cwS 1 hts gX7_open_X7_isPort rfl rfl rfl (by decide +kernel) ⟨Nat.le_of_ble_eq_true rfl, Nat.le_of_ble_eq_true rfl⟩) rfl rfl (Nat.le_of_ble_eq_true rfl) dX7_open_13 ⟨Nat.zero_le _, Nat.zero_le _⟩ (fun r58 x57 H locs hq59 hP hS => ?_)
    obtain ⟨ex60, hf61⟩ := hq59
    rw [ex60] at hP
    refine w_if_eq (tgt := 28) S dX7_open_16 (by decide) (fun hb62 => ?_) (fun hb62 => ?_)
    · refine w_iconst S dX7_open_28 (by decide) (fun k63 hk63 => ?_)
      exact w_zret S hr0 hlk hP hS dX7_open_29 (z01 (by omega) (by omega)) (⟨hI43, hT44, hE45, by omega, fun hv => Or.inl ⟨by omega, hm5, by omega⟩, fun _ => ⟨by omega, hm5⟩⟩)
    · refine lv_aload_n S.1 S.2.1 dX7_open_19 rfl (lv_at hl 0 rfl) ?_
      refine w_get (C := RX7) (T := TX7) (N := 34) S (fun _ h => List.mem_cons_of_mem _ (List.mem_append_right _ h)) hK hP 89 (by decide) (ceK89 _) rfl 19 (by decide) (hts _ (List.mem_of_getElem? (i := 2) rfl)) (v := .ref (g.1 108)) rfl dX7_open_20 ?_
      refine lv_iload_n S.1 S.2.1 dX7_open_23 rfl (lv_at hl 2 rfl) ?_
      refine w_zald S hK hP 108 (by decide) ceK108 (by omega) (by omega) dX7_open_24 (fun v64 ev64 => ?_)
      have wv64 : v64.toInt = (x42 108 po.toInt.toNat).toInt := by rw [ev64]
      have rv64 : (0 : Int) ≤ v64.toInt ∧ v64.toInt ≤ (1 : Int) := by rw [ev64]; exact hI43 108 _
      refine w_if_ne (tgt := 30) S dX7_open_25 (by decide) (fun hb65 => ?_) (fun hb65 => ?_)
      · refine lv_aload_n S.1 S.2.1 dX7_open_30 rfl (lv_at hl 0 rfl) ?_
        refine w_get (C := RX7) (T := TX7) (N := 34) S (fun _ h => List.mem_cons_of_mem _ (List.mem_append_right _ h)) hK hP 89 (by decide) (ceK89 _) rfl 28 (by decide) (hts _ (List.mem_of_getElem? (i := 3) rfl)) (v := .ref (g.1 117)) rfl dX7_open_31 ?_
        refine w_bipush S dX7_open_34 (by decide) (fun k66 hk66 => ?_)
        refine lv_iload_n S.1 S.2.1 dX7_open_36 rfl (lv_at hl 2 rfl) ?_
        refine w_imulk S dX7_open_37 8 hk66 (by omega) (by omega) (fun v67 hv67 => ?_)
        refine lv_iload_n S.1 S.2.1 dX7_open_38 rfl (lv_at hl 1 rfl) ?_
        refine w_iadd S dX7_open_39 (by omega) (by omega) (fun v68 hv68 => ?_)
        have hix : v68.toInt.toNat = (8 * po.toInt + a.toInt).toNat := by omega
        refine w_zald S hK hP 117 (by decide) ceK117 (by omega) (by omega) dX7_open_40 (fun v69 ev69 => ?_)
        have wv69 : v69.toInt = (x42 117 v68.toInt.toNat).toInt := by rw [ev69]
        have rv69 : (0 : Int) ≤ v69.toInt ∧ v69.toInt ≤ (1 : Int) := by rw [ev69]; exact hI43 117 _
        rw [hix] at wv69
        refine w_if_eq (tgt := 55) S dX7_open_41 (by decide) (fun hb70 => ?_) (fun hb70 => ?_)
        · exact J55 _ _ _ _ hI43 hT44 hE45 (by omega) (by omega) (by omega) (by omega) (by intro k hk; exact hm5 _ _ (by unfold TM TrM; omega)) hP hS (lv_sub hl [0, 1, 2] rfl)
        · refine lv_aload_n S.1 S.2.1 dX7_open_44 rfl (lv_at hl 0 rfl) ?_
          refine w_get (C := RX7) (T := TX7) (N := 34) S (fun _ h => List.mem_cons_of_mem _ (List.mem_append_right _ h)) hK hP 89 (by decide) (ceK89 _) rfl 21 (by decide) (hts _ (List.mem_of_getElem? (i := 4) rfl)) (v := .ref (g.1 110)) rfl dX7_open_45 ?_
          refine lv_iload_n S.1 S.2.1 dX7_open_48 rfl (lv_at hl 2 rfl) ?_
          refine w_zald S hK hP 110 (by decide) ceK110 (by omega) (by omega) dX7_open_49 (fun v71 ev71 => ?_)
          have wv71 : v71.toInt = (x42 110 po.toInt.toNat).toInt := by rw [ev71]
          have rv71 : (0 : Int) ≤ v71.toInt ∧ v71.toInt ≤ (1 : Int) := by rw [ev71]; exact hI43 110 _
          refine w_if_ne (tgt := 55) S dX7_open_50 (by decide) (fun hb72 => ?_) (fun hb72 => ?_)
          · exact J55 _ _ _ _ hI43 hT44 hE45 (by omega) (by omega) (by omega) (by omega) (by intro k hk; exact hm5 _ _ (by unfold TM TrM; omega)) hP hS (lv_sub hl [0, 1, 2] rfl)
          · refine w_iconst S dX7_open_53 (by decide) (fun k73 hk73 => ?_)
            exact w_zret S hr0 hlk hP hS dX7_open_54 (z01 (by omega) (by omega)) (⟨hI43, hT44, hE45, by omega, fun hv => Or.inl ⟨by omega, hm5, by omega⟩, fun hv => absurd hv (by omega)⟩)
      · refine w_iconst S dX7_open_28 (by decide) (fun k74 hk74 => ?_)
        exact w_zret S hr0 hlk hP hS dX7_open_29 (z01 (by omega) (by omega)) (⟨hI43, hT44, hE45, by omega, fun hv => Or.inl ⟨by omega, hm5, by omega⟩, fun _ => ⟨by omega, hm5⟩⟩)
set_option maxRecDepth 100000 in
set_option maxHeartbeats 4000000 in
theorem c_X7_close (l : Launch) (D : va_G) (g : GA) (hg : Inj g) (x : St) (hI : Inv x) (hE : Rel x) (a : Int32) (po : Int32) (hy0 : (x 89 33).toInt = 0) : Met l yX7_close wsX7_close ({ frames := 1, cells := 0, slots := 0, locals := 20 } : Room) (va_Pc [.ref (g.1 89), .int a, .int po] (WI D g x)) (va_Qi (fun r x2 => Inv x2 ∧ Same (TMp (8 * po.toInt + a.toInt).toNat) x x2 ∧ Rel x2 ∧ (x2 89 33).toInt = 0 ∧ ((0 ≤ a.toInt ∧ a.toInt ≤ 7 ∧ 0 ≤ po.toInt ∧ po.toInt ≤ 3) → r.toInt = (x 117 ((8 * po.toInt + a.toInt).toNat)).toInt ∧ (x2 117 ((8 * po.toInt + a.toInt).toNat)).toInt = 0) ∧ (¬ (0 ≤ a.toInt ∧ a.toInt ≤ 7 ∧ 0 ≤ po.toInt ∧ po.toInt ≤ 3) → r.toInt = 0 ∧ Same TM x x2)) (WO D g) (AQ g)) 0 0 (AQ g) := by
  refine w_met (cc := cX7_close) (maxL := 3) (ret := (some .boolean)) (own := RX7) (by decide) rfl rfl (Nat.le_of_ble_eq_true rfl) (fun p e s m below meth co S hr0 hlk hK hN hP hS ls hl => ?_)
  have hts := S.2.2.2.2
  have hl : lv_has ls 3 [(0, .ref (g.1 89)), (1, .int a), (2, .int po)] := hl
  have hT : Same (TMp (8 * po.toInt + a.toInt).toNat) x x := Same.rf
  refine lv_aload_n S.1 S.2.1 dX7_close_0 rfl (lv_at hl 0 rfl) ?_
  refine w_iconst S dX7_close_1 (by decide) (fun k1 hk1 => ?_)
  refine w_put (C := RX7) (T := TX7) (N := 34) (F := FMod g) S (fun _ h => List.mem_cons_of_mem _ (List.mem_append_right _ h)) tyX7_ok nmX7 hK hg hP hS 89 (by decide) ceK89 rfl 0 (by decide) (hts _ (List.mem_of_getElem? (i := 1) rfl)) rfl rfl rfl (fun _ => Nat.le_of_ble_eq_true rfl) (fun _ => rfl) dX7_close_2 (fun x2 H locs ex2 hP hS => ?_)
  have hI3 : Inv x2 := by rw [ex2]; exact hI.up (i_ge _) (i_le _)
  have hT4 : Same (TMp (8 * po.toInt + a.toInt).toNat) x x2 := by rw [ex2]; exact hT.up (by unfold TMp TM TrM; omega)
  have hE5 : Rel x2 := by rw [ex2]; exact Rel.oth hE (by decide) (by decide)
  have u6 : (x2 89 (33)).toInt = (x 89 (33)).toInt := by rw [ex2, up2_ne _ _ (by omega)]
  have u7 : (x2 117 ((8 * po.toInt + a.toInt).toNat)).toInt = (x 117 ((8 * po.toInt + a.toInt).toNat)).toInt := by rw [ex2, up2_ne _ _ (by omega)]
  have hm5 : Same TM x x2 := by rw [ex2]; exact Same.rf.up (by unfold TM TrM; omega)
  refine lv_iload_n S.1 S.2.1 dX7_close_5 rfl (lv_at hl 1 rfl) ?_
  refine w_cSi (As := [.int a]) (rest := []) S hK hN hP hS hl (c_X7_isProcess l D g hg x2 hI3 a) (va_cwS 1 hts gX7_close_X7_isProcess rfl rfl rfl (by decide +kernel) ⟨Nat.le_of_ble_eq_true rfl, Nat.le_of_ble_eq_true rfl⟩) rfl rfl (Nat.le_of_ble_eq_true rfl) dX7_close_6 ⟨Nat.zero_le _, Nat.zero_le _⟩ (fun r9 x8 H locs hq10 hP hS => ?_)
  obtain ⟨ex11, hf12⟩ := hq10
  rw [ex11] at hP
  refine w_if_eq (tgt := 33) S dX7_close_9 (by decide) (fun hb13 => ?_) (fun hb13 => ?_)
  · refine w_iconst S dX7_close_33 (by decide) (fun k14 hk14 => ?_)
    exact w_zret S hr0 hlk hP hS dX7_close_34 (z01 (by omega) (by omega)) (⟨hI3, hT4, hE5, by omega, fun hv => ⟨by omega, by omega⟩, fun _ => ⟨by omega, hm5⟩⟩)
  · refine lv_iload_n S.1 S.2.1 dX7_close_12 rfl (lv_at hl 2 rfl) ?_
    refine w_cSi (As := [.int po]) (rest := []) S hK hN hP hS hl (c_X7_isPort l D g hg x2 hI3 po) (va_cwS 1 hts gX7_close_X7_isPort rfl rfl rfl (by decide +kernel) ⟨Nat.le_of_ble_eq_true rfl, Nat.le_of_ble_eq_true rfl⟩) rfl rfl (Nat.le_of_ble_eq_true rfl) dX7_close_13 ⟨Nat.zero_le _, Nat.zero_le _⟩ (fun r16 x15 H locs hq17 hP hS => ?_)
    obtain ⟨ex18, hf19⟩ := hq17
    rw [ex18] at hP
    refine w_if_eq (tgt := 33) S dX7_close_16 (by decide) (fun hb20 => ?_) (fun hb20 => ?_)
    · refine w_iconst S dX7_close_33 (by decide) (fun k21 hk21 => ?_)
      exact w_zret S hr0 hlk hP hS dX7_close_34 (z01 (by omega) (by omega)) (⟨hI3, hT4, hE5, by omega, fun hv => ⟨by omega, by omega⟩, fun _ => ⟨by omega, hm5⟩⟩)
    · refine lv_aload_n S.1 S.2.1 dX7_close_19 rfl (lv_at hl 0 rfl) ?_
      refine w_get (C := RX7) (T := TX7) (N := 34) S (fun _ h => List.mem_cons_of_mem _ (List.mem_append_right _ h)) hK hP 89 (by decide) (ceK89 _) rfl 28 (by decide) (hts _ (List.mem_of_getElem? (i := 2) rfl)) (v := .ref (g.1 117)) rfl dX7_close_20 ?_
      refine w_bipush S dX7_close_23 (by decide) (fun k22 hk22 => ?_)
      refine lv_iload_n S.1 S.2.1 dX7_close_25 rfl (lv_at hl 2 rfl) ?_
      refine w_imulk S dX7_close_26 8 hk22 (by omega) (by omega) (fun v23 hv23 => ?_)
      refine lv_iload_n S.1 S.2.1 dX7_close_27 rfl (lv_at hl 1 rfl) ?_
      refine w_iadd S dX7_close_28 (by omega) (by omega) (fun v24 hv24 => ?_)
      have hix : v24.toInt.toNat = (8 * po.toInt + a.toInt).toNat := by omega
      refine w_zald S hK hP 117 (by decide) ceK117 (by omega) (by omega) dX7_close_29 (fun v25 ev25 => ?_)
      have wv25 : v25.toInt = (x2 117 v24.toInt.toNat).toInt := by rw [ev25]
      have rv25 : (0 : Int) ≤ v25.toInt ∧ v25.toInt ≤ (1 : Int) := by rw [ev25]; exact hI3 117 _
      rw [hix] at wv25
      refine w_if_ne (tgt := 35) S dX7_close_30 (by decide) (fun hb26 => ?_) (fun hb26 => ?_)
      · refine lv_aload_n S.1 S.2.1 dX7_close_35 rfl (lv_at hl 0 rfl) ?_
        refine w_get (C := RX7) (T := TX7) (N := 34) S (fun _ h => List.mem_cons_of_mem _ (List.mem_append_right _ h)) hK hP 89 (by decide) (ceK89 _) rfl 28 (by decide) (hts _ (List.mem_of_getElem? (i := 2) rfl)) (v := .ref (g.1 117)) rfl dX7_close_36 ?_
        refine w_bipush S dX7_close_39 (by decide) (fun k27 hk27 => ?_)
        refine lv_iload_n S.1 S.2.1 dX7_close_41 rfl (lv_at hl 2 rfl) ?_
        refine w_imulk S dX7_close_42 8 hk27 (by omega) (by omega) (fun v28 hv28 => ?_)
        refine lv_iload_n S.1 S.2.1 dX7_close_43 rfl (lv_at hl 1 rfl) ?_
        refine w_iadd S dX7_close_44 (by omega) (by omega) (fun v29 hv29 => ?_)
        refine w_iconst S dX7_close_45 (by decide) (fun k30 hk30 => ?_)
        obtain ⟨ix46, hix46⟩ : ∃ z, z = v29.toInt.toNat := ⟨_, rfl⟩
        have hix46b : ix46 = (8 * po.toInt + a.toInt).toNat := by omega
        refine w_zast S hK hg hP hS 117 (by decide) ceK117 (z01 (by omega) (by omega)) (by omega) (by omega) dX7_close_46 (fun x31 H locs ex31 hP hS => ?_)
        have hI32 : Inv x31 := by rw [ex31]; exact hI3.up (show (0 : Int) ≤ _ by omega) (show _ ≤ (1 : Int) by omega)
        have hT33 : Same (TMp (8 * po.toInt + a.toInt).toNat) x x31 := by rw [ex31]; exact hT4.up (by unfold TMp TM TrM; omega)
        have hE34 : Rel x31 := by rw [ex31]; exact Rel.oth hE5 (by decide) (by decide)
        have u35 : (x31 89 (33)).toInt = (x2 89 (33)).toInt := by rw [ex31, up2_ne _ _ (by omega)]
        have hu47 : (x31 117 ((8 * po.toInt + a.toInt).toNat)).toInt = 0 := by rw [ex31, ← hix46, ← hix46b, up2_at]; omega
        refine w_iconst S dX7_close_47 (by decide) (fun k37 hk37 => ?_)
        exact w_zret S hr0 hlk hP hS dX7_close_48 (z01 (by omega) (by omega)) (⟨hI32, hT33, hE34, by omega, fun _ => ⟨by omega, by omega⟩, fun hv => absurd hv (by omega)⟩)
      · refine w_iconst S dX7_close_33 (by decide) (fun k38 hk38 => ?_)
        exact w_zret S hr0 hlk hP hS dX7_close_34 (z01 (by omega) (by omega)) (⟨hI3, hT4, hE5, by omega, fun hv => ⟨by omega, by omega⟩, fun _ => ⟨by omega, hm5⟩⟩)
set_option maxRecDepth 100000 in
set_option maxHeartbeats 4000000 in
theorem c_X7_write (l : Launch) (D : va_G) (g : GA) (hg : Inj g) (x : St) (hI : Inv x) (hE : Rel x) (a : Int32) (po : Int32) (b : Int32) (hy0 : (x 89 33).toInt = 0) : Met l yX7_write wsX7_write ({ frames := 2, cells := 0, slots := 0, locals := 44 } : Room) (va_Pc [.ref (g.1 89), .int a, .int po, .int b] (WI D g x)) (va_Qi (fun r x2 => Inv x2 ∧ Same TM x x2 ∧ Rel x2 ∧ (x2 89 33).toInt = 0 ∧ ((0 ≤ a.toInt ∧ a.toInt ≤ 7 ∧ 0 ≤ po.toInt ∧ po.toInt ≤ 3 ∧ 0 ≤ b.toInt ∧ b.toInt ≤ 255) → (x 117 ((8 * po.toInt + a.toInt).toNat)).toInt = 0 → r.toInt = -4) ∧ (¬ (0 ≤ a.toInt ∧ a.toInt ≤ 7 ∧ 0 ≤ po.toInt ∧ po.toInt ≤ 3 ∧ 0 ≤ b.toInt ∧ b.toInt ≤ 255) → r.toInt = -1)) (WO D g) (AQ g)) 0 0 (AQ g) := by
  refine w_met (cc := cX7_write) (maxL := 6) (ret := (some .int)) (own := RX7) (by decide) rfl rfl (Nat.le_of_ble_eq_true rfl) (fun p e s m below meth co S hr0 hlk hK hN hP hS ls hl => ?_)
  have hts := S.2.2.2.2
  have hl : lv_has ls 6 [(0, .ref (g.1 89)), (1, .int a), (2, .int po), (3, .int b)] := hl
  have hT : Same (TM) x x := Same.rf
  have J222 : ∀ (x_222 : St) (H : Heap) (locs : List Loc) (ls : Array Slot), Inv x_222 → Same (TM) x x_222 → Rel x_222 → ((x_222 89 33).toInt = 0) → ((x 117 ((8 * po.toInt + a.toInt).toNat)).toInt ≠ 0) → (0 ≤ a.toInt ∧ a.toInt ≤ 7 ∧ 0 ≤ po.toInt ∧ po.toInt ≤ 3 ∧ 0 ≤ b.toInt ∧ b.toInt ≤ 255) → va_P D vwCl (WL g x_222) H → va_S (AQ g) s.heap H locs → lv_has ls 6 [(0, .ref (g.1 89)), (1, .int a), (2, .int po), (3, .int b)] → W p l e ({ frames := 2, cells := 0, slots := 0, locals := 44 } : Room) s m ([.ref (g.1 89), .int a, .int po, .int b] : List Value).toArray below meth co H locs 0 0 (MQ below (va_Qi (fun r x2 => Inv x2 ∧ Same TM x x2 ∧ Rel x2 ∧ (x2 89 33).toInt = 0 ∧ ((0 ≤ a.toInt ∧ a.toInt ≤ 7 ∧ 0 ≤ po.toInt ∧ po.toInt ≤ 3 ∧ 0 ≤ b.toInt ∧ b.toInt ≤ 255) → (x 117 ((8 * po.toInt + a.toInt).toNat)).toInt = 0 → r.toInt = -4) ∧ (¬ (0 ≤ a.toInt ∧ a.toInt ≤ 7 ∧ 0 ≤ po.toInt ∧ po.toInt ≤ 3 ∧ 0 ≤ b.toInt ∧ b.toInt ≤ 255) → r.toInt = -1)) (WO D g) (AQ g)) ([.ref (g.1 89), .int a, .int po, .int b] : List Value).toArray s 0 0 (AQ g)) (F0 m 222 ls []) := by
    intro x_222 H locs ls hI_222 hT_222 hE_222 hf222_0 hf222_1 hf222_2 hP hS hl
    refine lv_aload_n S.1 S.2.1 dX7_write_222 rfl (lv_at hl 0 rfl) ?_
    refine lv_iload_n S.1 S.2.1 dX7_write_223 rfl (lv_at hl 2 rfl) ?_
    refine w_cVv (As := [.int po]) (rest := []) S hK hN hP hS hl 89 (by decide) (ceK89 _) rfl (c_X7_push l D g hg x_222 hI_222 hE_222 po (by omega)) (cwV 1 hts gX7_write_X7_push rfl rfl rfl (by decide +kernel) ⟨Nat.le_of_ble_eq_true rfl, Nat.le_of_ble_eq_true rfl⟩) rfl rfl (Nat.le_of_ble_eq_true rfl) dX7_write_224 ⟨Nat.zero_le _, Nat.zero_le _⟩ (fun x1 H locs hq3 hP hS => ?_)
    obtain ⟨hI4, hT5, hE7, hf6⟩ := hq3
    have hT8 : Same (TM) x x1 := hT_222.tr hT5 (fun _ _ h => h)
    have u9 : (x1 117 ((8 * po.toInt + a.toInt).toNat)).toInt = (x_222 117 ((8 * po.toInt + a.toInt).toNat)).toInt := by rw [hT5 117 ((8 * po.toInt + a.toInt).toNat) (by unfold TM TrM; omega)]
    refine w_iconst S dX7_write_227 (by decide) (fun k10 hk10 => ?_)
    exact w_iret S hr0 hlk hP hS dX7_write_228 (⟨hI4, hT8, hE7, by omega, by omega, by omega⟩)
  have J203 : ∀ (x_203 : St) (H : Heap) (locs : List Loc) (ls : Array Slot) (y203_4 : Int32), Inv x_203 → Same (TM) x x_203 → Rel x_203 → ((x_203 89 33).toInt = 0) → ((x 117 ((8 * po.toInt + a.toInt).toNat)).toInt ≠ 0) → (0 ≤ a.toInt ∧ a.toInt ≤ 7 ∧ 0 ≤ po.toInt ∧ po.toInt ≤ 3 ∧ 0 ≤ b.toInt ∧ b.toInt ≤ 255) → (1 ≤ y203_4.toInt) → ((x_203 100 (po.toInt.toNat)).toInt + y203_4.toInt ≤ 64) → va_P D vwCl (WL g x_203) H → va_S (AQ g) s.heap H locs → lv_has ls 6 [(0, .ref (g.1 89)), (1, .int a), (2, .int po), (3, .int b), (4, .int y203_4)] → W p l e ({ frames := 2, cells := 0, slots := 0, locals := 44 } : Room) s m ([.ref (g.1 89), .int a, .int po, .int b] : List Value).toArray below meth co H locs 0 0 (MQ below (va_Qi (fun r x2 => Inv x2 ∧ Same TM x x2 ∧ Rel x2 ∧ (x2 89 33).toInt = 0 ∧ ((0 ≤ a.toInt ∧ a.toInt ≤ 7 ∧ 0 ≤ po.toInt ∧ po.toInt ≤ 3 ∧ 0 ≤ b.toInt ∧ b.toInt ≤ 255) → (x 117 ((8 * po.toInt + a.toInt).toNat)).toInt = 0 → r.toInt = -4) ∧ (¬ (0 ≤ a.toInt ∧ a.toInt ≤ 7 ∧ 0 ≤ po.toInt ∧ po.toInt ≤ 3 ∧ 0 ≤ b.toInt ∧ b.toInt ≤ 255) → r.toInt = -1)) (WO D g) (AQ g)) ([.ref (g.1 89), .int a, .int po, .int b] : List Value).toArray s 0 0 (AQ g)) (F0 m 203 ls []) := by
    intro x_203 H locs ls y203_4 hI_203 hT_203 hE_203 hf203_0 hf203_1 hf203_2 hf203_3 hf203_4 hP hS hl
    refine lv_iload S.1 S.2.1 dX7_write_203 (lv_at hl 4 rfl) ?_
    refine w_iconst S dX7_write_205 (by decide) (fun k11 hk11 => ?_)
    refine w_icmp_ne (tgt := 216) S dX7_write_206 (by decide) (fun hb12 => ?_) (fun hb12 => ?_)
    · refine lv_aload_n S.1 S.2.1 dX7_write_216 rfl (lv_at hl 0 rfl) ?_
      refine lv_iload_n S.1 S.2.1 dX7_write_217 rfl (lv_at hl 2 rfl) ?_
      refine lv_iload_n S.1 S.2.1 dX7_write_218 rfl (lv_at hl 3 rfl) ?_
      refine w_cVv (As := [.int po, .int b]) (rest := []) S hK hN hP hS hl 89 (by decide) (ceK89 _) rfl (c_X7_give l D g hg x_203 hI_203 hE_203 po b (by omega) (by omega)) (cwV 2 hts gX7_write_X7_give rfl rfl rfl (by decide +kernel) ⟨Nat.le_of_ble_eq_true rfl, Nat.le_of_ble_eq_true rfl⟩) rfl rfl (Nat.le_of_ble_eq_true rfl) dX7_write_219 ⟨Nat.zero_le _, Nat.zero_le _⟩ (fun x13 H locs hq15 hP hS => ?_)
      obtain ⟨hI16, hT17, hE19, hf18⟩ := hq15
      have hT20 : Same (TM) x x13 := hT_203.tr hT17 (fun c0 k0 h => by unfold TM TrM at h; unfold TG; omega)
      have u21 : (x13 89 (33)).toInt = (x_203 89 (33)).toInt := by rw [hT17 89 (33) (by unfold TG; omega)]
      have u22 : (x13 117 ((8 * po.toInt + a.toInt).toNat)).toInt = (x_203 117 ((8 * po.toInt + a.toInt).toNat)).toInt := by rw [hT17 117 ((8 * po.toInt + a.toInt).toNat) (by unfold TG; omega)]
      exact J222 _ _ _ _ hI16 hT20 hE19 (by omega) (by omega) (by omega) hP hS (lv_sub hl [0, 1, 2, 3] rfl)
    · refine lv_aload_n S.1 S.2.1 dX7_write_209 rfl (lv_at hl 0 rfl) ?_
      refine lv_iload_n S.1 S.2.1 dX7_write_210 rfl (lv_at hl 2 rfl) ?_
      refine w_bipush S dX7_write_211 (by decide) (fun k23 hk23 => ?_)
      refine w_cVv (As := [.int po, .int k23]) (rest := []) S hK hN hP hS hl 89 (by decide) (ceK89 _) rfl (c_X7_give l D g hg x_203 hI_203 hE_203 po k23 (by omega) (by omega)) (cwV 2 hts gX7_write_X7_give rfl rfl rfl (by decide +kernel) ⟨Nat.le_of_ble_eq_true rfl, Nat.le_of_ble_eq_true rfl⟩) rfl rfl (Nat.le_of_ble_eq_true rfl) dX7_write_213 ⟨Nat.zero_le _, Nat.zero_le _⟩ (fun x24 H locs hq26 hP hS => ?_)
      obtain ⟨hI27, hT28, hE30, hf29⟩ := hq26
      have hT31 : Same (TM) x x24 := hT_203.tr hT28 (fun c0 k0 h => by unfold TM TrM at h; unfold TG; omega)
      have u32 : (x24 89 (33)).toInt = (x_203 89 (33)).toInt := by rw [hT28 89 (33) (by unfold TG; omega)]
      have u33 : (x24 117 ((8 * po.toInt + a.toInt).toNat)).toInt = (x_203 117 ((8 * po.toInt + a.toInt).toNat)).toInt := by rw [hT28 117 ((8 * po.toInt + a.toInt).toNat) (by unfold TG; omega)]
      refine lv_aload_n S.1 S.2.1 dX7_write_216 rfl (lv_at hl 0 rfl) ?_
      refine lv_iload_n S.1 S.2.1 dX7_write_217 rfl (lv_at hl 2 rfl) ?_
      refine lv_iload_n S.1 S.2.1 dX7_write_218 rfl (lv_at hl 3 rfl) ?_
      refine w_cVv (As := [.int po, .int b]) (rest := []) S hK hN hP hS hl 89 (by decide) (ceK89 _) rfl (c_X7_give l D g hg x24 hI27 hE30 po b (by omega) (by omega)) (cwV 2 hts gX7_write_X7_give rfl rfl rfl (by decide +kernel) ⟨Nat.le_of_ble_eq_true rfl, Nat.le_of_ble_eq_true rfl⟩) rfl rfl (Nat.le_of_ble_eq_true rfl) dX7_write_219 ⟨Nat.zero_le _, Nat.zero_le _⟩ (fun x34 H locs hq36 hP hS => ?_)
      obtain ⟨hI37, hT38, hE40, hf39⟩ := hq36
      have hT41 : Same (TM) x x34 := hT31.tr hT38 (fun c0 k0 h => by unfold TM TrM at h; unfold TG; omega)
      have u42 : (x34 89 (33)).toInt = (x24 89 (33)).toInt := by rw [hT38 89 (33) (by unfold TG; omega)]
      have u43 : (x34 117 ((8 * po.toInt + a.toInt).toNat)).toInt = (x24 117 ((8 * po.toInt + a.toInt).toNat)).toInt := by rw [hT38 117 ((8 * po.toInt + a.toInt).toNat) (by unfold TG; omega)]
      exact J222 _ _ _ _ hI37 hT41 hE40 (by omega) (by omega) (by omega) hP hS (lv_sub hl [0, 1, 2, 3] rfl)
  have J180 : ∀ (n0 : Nat) (x_180 : St) (H : Heap) (locs : List Loc) (ls : Array Slot) (y180_4 : Int32) (y180_5 : Int32), Inv x_180 → Same (TM) x x_180 → Rel x_180 → ((x_180 89 33).toInt = 0) → ((x 117 ((8 * po.toInt + a.toInt).toNat)).toInt ≠ 0) → (0 ≤ a.toInt ∧ a.toInt ≤ 7 ∧ 0 ≤ po.toInt ∧ po.toInt ≤ 3 ∧ 0 ≤ b.toInt ∧ b.toInt ≤ 255) → (0 ≤ y180_5.toInt) → (y180_5.toInt ≤ y180_4.toInt) → (y180_4.toInt ≤ 15) → ((x_180 100 (po.toInt.toNat)).toInt + y180_4.toInt - y180_5.toInt ≤ 64) → (y180_4.toInt - y180_5.toInt).toNat < n0 → va_P D vwCl (WL g x_180) H → va_S (AQ g) s.heap H locs → lv_has ls 6 [(0, .ref (g.1 89)), (1, .int a), (2, .int po), (3, .int b), (4, .int y180_4), (5, .int y180_5)] → W p l e ({ frames := 2, cells := 0, slots := 0, locals := 44 } : Room) s m ([.ref (g.1 89), .int a, .int po, .int b] : List Value).toArray below meth co H locs 0 0 (MQ below (va_Qi (fun r x2 => Inv x2 ∧ Same TM x x2 ∧ Rel x2 ∧ (x2 89 33).toInt = 0 ∧ ((0 ≤ a.toInt ∧ a.toInt ≤ 7 ∧ 0 ≤ po.toInt ∧ po.toInt ≤ 3 ∧ 0 ≤ b.toInt ∧ b.toInt ≤ 255) → (x 117 ((8 * po.toInt + a.toInt).toNat)).toInt = 0 → r.toInt = -4) ∧ (¬ (0 ≤ a.toInt ∧ a.toInt ≤ 7 ∧ 0 ≤ po.toInt ∧ po.toInt ≤ 3 ∧ 0 ≤ b.toInt ∧ b.toInt ≤ 255) → r.toInt = -1)) (WO D g) (AQ g)) ([.ref (g.1 89), .int a, .int po, .int b] : List Value).toArray s 0 0 (AQ g)) (F0 m 180 ls []) := by
    intro n0
    induction n0 with
    | zero => intro x_180 H locs ls y180_4 y180_5 hI_180 hT_180 hE_180 hf180_0 hf180_1 hf180_2 hf180_3 hf180_4 hf180_5 hf180_6 hm_180 hP hS hl; exact absurd hm_180 (Nat.not_lt_zero _)
    | succ n0 ih180 =>
      intro x_180 H locs ls y180_4 y180_5 hI_180 hT_180 hE_180 hf180_0 hf180_1 hf180_2 hf180_3 hf180_4 hf180_5 hf180_6 hm_180 hP hS hl
      refine lv_iload S.1 S.2.1 dX7_write_180 (lv_at hl 5 rfl) ?_
      refine lv_iload S.1 S.2.1 dX7_write_182 (lv_at hl 4 rfl) ?_
      refine w_icmp_ge (tgt := 200) S dX7_write_184 (by decide) (fun hb44 => ?_) (fun hb44 => ?_)
      · refine lv_goto (tgt := 222) S.1 S.2.1 dX7_write_200 (by decide) ?_
        exact J222 _ _ _ _ hI_180 hT_180 hE_180 (by omega) (by omega) (by omega) hP hS (lv_sub hl [0, 1, 2, 3] rfl)
      · refine lv_aload_n S.1 S.2.1 dX7_write_187 rfl (lv_at hl 0 rfl) ?_
        refine lv_iload_n S.1 S.2.1 dX7_write_188 rfl (lv_at hl 2 rfl) ?_
        refine w_bipush S dX7_write_189 (by decide) (fun k45 hk45 => ?_)
        refine w_cVv (As := [.int po, .int k45]) (rest := []) S hK hN hP hS hl 89 (by decide) (ceK89 _) rfl (c_X7_give l D g hg x_180 hI_180 hE_180 po k45 (by omega) (by omega)) (cwV 2 hts gX7_write_X7_give rfl rfl rfl (by decide +kernel) ⟨Nat.le_of_ble_eq_true rfl, Nat.le_of_ble_eq_true rfl⟩) rfl rfl (Nat.le_of_ble_eq_true rfl) dX7_write_191 ⟨Nat.zero_le _, Nat.zero_le _⟩ (fun x46 H locs hq48 hP hS => ?_)
        obtain ⟨hI49, hT50, hE52, hf51⟩ := hq48
        have hT53 : Same (TM) x x46 := hT_180.tr hT50 (fun c0 k0 h => by unfold TM TrM at h; unfold TG; omega)
        have u54 : (x46 89 (33)).toInt = (x_180 89 (33)).toInt := by rw [hT50 89 (33) (by unfold TG; omega)]
        have u55 : (x46 117 ((8 * po.toInt + a.toInt).toNat)).toInt = (x_180 117 ((8 * po.toInt + a.toInt).toNat)).toInt := by rw [hT50 117 ((8 * po.toInt + a.toInt).toNat) (by unfold TG; omega)]
        refine w_iinc (lv' := [(0, .ref (g.1 89)), (1, .int a), (2, .int po), (3, .int b), (4, .int y180_4)]) S dX7_write_194 hl (k := 5) rfl (by decide) (by decide) (by omega) (by omega) (fun _ => rfl) (fun v56 ls hv56 hl => ?_)
        refine lv_goto (tgt := 180) S.1 S.2.1 dX7_write_197 (by decide) ?_
        exact ih180 _ _ _ _ y180_4 v56 hI49 hT53 hE52 (by omega) (by omega) (by omega) (by omega) (by omega) (by omega) (by omega) (by omega) hP hS (lv_sub hl [1, 2, 3, 4, 5, 0] rfl)
  have J144 : ∀ (x_144 : St) (H : Heap) (locs : List Loc) (ls : Array Slot) (y144_4 : Int32), Inv x_144 → Same (TM) x x_144 → Rel x_144 → ((x_144 89 33).toInt = 0) → ((x 117 ((8 * po.toInt + a.toInt).toNat)).toInt ≠ 0) → (0 ≤ a.toInt ∧ a.toInt ≤ 7 ∧ 0 ≤ po.toInt ∧ po.toInt ≤ 3 ∧ 0 ≤ b.toInt ∧ b.toInt ≤ 255) → (1 ≤ y144_4.toInt ∧ y144_4.toInt ≤ 15) → va_P D vwCl (WL g x_144) H → va_S (AQ g) s.heap H locs → lv_has ls 6 [(0, .ref (g.1 89)), (1, .int a), (2, .int po), (3, .int b), (4, .int y144_4)] → W p l e ({ frames := 2, cells := 0, slots := 0, locals := 44 } : Room) s m ([.ref (g.1 89), .int a, .int po, .int b] : List Value).toArray below meth co H locs 0 0 (MQ below (va_Qi (fun r x2 => Inv x2 ∧ Same TM x x2 ∧ Rel x2 ∧ (x2 89 33).toInt = 0 ∧ ((0 ≤ a.toInt ∧ a.toInt ≤ 7 ∧ 0 ≤ po.toInt ∧ po.toInt ≤ 3 ∧ 0 ≤ b.toInt ∧ b.toInt ≤ 255) → (x 117 ((8 * po.toInt + a.toInt).toNat)).toInt = 0 → r.toInt = -4) ∧ (¬ (0 ≤ a.toInt ∧ a.toInt ≤ 7 ∧ 0 ≤ po.toInt ∧ po.toInt ≤ 3 ∧ 0 ≤ b.toInt ∧ b.toInt ≤ 255) → r.toInt = -1)) (WO D g) (AQ g)) ([.ref (g.1 89), .int a, .int po, .int b] : List Value).toArray s 0 0 (AQ g)) (F0 m 144 ls []) := by
    intro x_144 H locs ls y144_4 hI_144 hT_144 hE_144 hf144_0 hf144_1 hf144_2 hf144_3 hP hS hl
    refine lv_aload_n S.1 S.2.1 dX7_write_144 rfl (lv_at hl 0 rfl) ?_
    refine w_get (C := RX7) (T := TX7) (N := 34) S (fun _ h => List.mem_cons_of_mem _ (List.mem_append_right _ h)) hK hP 89 (by decide) (ceK89 _) rfl 11 (by decide) (hts _ (List.mem_of_getElem? (i := 6) rfl)) (v := .ref (g.1 100)) rfl dX7_write_145 ?_
    refine lv_iload_n S.1 S.2.1 dX7_write_148 rfl (lv_at hl 2 rfl) ?_
    refine w_iald S hK hP 100 (by decide) ceK100 (by omega) (by omega) dX7_write_149 (fun v57 ev57 => ?_)
    have wv57 : v57.toInt = (x_144 100 po.toInt.toNat).toInt := by rw [ev57]
    have rv57 : (0 : Int) ≤ v57.toInt ∧ v57.toInt ≤ (64 : Int) := by rw [ev57]; exact hI_144 100 _
    refine lv_iload S.1 S.2.1 dX7_write_150 (lv_at hl 4 rfl) ?_
    refine w_iadd S dX7_write_152 (by omega) (by omega) (fun v58 hv58 => ?_)
    refine w_bipush S dX7_write_153 (by decide) (fun k59 hk59 => ?_)
    refine w_icmp_le (tgt := 161) S dX7_write_155 (by decide) (fun hb60 => ?_) (fun hb60 => ?_)
    · refine lv_iload_n S.1 S.2.1 dX7_write_161 rfl (lv_at hl 3 rfl) ?_
      refine w_bipush S dX7_write_162 (by decide) (fun k61 hk61 => ?_)
      refine w_icmp_ne (tgt := 203) S dX7_write_164 (by decide) (fun hb62 => ?_) (fun hb62 => ?_)
      · exact J203 _ _ _ _ y144_4 hI_144 hT_144 hE_144 (by omega) (by omega) (by omega) (by omega) (by omega) hP hS (lv_sub hl [0, 1, 2, 3, 4] rfl)
      · refine lv_aload_n S.1 S.2.1 dX7_write_167 rfl (lv_at hl 0 rfl) ?_
        refine lv_iload_n S.1 S.2.1 dX7_write_168 rfl (lv_at hl 2 rfl) ?_
        refine w_bipush S dX7_write_169 (by decide) (fun k63 hk63 => ?_)
        refine w_cVi (As := [.int po, .int k63]) (rest := []) S hK hN hP hS hl 89 (by decide) (ceK89 _) rfl (c_X7_on l D g hg x_144 hI_144 po k63 (by omega) (by omega)) (cwV 2 hts gX7_write_X7_on rfl rfl rfl (by decide +kernel) ⟨Nat.le_of_ble_eq_true rfl, Nat.le_of_ble_eq_true rfl⟩) rfl rfl (Nat.le_of_ble_eq_true rfl) dX7_write_171 ⟨Nat.zero_le _, Nat.zero_le _⟩ (fun r65 x64 H locs hq66 hP hS => ?_)
        obtain ⟨ex67, hf68⟩ := hq66
        rw [ex67] at hP
        refine w_if_eq (tgt := 203) S dX7_write_174 (by decide) (fun hb69 => ?_) (fun hb69 => ?_)
        · exact J203 _ _ _ _ y144_4 hI_144 hT_144 hE_144 (by omega) (by omega) (by omega) (by omega) (by omega) hP hS (lv_sub hl [0, 1, 2, 3, 4] rfl)
        · refine w_iconst S dX7_write_177 (by decide) (fun k70 hk70 => ?_)
          refine lv_istore (lv' := [(5, .int k70), (0, .ref (g.1 89)), (1, .int a), (2, .int po), (3, .int b), (4, .int y144_4)]) S.1 S.2.1 dX7_write_178 hl (by decide) rfl (fun ls hl => ?_)
          exact J180 _ _ _ _ _ y144_4 k70 hI_144 hT_144 hE_144 (by omega) (by omega) (by omega) (by omega) (by omega) (by omega) (by omega) (Nat.lt_succ_self _) hP hS (lv_sub hl [1, 2, 3, 4, 5, 0] rfl)
    · refine w_bipush S dX7_write_158 (by decide) (fun k71 hk71 => ?_)
      exact w_iret S hr0 hlk hP hS dX7_write_160 (⟨hI_144, hT_144, hE_144, by omega, by omega, by omega⟩)
  have J114 : ∀ (x_114 : St) (H : Heap) (locs : List Loc) (ls : Array Slot) (y114_4 : Int32), Inv x_114 → Same (TM) x x_114 → Rel x_114 → ((x_114 89 33).toInt = 0) → ((x 117 ((8 * po.toInt + a.toInt).toNat)).toInt ≠ 0) → (0 ≤ a.toInt ∧ a.toInt ≤ 7 ∧ 0 ≤ po.toInt ∧ po.toInt ≤ 3 ∧ 0 ≤ b.toInt ∧ b.toInt ≤ 255) → (1 ≤ y114_4.toInt ∧ y114_4.toInt ≤ 2) → va_P D vwCl (WL g x_114) H → va_S (AQ g) s.heap H locs → lv_has ls 6 [(0, .ref (g.1 89)), (1, .int a), (2, .int po), (3, .int b), (4, .int y114_4)] → W p l e ({ frames := 2, cells := 0, slots := 0, locals := 44 } : Room) s m ([.ref (g.1 89), .int a, .int po, .int b] : List Value).toArray below meth co H locs 0 0 (MQ below (va_Qi (fun r x2 => Inv x2 ∧ Same TM x x2 ∧ Rel x2 ∧ (x2 89 33).toInt = 0 ∧ ((0 ≤ a.toInt ∧ a.toInt ≤ 7 ∧ 0 ≤ po.toInt ∧ po.toInt ≤ 3 ∧ 0 ≤ b.toInt ∧ b.toInt ≤ 255) → (x 117 ((8 * po.toInt + a.toInt).toNat)).toInt = 0 → r.toInt = -4) ∧ (¬ (0 ≤ a.toInt ∧ a.toInt ≤ 7 ∧ 0 ≤ po.toInt ∧ po.toInt ≤ 3 ∧ 0 ≤ b.toInt ∧ b.toInt ≤ 255) → r.toInt = -1)) (WO D g) (AQ g)) ([.ref (g.1 89), .int a, .int po, .int b] : List Value).toArray s 0 0 (AQ g)) (F0 m 114 ls []) := by
    intro x_114 H locs ls y114_4 hI_114 hT_114 hE_114 hf114_0 hf114_1 hf114_2 hf114_3 hP hS hl
    refine lv_iload_n S.1 S.2.1 dX7_write_114 rfl (lv_at hl 3 rfl) ?_
    refine w_bipush S dX7_write_115 (by decide) (fun k72 hk72 => ?_)
    refine w_icmp_ne (tgt := 144) S dX7_write_117 (by decide) (fun hb73 => ?_) (fun hb73 => ?_)
    · exact J144 _ _ _ _ y114_4 hI_114 hT_114 hE_114 (by omega) (by omega) (by omega) (by omega) hP hS (lv_sub hl [0, 1, 2, 3, 4] rfl)
    · refine lv_aload_n S.1 S.2.1 dX7_write_120 rfl (lv_at hl 0 rfl) ?_
      refine lv_iload_n S.1 S.2.1 dX7_write_121 rfl (lv_at hl 2 rfl) ?_
      refine w_bipush S dX7_write_122 (by decide) (fun k74 hk74 => ?_)
      refine w_cVi (As := [.int po, .int k74]) (rest := []) S hK hN hP hS hl 89 (by decide) (ceK89 _) rfl (c_X7_on l D g hg x_114 hI_114 po k74 (by omega) (by omega)) (cwV 2 hts gX7_write_X7_on rfl rfl rfl (by decide +kernel) ⟨Nat.le_of_ble_eq_true rfl, Nat.le_of_ble_eq_true rfl⟩) rfl rfl (Nat.le_of_ble_eq_true rfl) dX7_write_124 ⟨Nat.zero_le _, Nat.zero_le _⟩ (fun r76 x75 H locs hq77 hP hS => ?_)
      obtain ⟨ex78, hf79⟩ := hq77
      rw [ex78] at hP
      refine w_if_eq (tgt := 144) S dX7_write_127 (by decide) (fun hb80 => ?_) (fun hb80 => ?_)
      · exact J144 _ _ _ _ y114_4 hI_114 hT_114 hE_114 (by omega) (by omega) (by omega) (by omega) hP hS (lv_sub hl [0, 1, 2, 3, 4] rfl)
      · refine w_bipush S dX7_write_130 (by decide) (fun k81 hk81 => ?_)
        refine lv_aload_n S.1 S.2.1 dX7_write_132 rfl (lv_at hl 0 rfl) ?_
        refine w_get (C := RX7) (T := TX7) (N := 34) S (fun _ h => List.mem_cons_of_mem _ (List.mem_append_right _ h)) hK hP 89 (by decide) (ceK89 _) rfl 16 (by decide) (hts _ (List.mem_of_getElem? (i := 5) rfl)) (v := .ref (g.1 105)) rfl dX7_write_133 ?_
        refine lv_iload_n S.1 S.2.1 dX7_write_136 rfl (lv_at hl 2 rfl) ?_
        refine w_iald S hK hP 105 (by decide) ceK105 (by omega) (by omega) dX7_write_137 (fun v82 ev82 => ?_)
        have wv82 : v82.toInt = (x_114 105 po.toInt.toNat).toInt := by rw [ev82]
        refine w_bipush S dX7_write_138 (by decide) (fun k83 hk83 => ?_)
        refine lv_irem S.1 S.2.1 dX7_write_140 (by intro e0; rw [e0] at hk83; exact absurd hk83 (by decide)) ?_
        refine lv_topi (fun v84 hv84 => ?_)
        have hmv84 := t_rem8 hv84 hk83
        refine w_isub S dX7_write_141 (by omega) (by omega) (fun v85 hv85 => ?_)
        refine lv_istore (lv' := [(4, .int v85), (0, .ref (g.1 89)), (1, .int a), (2, .int po), (3, .int b)]) S.1 S.2.1 dX7_write_142 hl (by decide) rfl (fun ls hl => ?_)
        exact J144 _ _ _ _ v85 hI_114 hT_114 hE_114 (by omega) (by omega) (by omega) (by omega) hP hS (lv_sub hl [1, 2, 3, 4, 0] rfl)
  have J92 : ∀ (x_92 : St) (H : Heap) (locs : List Loc) (ls : Array Slot), Inv x_92 → Same (TM) x x_92 → Rel x_92 → ((x_92 89 33).toInt = 0) → ((x 117 ((8 * po.toInt + a.toInt).toNat)).toInt ≠ 0) → (0 ≤ a.toInt ∧ a.toInt ≤ 7 ∧ 0 ≤ po.toInt ∧ po.toInt ≤ 3 ∧ 0 ≤ b.toInt ∧ b.toInt ≤ 255) → va_P D vwCl (WL g x_92) H → va_S (AQ g) s.heap H locs → lv_has ls 6 [(0, .ref (g.1 89)), (1, .int a), (2, .int po), (3, .int b)] → W p l e ({ frames := 2, cells := 0, slots := 0, locals := 44 } : Room) s m ([.ref (g.1 89), .int a, .int po, .int b] : List Value).toArray below meth co H locs 0 0 (MQ below (va_Qi (fun r x2 => Inv x2 ∧ Same TM x x2 ∧ Rel x2 ∧ (x2 89 33).toInt = 0 ∧ ((0 ≤ a.toInt ∧ a.toInt ≤ 7 ∧ 0 ≤ po.toInt ∧ po.toInt ≤ 3 ∧ 0 ≤ b.toInt ∧ b.toInt ≤ 255) → (x 117 ((8 * po.toInt + a.toInt).toNat)).toInt = 0 → r.toInt = -4) ∧ (¬ (0 ≤ a.toInt ∧ a.toInt ≤ 7 ∧ 0 ≤ po.toInt ∧ po.toInt ≤ 3 ∧ 0 ≤ b.toInt ∧ b.toInt ≤ 255) → r.toInt = -1)) (WO D g) (AQ g)) ([.ref (g.1 89), .int a, .int po, .int b] : List Value).toArray s 0 0 (AQ g)) (F0 m 92 ls []) := by
    intro x_92 H locs ls hI_92 hT_92 hE_92 hf92_0 hf92_1 hf92_2 hP hS hl
    refine w_iconst S dX7_write_92 (by decide) (fun k86 hk86 => ?_)
    refine lv_istore (lv' := [(4, .int k86), (0, .ref (g.1 89)), (1, .int a), (2, .int po), (3, .int b)]) S.1 S.2.1 dX7_write_93 hl (by decide) rfl (fun ls hl => ?_)
    refine lv_iload_n S.1 S.2.1 dX7_write_95 rfl (lv_at hl 4 rfl) ?_
    refine w_bipush S dX7_write_96 (by decide) (fun k87 hk87 => ?_)
    refine w_icmp_ne (tgt := 114) S dX7_write_98 (by decide) (fun hb88 => ?_) (fun hb88 => ?_)
    · exact J114 _ _ _ _ k86 hI_92 hT_92 hE_92 (by omega) (by omega) (by omega) (by omega) hP hS (lv_sub hl [1, 2, 3, 4, 0] rfl)
    · refine lv_aload_n S.1 S.2.1 dX7_write_101 rfl (lv_at hl 1 rfl) ?_
      refine lv_iload_n S.1 S.2.1 dX7_write_102 rfl (lv_at hl 3 rfl) ?_
      refine w_bipush S dX7_write_103 (by decide) (fun k89 hk89 => ?_)
      refine w_cVi (As := [.int po, .int k89]) (rest := []) S hK hN hP hS hl 89 (by decide) (ceK89 _) rfl (c_X7_on l D g hg x_92 hI_92 po k89 (by omega) (by omega)) (cwV 2 hts gX7_write_X7_on rfl rfl rfl (by decide +kernel) ⟨Nat.le_of_ble_eq_true rfl, Nat.le_of_ble_eq_true rfl⟩) rfl rfl (Nat.le_of_ble_eq_true rfl) dX7_write_105 ⟨Nat.zero_le _, Nat.zero_le _⟩ (fun r91 x90 H locs hq92 hP hS => ?_)
      obtain ⟨ex93, hf94⟩ := hq92
      rw [ex93] at hP
      refine w_if_eq (tgt := 114) S dX7_write_108 (by decide) (fun hb95 => ?_) (fun hb95 => ?_)
      · exact J114 _ _ _ _ k86 hI_92 hT_92 hE_92 (by omega) (by omega) (by omega) (by omega) hP hS (lv_sub hl [1, 2, 3, 4, 0] rfl)
      · refine w_iconst S dX7_write_111 (by decide) (fun k96 hk96 => ?_)
        refine lv_istore (lv' := [(4, .int k96), (0, .ref (g.1 89)), (1, .int a), (2, .int po), (3, .int b)]) S.1 S.2.1 dX7_write_112 hl (by decide) rfl (fun ls hl => ?_)
        exact J114 _ _ _ _ k96 hI_92 hT_92 hE_92 (by omega) (by omega) (by omega) (by omega) hP hS (lv_sub hl [1, 2, 3, 4, 0] rfl)
  refine lv_aload_n S.1 S.2.1 dX7_write_0 rfl (lv_at hl 0 rfl) ?_
  refine w_iconst S dX7_write_1 (by decide) (fun k97 hk97 => ?_)
  refine w_put (C := RX7) (T := TX7) (N := 34) (F := FMod g) S (fun _ h => List.mem_cons_of_mem _ (List.mem_append_right _ h)) tyX7_ok nmX7 hK hg hP hS 89 (by decide) ceK89 rfl 0 (by decide) (hts _ (List.mem_of_getElem? (i := 1) rfl)) rfl rfl rfl (fun _ => Nat.le_of_ble_eq_true rfl) (fun _ => rfl) dX7_write_2 (fun x98 H locs ex98 hP hS => ?_)
  have hI99 : Inv x98 := by rw [ex98]; exact hI.up (i_ge _) (i_le _)
  have hT100 : Same (TM) x x98 := by rw [ex98]; exact hT.up (by unfold TM TrM; omega)
  have hE101 : Rel x98 := by rw [ex98]; exact Rel.oth hE (by decide) (by decide)
  have u102 : (x98 89 (33)).toInt = (x 89 (33)).toInt := by rw [ex98, up2_ne _ _ (by omega)]
  have u103 : (x98 117 ((8 * po.toInt + a.toInt).toNat)).toInt = (x 117 ((8 * po.toInt + a.toInt).toNat)).toInt := by rw [ex98, up2_ne _ _ (by omega)]
  have u104 : (x98 100 (po.toInt.toNat)).toInt = (x 100 (po.toInt.toNat)).toInt := by rw [ex98, up2_ne _ _ (by omega)]
  refine lv_iload_n S.1 S.2.1 dX7_write_5 rfl (lv_at hl 1 rfl) ?_
  refine w_cSi (As := [.int a]) (rest := []) S hK hN hP hS hl (c_X7_isProcess l D g hg x98 hI99 a) (va_cwS 1 hts gX7_write_X7_isProcess rfl rfl rfl (by decide +kernel) ⟨Nat.le_of_ble_eq_true rfl, Nat.le_of_ble_eq_true rfl⟩) rfl rfl (Nat.le_of_ble_eq_true rfl) dX7_write_6 ⟨Nat.zero_le _, Nat.zero_le _⟩ (fun r106 x105 H locs hq107 hP hS => ?_)
  obtain ⟨ex108, hf109⟩ := hq107
  rw [ex108] at hP
  refine w_if_eq (tgt := 30) S dX7_write_9 (by decide) (fun hb110 => ?_) (fun hb110 => ?_)
  · refine w_iconst S dX7_write_30 (by decide) (fun k111 hk111 => ?_)
    exact w_iret S hr0 hlk hP hS dX7_write_31 (⟨hI99, hT100, hE101, by omega, by omega, by omega⟩)
  · refine lv_iload_n S.1 S.2.1 dX7_write_12 rfl (lv_at hl 2 rfl) ?_
    refine w_cSi (As := [.int po]) (rest := []) S hK hN hP hS hl (c_X7_isPort l D g hg x98 hI99 po) (va_cwS 1 hts gX7_write_X7_isPort rfl rfl rfl (by decide +kernel) ⟨Nat.le_of_ble_eq_true rfl, Nat.le_of_ble_eq_true rfl⟩) rfl rfl (Nat.le_of_ble_eq_true rfl) dX7_write_13 ⟨Nat.zero_le _, Nat.zero_le _⟩ (fun r113 x112 H locs hq114 hP hS => ?_)
    obtain ⟨ex115, hf116⟩ := hq114
    rw [ex115] at hP
    refine w_if_eq (tgt := 30) S dX7_write_16 (by decide) (fun hb117 => ?_) (fun hb117 => ?_)
    · refine w_iconst S dX7_write_30 (by decide) (fun k118 hk118 => ?_)
      exact w_iret S hr0 hlk hP hS dX7_write_31 (⟨hI99, hT100, hE101, by omega, by omega, by omega⟩)
    · refine lv_iload_n S.1 S.2.1 dX7_write_19 rfl (lv_at hl 3 rfl) ?_
      refine w_if_lt (tgt := 30) S dX7_write_20 (by decide) (fun hb119 => ?_) (fun hb119 => ?_)
      · refine w_iconst S dX7_write_30 (by decide) (fun k120 hk120 => ?_)
        exact w_iret S hr0 hlk hP hS dX7_write_31 (⟨hI99, hT100, hE101, by omega, by omega, by omega⟩)
      · refine lv_iload_n S.1 S.2.1 dX7_write_23 rfl (lv_at hl 3 rfl) ?_
        refine w_sipush S dX7_write_24 (by decide) (fun k121 hk121 => ?_)
        refine w_icmp_le (tgt := 32) S dX7_write_27 (by decide) (fun hb122 => ?_) (fun hb122 => ?_)
        · refine lv_aload_n S.1 S.2.1 dX7_write_32 rfl (lv_at hl 0 rfl) ?_
          refine w_get (C := RX7) (T := TX7) (N := 34) S (fun _ h => List.mem_cons_of_mem _ (List.mem_append_right _ h)) hK hP 89 (by decide) (ceK89 _) rfl 28 (by decide) (hts _ (List.mem_of_getElem? (i := 2) rfl)) (v := .ref (g.1 117)) rfl dX7_write_33 ?_
          refine w_bipush S dX7_write_36 (by decide) (fun k123 hk123 => ?_)
          refine lv_iload_n S.1 S.2.1 dX7_write_38 rfl (lv_at hl 2 rfl) ?_
          refine w_imulk S dX7_write_39 8 hk123 (by omega) (by omega) (fun v124 hv124 => ?_)
          refine lv_iload_n S.1 S.2.1 dX7_write_40 rfl (lv_at hl 1 rfl) ?_
          refine w_iadd S dX7_write_41 (by omega) (by omega) (fun v125 hv125 => ?_)
          have hix : v125.toInt.toNat = (8 * po.toInt + a.toInt).toNat := by omega
          refine w_zald S hK hP 117 (by decide) ceK117 (by omega) (by omega) dX7_write_42 (fun v126 ev126 => ?_)
          have wv126 : v126.toInt = (x98 117 v125.toInt.toNat).toInt := by rw [ev126]
          have rv126 : (0 : Int) ≤ v126.toInt ∧ v126.toInt ≤ (1 : Int) := by rw [ev126]; exact hI99 117 _
          rw [hix] at wv126
          refine w_if_eq (tgt := 55) S dX7_write_43 (by decide) (fun hb127 => ?_) (fun hb127 => ?_)
          · refine w_bipush S dX7_write_55 (by decide) (fun k128 hk128 => ?_)
            exact w_iret S hr0 hlk hP hS dX7_write_57 (⟨hI99, hT100, hE101, by omega, by omega, by omega⟩)
          · refine lv_aload_n S.1 S.2.1 dX7_write_46 rfl (lv_at hl 0 rfl) ?_
            refine w_get (C := RX7) (T := TX7) (N := 34) S (fun _ h => List.mem_cons_of_mem _ (List.mem_append_right _ h)) hK hP 89 (by decide) (ceK89 _) rfl 21 (by decide) (hts _ (List.mem_of_getElem? (i := 3) rfl)) (v := .ref (g.1 110)) rfl dX7_write_47 ?_
            refine lv_iload_n S.1 S.2.1 dX7_write_50 rfl (lv_at hl 2 rfl) ?_
            refine w_zald S hK hP 110 (by decide) ceK110 (by omega) (by omega) dX7_write_51 (fun v129 ev129 => ?_)
            have wv129 : v129.toInt = (x98 110 po.toInt.toNat).toInt := by rw [ev129]
            have rv129 : (0 : Int) ≤ v129.toInt ∧ v129.toInt ≤ (1 : Int) := by rw [ev129]; exact hI99 110 _
            refine w_if_eq (tgt := 58) S dX7_write_52 (by decide) (fun hb130 => ?_) (fun hb130 => ?_)
            · refine lv_aload_n S.1 S.2.1 dX7_write_58 rfl (lv_at hl 0 rfl) ?_
              refine lv_iload_n S.1 S.2.1 dX7_write_59 rfl (lv_at hl 1 rfl) ?_
              refine lv_iload_n S.1 S.2.1 dX7_write_60 rfl (lv_at hl 2 rfl) ?_
              refine w_cVi (As := [.int a, .int po]) (rest := []) S hK hN hP hS hl 89 (by decide) (ceK89 _) rfl (c_X7_isBehind l D g hg x98 hI99 a po (by omega) (by omega)) (cwV 2 hts gX7_write_X7_isBehind rfl rfl rfl (by decide +kernel) ⟨Nat.le_of_ble_eq_true rfl, Nat.le_of_ble_eq_true rfl⟩) rfl rfl (Nat.le_of_ble_eq_true rfl) dX7_write_61 ⟨Nat.zero_le _, Nat.zero_le _⟩ (fun r132 x131 H locs hq133 hP hS => ?_)
              obtain ⟨ex134, hf135⟩ := hq133
              rw [ex134] at hP
              refine w_if_eq (tgt := 92) S dX7_write_64 (by decide) (fun hb136 => ?_) (fun hb136 => ?_)
              · exact J92 _ _ _ _ hI99 hT100 hE101 (by omega) (by omega) (by omega) hP hS (lv_sub hl [0, 1, 2, 3] rfl)
              · refine lv_aload_n S.1 S.2.1 dX7_write_67 rfl (lv_at hl 0 rfl) ?_
                refine lv_iload_n S.1 S.2.1 dX7_write_68 rfl (lv_at hl 2 rfl) ?_
                refine w_bipush S dX7_write_69 (by decide) (fun k137 hk137 => ?_)
                refine w_cVi (As := [.int po, .int k137]) (rest := []) S hK hN hP hS hl 89 (by decide) (ceK89 _) rfl (c_X7_on l D g hg x98 hI99 po k137 (by omega) (by omega)) (cwV 2 hts gX7_write_X7_on rfl rfl rfl (by decide +kernel) ⟨Nat.le_of_ble_eq_true rfl, Nat.le_of_ble_eq_true rfl⟩) rfl rfl (Nat.le_of_ble_eq_true rfl) dX7_write_71 ⟨Nat.zero_le _, Nat.zero_le _⟩ (fun r139 x138 H locs hq140 hP hS => ?_)
                obtain ⟨ex141, hf142⟩ := hq140
                rw [ex141] at hP
                refine w_if_eq (tgt := 92) S dX7_write_74 (by decide) (fun hb143 => ?_) (fun hb143 => ?_)
                · exact J92 _ _ _ _ hI99 hT100 hE101 (by omega) (by omega) (by omega) hP hS (lv_sub hl [0, 1, 2, 3] rfl)
                · refine lv_aload_n S.1 S.2.1 dX7_write_77 rfl (lv_at hl 0 rfl) ?_
                  refine lv_aload_n S.1 S.2.1 dX7_write_78 rfl (lv_at hl 0 rfl) ?_
                  refine w_get (C := RX7) (T := TX7) (N := 34) S (fun _ h => List.mem_cons_of_mem _ (List.mem_append_right _ h)) hK hP 89 (by decide) (ceK89 _) rfl 29 (by decide) (hts _ (List.mem_of_getElem? (i := 4) rfl)) (v := .ref (g.1 118)) rfl dX7_write_79 ?_
                  refine lv_iload_n S.1 S.2.1 dX7_write_82 rfl (lv_at hl 1 rfl) ?_
                  refine w_iald S hK hP 118 (by decide) ceK118 (by omega) (by omega) dX7_write_83 (fun v144 ev144 => ?_)
                  have wv144 : v144.toInt = (x98 118 a.toInt.toNat).toInt := by rw [ev144]
                  refine w_bipush S dX7_write_84 (by decide) (fun k145 hk145 => ?_)
                  refine w_cVv (As := [.int v144, .int k145]) (rest := []) S hK hN hP hS hl 89 (by decide) (ceK89 _) rfl (c_X7_raise l D g hg x98 hI99 hE101 v144 k145) (cwV 2 hts gX7_write_X7_raise rfl rfl rfl (by decide +kernel) ⟨Nat.le_of_ble_eq_true rfl, Nat.le_of_ble_eq_true rfl⟩) rfl rfl (Nat.le_of_ble_eq_true rfl) dX7_write_86 ⟨Nat.zero_le _, Nat.zero_le _⟩ (fun x146 H locs hq148 hP hS => ?_)
                  obtain ⟨hI149, hT150, hE152, hf151⟩ := hq148
                  have hT153 : Same (TM) x x146 := hT100.tr hT150 (fun _ _ h => h)
                  have u154 : (x146 117 ((8 * po.toInt + a.toInt).toNat)).toInt = (x98 117 ((8 * po.toInt + a.toInt).toNat)).toInt := by rw [hT150 117 ((8 * po.toInt + a.toInt).toNat) (by unfold TM TrM; omega)]
                  refine w_bipush S dX7_write_89 (by decide) (fun k155 hk155 => ?_)
                  exact w_iret S hr0 hlk hP hS dX7_write_91 (⟨hI149, hT153, hE152, by omega, by omega, by omega⟩)
            · refine w_bipush S dX7_write_55 (by decide) (fun k156 hk156 => ?_)
              exact w_iret S hr0 hlk hP hS dX7_write_57 (⟨hI99, hT100, hE101, by omega, by omega, by omega⟩)
        · refine w_iconst S dX7_write_30 (by decide) (fun k157 hk157 => ?_)
          exact w_iret S hr0 hlk hP hS dX7_write_31 (⟨hI99, hT100, hE101, by omega, by omega, by omega⟩)
set_option maxRecDepth 100000 in
set_option maxHeartbeats 4000000 in
theorem c_X7_read (l : Launch) (D : va_G) (g : GA) (hg : Inj g) (x : St) (hI : Inv x) (hE : Rel x) (a : Int32) (po : Int32) (hy0 : (x 89 33).toInt = 0) : Met l yX7_read wsX7_read ({ frames := 7, cells := 0, slots := 0, locals := 159 } : Room) (va_Pc [.ref (g.1 89), .int a, .int po] (WI D g x)) (va_Qi (fun r x2 => Inv x2 ∧ Same (TMr po.toInt.toNat) x x2 ∧ Rel x2 ∧ (x2 89 33).toInt = 0 ∧ ((0 ≤ a.toInt ∧ a.toInt ≤ 7 ∧ 0 ≤ po.toInt ∧ po.toInt ≤ 3) → (x2 93 (po.toInt.toNat)).toInt = 0 ∧ ((x 117 ((8 * po.toInt + a.toInt).toNat)).toInt = 0 → r.toInt = -4)) ∧ (¬ (0 ≤ a.toInt ∧ a.toInt ≤ 7 ∧ 0 ≤ po.toInt ∧ po.toInt ≤ 3) → r.toInt = -1 ∧ Same TM x x2)) (WO D g) (AQ g)) 0 0 (AQ g) := by
  refine w_met (cc := cX7_read) (maxL := 5) (ret := (some .int)) (own := RX7) (by decide) rfl rfl (Nat.le_of_ble_eq_true rfl) (fun p e s m below meth co S hr0 hlk hK hN hP hS ls hl => ?_)
  have hts := S.2.2.2.2
  have hl : lv_has ls 5 [(0, .ref (g.1 89)), (1, .int a), (2, .int po)] := hl
  have hT : Same (TMr po.toInt.toNat) x x := Same.rf
  have J109 : ∀ (n0 : Nat) (x_109 : St) (H : Heap) (locs : List Loc) (ls : Array Slot) (y109_3 : Int32) (y109_4 : Int32), Inv x_109 → Same (TMr po.toInt.toNat) x x_109 → Rel x_109 → (0 ≤ y109_4.toInt) → (y109_4.toInt ≤ 65) → ((x_109 96 (po.toInt.toNat)).toInt ≤ 64) → ((x_109 89 33).toInt = 0) → ((x_109 93 (po.toInt.toNat)).toInt = 0) → ((x 117 ((8 * po.toInt + a.toInt).toNat)).toInt ≠ 0) → (0 ≤ a.toInt ∧ a.toInt ≤ 7 ∧ 0 ≤ po.toInt ∧ po.toInt ≤ 3) → (65 - y109_4.toInt).toNat < n0 → va_P D vwCl (WL g x_109) H → va_S (AQ g) s.heap H locs → lv_has ls 5 [(0, .ref (g.1 89)), (1, .int a), (2, .int po), (3, .int y109_3), (4, .int y109_4)] → W p l e ({ frames := 7, cells := 0, slots := 0, locals := 159 } : Room) s m ([.ref (g.1 89), .int a, .int po] : List Value).toArray below meth co H locs 0 0 (MQ below (va_Qi (fun r x2 => Inv x2 ∧ Same (TMr po.toInt.toNat) x x2 ∧ Rel x2 ∧ (x2 89 33).toInt = 0 ∧ ((0 ≤ a.toInt ∧ a.toInt ≤ 7 ∧ 0 ≤ po.toInt ∧ po.toInt ≤ 3) → (x2 93 (po.toInt.toNat)).toInt = 0 ∧ ((x 117 ((8 * po.toInt + a.toInt).toNat)).toInt = 0 → r.toInt = -4)) ∧ (¬ (0 ≤ a.toInt ∧ a.toInt ≤ 7 ∧ 0 ≤ po.toInt ∧ po.toInt ≤ 3) → r.toInt = -1 ∧ Same TM x x2)) (WO D g) (AQ g)) ([.ref (g.1 89), .int a, .int po] : List Value).toArray s 0 0 (AQ g)) (F0 m 109 ls []) := by
    intro n0
    induction n0 with
    | zero => intro x_109 H locs ls y109_3 y109_4 hI_109 hT_109 hE_109 hf109_0 hf109_1 hf109_2 hf109_3 hf109_4 hf109_5 hf109_6 hm_109 hP hS hl; exact absurd hm_109 (Nat.not_lt_zero _)
    | succ n0 ih109 =>
      intro x_109 H locs ls y109_3 y109_4 hI_109 hT_109 hE_109 hf109_0 hf109_1 hf109_2 hf109_3 hf109_4 hf109_5 hf109_6 hm_109 hP hS hl
      refine lv_iload S.1 S.2.1 dX7_read_109 (lv_at hl 4 rfl) ?_
      refine lv_aload_n S.1 S.2.1 dX7_read_111 rfl (lv_at hl 0 rfl) ?_
      refine w_get (C := RX7) (T := TX7) (N := 34) S (fun _ h => List.mem_cons_of_mem _ (List.mem_append_right _ h)) hK hP 89 (by decide) (ceK89 _) rfl 7 (by decide) (hts _ (List.mem_of_getElem? (i := 6) rfl)) (v := .ref (g.1 96)) rfl dX7_read_112 ?_
      refine lv_iload_n S.1 S.2.1 dX7_read_115 rfl (lv_at hl 2 rfl) ?_
      refine w_iald S hK hP 96 (by decide) ceK96 (by omega) (by omega) dX7_read_116 (fun v1 ev1 => ?_)
      have wv1 : v1.toInt = (x_109 96 po.toInt.toNat).toInt := by rw [ev1]
      have rv1 : (0 : Int) ≤ v1.toInt ∧ v1.toInt ≤ (65 : Int) := by rw [ev1]; exact hI_109 96 _
      refine w_icmp_ge (tgt := 178) S dX7_read_117 (by decide) (fun hb2 => ?_) (fun hb2 => ?_)
      · refine lv_aload_n S.1 S.2.1 dX7_read_178 rfl (lv_at hl 0 rfl) ?_
        refine lv_iload_n S.1 S.2.1 dX7_read_179 rfl (lv_at hl 2 rfl) ?_
        refine w_cVv (As := [.int po]) (rest := []) S hK hN hP hS hl 89 (by decide) (ceK89 _) rfl (c_X7_flowDown l D g hg x_109 hI_109 hE_109 po (by omega)) (cwV 1 hts gX7_read_X7_flowDown rfl rfl rfl (by decide +kernel) ⟨Nat.le_of_ble_eq_true rfl, Nat.le_of_ble_eq_true rfl⟩) rfl rfl (Nat.le_of_ble_eq_true rfl) dX7_read_180 ⟨Nat.zero_le _, Nat.zero_le _⟩ (fun x3 H locs hq5 hP hS => ?_)
        obtain ⟨hI6, hT7, hE9, hf8⟩ := hq5
        have hT10 : Same (TMr po.toInt.toNat) x x3 := hT_109.tr hT7 (fun c0 k0 h => by unfold TMr TM TrM at h; unfold TS; omega)
        have u11 : (x3 89 (33)).toInt = (x_109 89 (33)).toInt := by rw [hT7 89 (33) (by unfold TS; omega)]
        have u12 : (x3 93 (po.toInt.toNat)).toInt = (x_109 93 (po.toInt.toNat)).toInt := by rw [hT7 93 (po.toInt.toNat) (by unfold TS; omega)]
        have u13 : (x3 117 ((8 * po.toInt + a.toInt).toNat)).toInt = (x_109 117 ((8 * po.toInt + a.toInt).toNat)).toInt := by rw [hT7 117 ((8 * po.toInt + a.toInt).toNat) (by unfold TS; omega)]
        refine lv_iload_n S.1 S.2.1 dX7_read_183 rfl (lv_at hl 3 rfl) ?_
        refine w_sipush S dX7_read_184 (by decide) (fun k14 hk14 => ?_)
        refine w_icmp_ne (tgt := 193) S dX7_read_187 (by decide) (fun hb15 => ?_) (fun hb15 => ?_)
        · refine lv_iload_n S.1 S.2.1 dX7_read_193 rfl (lv_at hl 3 rfl) ?_
          exact w_iret S hr0 hlk hP hS dX7_read_194 (⟨hI6, hT10, hE9, by omega, fun _ => ⟨by omega, by omega⟩, fun hv => absurd hv (by omega)⟩)
        · refine w_bipush S dX7_read_190 (by decide) (fun k16 hk16 => ?_)
          exact w_iret S hr0 hlk hP hS dX7_read_192 (⟨hI6, hT10, hE9, by omega, fun _ => ⟨by omega, by omega⟩, fun hv => absurd hv (by omega)⟩)
      · refine lv_aload_n S.1 S.2.1 dX7_read_120 rfl (lv_at hl 0 rfl) ?_
        refine w_get (C := RX7) (T := TX7) (N := 34) S (fun _ h => List.mem_cons_of_mem _ (List.mem_append_right _ h)) hK hP 89 (by decide) (ceK89 _) rfl 5 (by decide) (hts _ (List.mem_of_getElem? (i := 5) rfl)) (v := .ref (g.1 94)) rfl dX7_read_121 ?_
        refine w_bipush S dX7_read_124 (by decide) (fun k17 hk17 => ?_)
        refine lv_iload_n S.1 S.2.1 dX7_read_126 rfl (lv_at hl 2 rfl) ?_
        refine w_imulk S dX7_read_127 65 hk17 (by omega) (by omega) (fun v18 hv18 => ?_)
        refine lv_iload S.1 S.2.1 dX7_read_128 (lv_at hl 4 rfl) ?_
        refine w_iadd S dX7_read_130 (by omega) (by omega) (fun v19 hv19 => ?_)
        refine lv_aload_n S.1 S.2.1 dX7_read_131 rfl (lv_at hl 0 rfl) ?_
        refine w_get (C := RX7) (T := TX7) (N := 34) S (fun _ h => List.mem_cons_of_mem _ (List.mem_append_right _ h)) hK hP 89 (by decide) (ceK89 _) rfl 5 (by decide) (hts _ (List.mem_of_getElem? (i := 5) rfl)) (v := .ref (g.1 94)) rfl dX7_read_132 ?_
        refine w_bipush S dX7_read_135 (by decide) (fun k20 hk20 => ?_)
        refine lv_iload_n S.1 S.2.1 dX7_read_137 rfl (lv_at hl 2 rfl) ?_
        refine w_imulk S dX7_read_138 65 hk20 (by omega) (by omega) (fun v21 hv21 => ?_)
        refine lv_iload S.1 S.2.1 dX7_read_139 (lv_at hl 4 rfl) ?_
        refine w_iadd S dX7_read_141 (by omega) (by omega) (fun v22 hv22 => ?_)
        refine w_iconst S dX7_read_142 (by decide) (fun k23 hk23 => ?_)
        refine w_iadd S dX7_read_143 (by omega) (by omega) (fun v24 hv24 => ?_)
        refine w_iald S hK hP 94 (by decide) ceK94 (by omega) (by omega) dX7_read_144 (fun v25 ev25 => ?_)
        have wv25 : v25.toInt = (x_109 94 v24.toInt.toNat).toInt := by rw [ev25]
        refine w_iast S hK hg hP hS 94 (by decide) ceK94 (by omega) (by omega) dX7_read_145 (fun x26 H locs ex26 hP hS => ?_)
        have hI27 : Inv x26 := by rw [ex26]; exact hI_109.up (i_ge _) (i_le _)
        have hT28 : Same (TMr po.toInt.toNat) x x26 := by rw [ex26]; exact hT_109.up (by unfold TMr TM TrM; omega)
        have hE29 : Rel x26 := by rw [ex26]; exact Rel.oth hE_109 (by decide) (by decide)
        have u30 : (x26 89 (33)).toInt = (x_109 89 (33)).toInt := by rw [ex26, up2_ne _ _ (by omega)]
        have u31 : (x26 93 (po.toInt.toNat)).toInt = (x_109 93 (po.toInt.toNat)).toInt := by rw [ex26, up2_ne _ _ (by omega)]
        have u32 : (x26 117 ((8 * po.toInt + a.toInt).toNat)).toInt = (x_109 117 ((8 * po.toInt + a.toInt).toNat)).toInt := by rw [ex26, up2_ne _ _ (by omega)]
        have u33 : (x26 96 (po.toInt.toNat)).toInt = (x_109 96 (po.toInt.toNat)).toInt := by rw [ex26, up2_ne _ _ (by omega)]
        have u34 : (x26 97 (po.toInt.toNat)).toInt = (x_109 97 (po.toInt.toNat)).toInt := by rw [ex26, up2_ne _ _ (by omega)]
        refine lv_aload_n S.1 S.2.1 dX7_read_146 rfl (lv_at hl 0 rfl) ?_
        refine w_get (C := RX7) (T := TX7) (N := 34) S (fun _ h => List.mem_cons_of_mem _ (List.mem_append_right _ h)) hK hP 89 (by decide) (ceK89 _) rfl 6 (by decide) (hts _ (List.mem_of_getElem? (i := 7) rfl)) (v := .ref (g.1 95)) rfl dX7_read_147 ?_
        refine w_bipush S dX7_read_150 (by decide) (fun k35 hk35 => ?_)
        refine lv_iload_n S.1 S.2.1 dX7_read_152 rfl (lv_at hl 2 rfl) ?_
        refine w_imulk S dX7_read_153 65 hk35 (by omega) (by omega) (fun v36 hv36 => ?_)
        refine lv_iload S.1 S.2.1 dX7_read_154 (lv_at hl 4 rfl) ?_
        refine w_iadd S dX7_read_156 (by omega) (by omega) (fun v37 hv37 => ?_)
        refine lv_aload_n S.1 S.2.1 dX7_read_157 rfl (lv_at hl 0 rfl) ?_
        refine w_get (C := RX7) (T := TX7) (N := 34) S (fun _ h => List.mem_cons_of_mem _ (List.mem_append_right _ h)) hK hP 89 (by decide) (ceK89 _) rfl 6 (by decide) (hts _ (List.mem_of_getElem? (i := 7) rfl)) (v := .ref (g.1 95)) rfl dX7_read_158 ?_
        refine w_bipush S dX7_read_161 (by decide) (fun k38 hk38 => ?_)
        refine lv_iload_n S.1 S.2.1 dX7_read_163 rfl (lv_at hl 2 rfl) ?_
        refine w_imulk S dX7_read_164 65 hk38 (by omega) (by omega) (fun v39 hv39 => ?_)
        refine lv_iload S.1 S.2.1 dX7_read_165 (lv_at hl 4 rfl) ?_
        refine w_iadd S dX7_read_167 (by omega) (by omega) (fun v40 hv40 => ?_)
        refine w_iconst S dX7_read_168 (by decide) (fun k41 hk41 => ?_)
        refine w_iadd S dX7_read_169 (by omega) (by omega) (fun v42 hv42 => ?_)
        refine w_zald S hK hP 95 (by decide) ceK95 (by omega) (by omega) dX7_read_170 (fun v43 ev43 => ?_)
        have wv43 : v43.toInt = (x26 95 v42.toInt.toNat).toInt := by rw [ev43]
        have rv43 : (0 : Int) ≤ v43.toInt ∧ v43.toInt ≤ (1 : Int) := by rw [ev43]; exact hI27 95 _
        refine w_zast S hK hg hP hS 95 (by decide) ceK95 (z01 (by omega) (by omega)) (by omega) (by omega) dX7_read_171 (fun x44 H locs ex44 hP hS => ?_)
        have hI45 : Inv x44 := by rw [ex44]; exact hI27.up (show (0 : Int) ≤ _ by omega) (show _ ≤ (1 : Int) by omega)
        have hT46 : Same (TMr po.toInt.toNat) x x44 := by rw [ex44]; exact hT28.up (by unfold TMr TM TrM; omega)
        have hE47 : Rel x44 := by rw [ex44]; exact Rel.oth hE29 (by decide) (by decide)
        have u48 : (x44 89 (33)).toInt = (x26 89 (33)).toInt := by rw [ex44, up2_ne _ _ (by omega)]
        have u49 : (x44 93 (po.toInt.toNat)).toInt = (x26 93 (po.toInt.toNat)).toInt := by rw [ex44, up2_ne _ _ (by omega)]
        have u50 : (x44 117 ((8 * po.toInt + a.toInt).toNat)).toInt = (x26 117 ((8 * po.toInt + a.toInt).toNat)).toInt := by rw [ex44, up2_ne _ _ (by omega)]
        have u51 : (x44 96 (po.toInt.toNat)).toInt = (x26 96 (po.toInt.toNat)).toInt := by rw [ex44, up2_ne _ _ (by omega)]
        have u52 : (x44 97 (po.toInt.toNat)).toInt = (x26 97 (po.toInt.toNat)).toInt := by rw [ex44, up2_ne _ _ (by omega)]
        refine w_iinc (lv' := [(0, .ref (g.1 89)), (1, .int a), (2, .int po), (3, .int y109_3)]) S dX7_read_172 hl (k := 4) rfl (by decide) (by decide) (by omega) (by omega) (fun _ => rfl) (fun v53 ls hv53 hl => ?_)
        refine lv_goto (tgt := 109) S.1 S.2.1 dX7_read_175 (by decide) ?_
        exact ih109 _ _ _ _ y109_3 v53 hI45 hT46 hE47 (by omega) (by omega) (by omega) (by omega) (by omega) (by omega) (by omega) (by omega) hP hS (lv_sub hl [1, 2, 3, 4, 0] rfl)
  refine lv_aload_n S.1 S.2.1 dX7_read_0 rfl (lv_at hl 0 rfl) ?_
  refine w_iconst S dX7_read_1 (by decide) (fun k54 hk54 => ?_)
  refine w_put (C := RX7) (T := TX7) (N := 34) (F := FMod g) S (fun _ h => List.mem_cons_of_mem _ (List.mem_append_right _ h)) tyX7_ok nmX7 hK hg hP hS 89 (by decide) ceK89 rfl 0 (by decide) (hts _ (List.mem_of_getElem? (i := 1) rfl)) rfl rfl rfl (fun _ => Nat.le_of_ble_eq_true rfl) (fun _ => rfl) dX7_read_2 (fun x55 H locs ex55 hP hS => ?_)
  have hI56 : Inv x55 := by rw [ex55]; exact hI.up (i_ge _) (i_le _)
  have hT57 : Same (TMr po.toInt.toNat) x x55 := by rw [ex55]; exact hT.up (by unfold TMr TM TrM; omega)
  have hE58 : Rel x55 := by rw [ex55]; exact Rel.oth hE (by decide) (by decide)
  have u59 : (x55 89 (33)).toInt = (x 89 (33)).toInt := by rw [ex55, up2_ne _ _ (by omega)]
  have u60 : (x55 93 (po.toInt.toNat)).toInt = (x 93 (po.toInt.toNat)).toInt := by rw [ex55, up2_ne _ _ (by omega)]
  have u61 : (x55 117 ((8 * po.toInt + a.toInt).toNat)).toInt = (x 117 ((8 * po.toInt + a.toInt).toNat)).toInt := by rw [ex55, up2_ne _ _ (by omega)]
  have u62 : (x55 96 (po.toInt.toNat)).toInt = (x 96 (po.toInt.toNat)).toInt := by rw [ex55, up2_ne _ _ (by omega)]
  have u63 : (x55 97 (po.toInt.toNat)).toInt = (x 97 (po.toInt.toNat)).toInt := by rw [ex55, up2_ne _ _ (by omega)]
  have hm5 : Same TM x x55 := by rw [ex55]; exact Same.rf.up (by unfold TM TrM; omega)
  refine lv_iload_n S.1 S.2.1 dX7_read_5 rfl (lv_at hl 1 rfl) ?_
  refine w_cSi (As := [.int a]) (rest := []) S hK hN hP hS hl (c_X7_isProcess l D g hg x55 hI56 a) (va_cwS 1 hts gX7_read_X7_isProcess rfl rfl rfl (by decide +kernel) ⟨Nat.le_of_ble_eq_true rfl, Nat.le_of_ble_eq_true rfl⟩) rfl rfl (Nat.le_of_ble_eq_true rfl) dX7_read_6 ⟨Nat.zero_le _, Nat.zero_le _⟩ (fun r65 x64 H locs hq66 hP hS => ?_)
  obtain ⟨ex67, hf68⟩ := hq66
  rw [ex67] at hP
  refine w_if_eq (tgt := 19) S dX7_read_9 (by decide) (fun hb69 => ?_) (fun hb69 => ?_)
  · refine w_iconst S dX7_read_19 (by decide) (fun k70 hk70 => ?_)
    exact w_iret S hr0 hlk hP hS dX7_read_20 (⟨hI56, hT57, hE58, by omega, fun hv => absurd hv (by omega), fun _ => ⟨by omega, hm5⟩⟩)
  · refine lv_iload_n S.1 S.2.1 dX7_read_12 rfl (lv_at hl 2 rfl) ?_
    refine w_cSi (As := [.int po]) (rest := []) S hK hN hP hS hl (c_X7_isPort l D g hg x55 hI56 po) (va_cwS 1 hts gX7_read_X7_isPort rfl rfl rfl (by decide +kernel) ⟨Nat.le_of_ble_eq_true rfl, Nat.le_of_ble_eq_true rfl⟩) rfl rfl (Nat.le_of_ble_eq_true rfl) dX7_read_13 ⟨Nat.zero_le _, Nat.zero_le _⟩ (fun r72 x71 H locs hq73 hP hS => ?_)
    obtain ⟨ex74, hf75⟩ := hq73
    rw [ex74] at hP
    refine w_if_ne (tgt := 21) S dX7_read_16 (by decide) (fun hb76 => ?_) (fun hb76 => ?_)
    · refine lv_aload_n S.1 S.2.1 dX7_read_21 rfl (lv_at hl 0 rfl) ?_
      refine lv_iload_n S.1 S.2.1 dX7_read_22 rfl (lv_at hl 2 rfl) ?_
      refine w_cVv (As := [.int po]) (rest := []) S hK hN hP hS hl 89 (by decide) (ceK89 _) rfl (c_X7_pass l D g hg x55 hI56 hE58 po (by omega) (by omega)) (cwV 1 hts gX7_read_X7_pass rfl rfl rfl (by decide +kernel) ⟨Nat.le_of_ble_eq_true rfl, Nat.le_of_ble_eq_true rfl⟩) rfl rfl (Nat.le_of_ble_eq_true rfl) dX7_read_23 ⟨Nat.zero_le _, Nat.zero_le _⟩ (fun x77 H locs hq79 hP hS => ?_)
      obtain ⟨hI80, hT81, hE83, hf82⟩ := hq79
      have hT84 : Same (TMr po.toInt.toNat) x x77 := hT57.tr hT81 (fun _ _ h => h)
      have u85 : (x77 117 ((8 * po.toInt + a.toInt).toNat)).toInt = (x55 117 ((8 * po.toInt + a.toInt).toNat)).toInt := by rw [hT81 117 ((8 * po.toInt + a.toInt).toNat) (by unfold TMr TM TrM; omega)]
      have hs23 := hf82.1
      have ht23 := hf82.2.1
      refine lv_aload_n S.1 S.2.1 dX7_read_26 rfl (lv_at hl 0 rfl) ?_
      refine w_get (C := RX7) (T := TX7) (N := 34) S (fun _ h => List.mem_cons_of_mem _ (List.mem_append_right _ h)) hK hP 89 (by decide) (ceK89 _) rfl 28 (by decide) (hts _ (List.mem_of_getElem? (i := 2) rfl)) (v := .ref (g.1 117)) rfl dX7_read_27 ?_
      refine w_bipush S dX7_read_30 (by decide) (fun k86 hk86 => ?_)
      refine lv_iload_n S.1 S.2.1 dX7_read_32 rfl (lv_at hl 2 rfl) ?_
      refine w_imulk S dX7_read_33 8 hk86 (by omega) (by omega) (fun v87 hv87 => ?_)
      refine lv_iload_n S.1 S.2.1 dX7_read_34 rfl (lv_at hl 1 rfl) ?_
      refine w_iadd S dX7_read_35 (by omega) (by omega) (fun v88 hv88 => ?_)
      have hix : v88.toInt.toNat = (8 * po.toInt + a.toInt).toNat := by omega
      refine w_zald S hK hP 117 (by decide) ceK117 (by omega) (by omega) dX7_read_36 (fun v89 ev89 => ?_)
      have wv89 : v89.toInt = (x77 117 v88.toInt.toNat).toInt := by rw [ev89]
      have rv89 : (0 : Int) ≤ v89.toInt ∧ v89.toInt ≤ (1 : Int) := by rw [ev89]; exact hI80 117 _
      rw [hix] at wv89
      refine w_if_ne (tgt := 43) S dX7_read_37 (by decide) (fun hb90 => ?_) (fun hb90 => ?_)
      · refine lv_aload_n S.1 S.2.1 dX7_read_43 rfl (lv_at hl 0 rfl) ?_
        refine lv_iload_n S.1 S.2.1 dX7_read_44 rfl (lv_at hl 1 rfl) ?_
        refine lv_iload_n S.1 S.2.1 dX7_read_45 rfl (lv_at hl 2 rfl) ?_
        refine w_cVi (As := [.int a, .int po]) (rest := []) S hK hN hP hS hl 89 (by decide) (ceK89 _) rfl (c_X7_isBehind l D g hg x77 hI80 a po (by omega) (by omega)) (cwV 2 hts gX7_read_X7_isBehind rfl rfl rfl (by decide +kernel) ⟨Nat.le_of_ble_eq_true rfl, Nat.le_of_ble_eq_true rfl⟩) rfl rfl (Nat.le_of_ble_eq_true rfl) dX7_read_46 ⟨Nat.zero_le _, Nat.zero_le _⟩ (fun r92 x91 H locs hq93 hP hS => ?_)
        obtain ⟨ex94, hf95⟩ := hq93
        rw [ex94] at hP
        refine w_if_eq (tgt := 67) S dX7_read_49 (by decide) (fun hb96 => ?_) (fun hb96 => ?_)
        · refine lv_aload_n S.1 S.2.1 dX7_read_67 rfl (lv_at hl 0 rfl) ?_
          refine w_get (C := RX7) (T := TX7) (N := 34) S (fun _ h => List.mem_cons_of_mem _ (List.mem_append_right _ h)) hK hP 89 (by decide) (ceK89 _) rfl 8 (by decide) (hts _ (List.mem_of_getElem? (i := 4) rfl)) (v := .ref (g.1 97)) rfl dX7_read_68 ?_
          refine lv_iload_n S.1 S.2.1 dX7_read_71 rfl (lv_at hl 2 rfl) ?_
          refine w_iald S hK hP 97 (by decide) ceK97 (by omega) (by omega) dX7_read_72 (fun v97 ev97 => ?_)
          have wv97 : v97.toInt = (x77 97 po.toInt.toNat).toInt := by rw [ev97]
          have rv97 : (0 : Int) ≤ v97.toInt ∧ v97.toInt ≤ (65 : Int) := by rw [ev97]; exact hI80 97 _
          refine w_if_le (tgt := 195) S dX7_read_73 (by decide) (fun hb98 => ?_) (fun hb98 => ?_)
          · refine lv_aload_n S.1 S.2.1 dX7_read_195 rfl (lv_at hl 0 rfl) ?_
            refine w_get (C := RX7) (T := TX7) (N := 34) S (fun _ h => List.mem_cons_of_mem _ (List.mem_append_right _ h)) hK hP 89 (by decide) (ceK89 _) rfl 21 (by decide) (hts _ (List.mem_of_getElem? (i := 8) rfl)) (v := .ref (g.1 110)) rfl dX7_read_196 ?_
            refine lv_iload_n S.1 S.2.1 dX7_read_199 rfl (lv_at hl 2 rfl) ?_
            refine w_zald S hK hP 110 (by decide) ceK110 (by omega) (by omega) dX7_read_200 (fun v99 ev99 => ?_)
            have wv99 : v99.toInt = (x77 110 po.toInt.toNat).toInt := by rw [ev99]
            have rv99 : (0 : Int) ≤ v99.toInt ∧ v99.toInt ≤ (1 : Int) := by rw [ev99]; exact hI80 110 _
            refine w_if_eq (tgt := 207) S dX7_read_201 (by decide) (fun hb100 => ?_) (fun hb100 => ?_)
            · refine w_bipush S dX7_read_207 (by decide) (fun k101 hk101 => ?_)
              exact w_iret S hr0 hlk hP hS dX7_read_209 (⟨hI80, hT84, hE83, by omega, fun _ => ⟨by omega, by omega⟩, fun hv => absurd hv (by omega)⟩)
            · refine w_bipush S dX7_read_204 (by decide) (fun k102 hk102 => ?_)
              exact w_iret S hr0 hlk hP hS dX7_read_206 (⟨hI80, hT84, hE83, by omega, fun _ => ⟨by omega, by omega⟩, fun hv => absurd hv (by omega)⟩)
          · refine lv_aload_n S.1 S.2.1 dX7_read_76 rfl (lv_at hl 0 rfl) ?_
            refine w_get (C := RX7) (T := TX7) (N := 34) S (fun _ h => List.mem_cons_of_mem _ (List.mem_append_right _ h)) hK hP 89 (by decide) (ceK89 _) rfl 5 (by decide) (hts _ (List.mem_of_getElem? (i := 5) rfl)) (v := .ref (g.1 94)) rfl dX7_read_77 ?_
            refine w_bipush S dX7_read_80 (by decide) (fun k103 hk103 => ?_)
            refine lv_iload_n S.1 S.2.1 dX7_read_82 rfl (lv_at hl 2 rfl) ?_
            refine w_imulk S dX7_read_83 65 hk103 (by omega) (by omega) (fun v104 hv104 => ?_)
            refine w_iald S hK hP 94 (by decide) ceK94 (by omega) (by omega) dX7_read_84 (fun v105 ev105 => ?_)
            have wv105 : v105.toInt = (x77 94 v104.toInt.toNat).toInt := by rw [ev105]
            refine lv_istore_n (lv' := [(3, .int v105), (0, .ref (g.1 89)), (1, .int a), (2, .int po)]) S.1 S.2.1 dX7_read_85 rfl hl (by decide) rfl (fun ls hl => ?_)
            refine lv_aload_n S.1 S.2.1 dX7_read_86 rfl (lv_at hl 1 rfl) ?_
            refine w_get (C := RX7) (T := TX7) (N := 34) S (fun _ h => List.mem_cons_of_mem _ (List.mem_append_right _ h)) hK hP 89 (by decide) (ceK89 _) rfl 7 (by decide) (hts _ (List.mem_of_getElem? (i := 6) rfl)) (v := .ref (g.1 96)) rfl dX7_read_87 ?_
            refine lv_iload_n S.1 S.2.1 dX7_read_90 rfl (lv_at hl 3 rfl) ?_
            have eP91 := hE83 (po.toInt.toNat) (by omega)
            have eQ91 : (0 : Int) ≤ (x77 97 (po.toInt.toNat)).toInt := (hI80 97 _).1
            have eR91 : (x77 96 (po.toInt.toNat)).toInt ≤ (65 : Int) := (hI80 96 _).2
            refine lv_dup2_11 S.1 S.2.1 dX7_read_91 rfl rfl ?_
            refine w_iald S hK hP 96 (by decide) ceK96 (by omega) (by omega) dX7_read_92 (fun v106 ev106 => ?_)
            have wv106 : v106.toInt = (x77 96 po.toInt.toNat).toInt := by rw [ev106]
            have rv106 : (0 : Int) ≤ v106.toInt ∧ v106.toInt ≤ (65 : Int) := by rw [ev106]; exact hI80 96 _
            refine w_iconst S dX7_read_93 (by decide) (fun k107 hk107 => ?_)
            refine w_isub S dX7_read_94 (by omega) (by omega) (fun v108 hv108 => ?_)
            refine w_iast S hK hg hP hS 96 (by decide) ceK96 (by omega) (by omega) dX7_read_95 (fun x109 H locs ex109 hP hS => ?_)
            have hI110 : Inv x109 := by rw [ex109]; exact hI80.up (show (0 : Int) ≤ _ by omega) (show _ ≤ (65 : Int) by omega)
            have hT111 : Same (TMr po.toInt.toNat) x x109 := by rw [ex109]; exact hT84.up (by unfold TMr TM TrM; omega)
            have u113 : (x109 89 (33)).toInt = (x77 89 (33)).toInt := by rw [ex109, up2_ne _ _ (by omega)]
            have u114 : (x109 93 (po.toInt.toNat)).toInt = (x77 93 (po.toInt.toNat)).toInt := by rw [ex109, up2_ne _ _ (by omega)]
            have u115 : (x109 117 ((8 * po.toInt + a.toInt).toNat)).toInt = (x77 117 ((8 * po.toInt + a.toInt).toNat)).toInt := by rw [ex109, up2_ne _ _ (by omega)]
            have u116 : (x109 96 (po.toInt.toNat)).toInt = v108.toInt := by rw [ex109, up2_at]
            have u117 : (x109 97 (po.toInt.toNat)).toInt = (x77 97 (po.toInt.toNat)).toInt := by rw [ex109, up2_ne _ _ (by omega)]
            refine lv_aload_n S.1 S.2.1 dX7_read_96 rfl (lv_at hl 1 rfl) ?_
            refine w_get (C := RX7) (T := TX7) (N := 34) S (fun _ h => List.mem_cons_of_mem _ (List.mem_append_right _ h)) hK hP 89 (by decide) (ceK89 _) rfl 8 (by decide) (hts _ (List.mem_of_getElem? (i := 4) rfl)) (v := .ref (g.1 97)) rfl dX7_read_97 ?_
            refine lv_iload_n S.1 S.2.1 dX7_read_100 rfl (lv_at hl 3 rfl) ?_
            refine lv_dup2_11 S.1 S.2.1 dX7_read_101 rfl rfl ?_
            refine w_iald S hK hP 97 (by decide) ceK97 (by omega) (by omega) dX7_read_102 (fun v118 ev118 => ?_)
            have wv118 : v118.toInt = (x109 97 po.toInt.toNat).toInt := by rw [ev118]
            have rv118 : (0 : Int) ≤ v118.toInt ∧ v118.toInt ≤ (65 : Int) := by rw [ev118]; exact hI110 97 _
            refine w_iconst S dX7_read_103 (by decide) (fun k119 hk119 => ?_)
            refine w_isub S dX7_read_104 (by omega) (by omega) (fun v120 hv120 => ?_)
            refine w_iast S hK hg hP hS 97 (by decide) ceK97 (by omega) (by omega) dX7_read_105 (fun x121 H locs ex121 hP hS => ?_)
            have hI122 : Inv x121 := by rw [ex121]; exact hI110.up (show (0 : Int) ≤ _ by omega) (show _ ≤ (65 : Int) by omega)
            have hT123 : Same (TMr po.toInt.toNat) x x121 := by rw [ex121]; exact hT111.up (by unfold TMr TM TrM; omega)
            have hE124 : Rel x121 := by rw [ex121, ex109]; exact Rel.both hE83 (by omega)
            have u125 : (x121 89 (33)).toInt = (x109 89 (33)).toInt := by rw [ex121, up2_ne _ _ (by omega)]
            have u126 : (x121 93 (po.toInt.toNat)).toInt = (x109 93 (po.toInt.toNat)).toInt := by rw [ex121, up2_ne _ _ (by omega)]
            have u127 : (x121 117 ((8 * po.toInt + a.toInt).toNat)).toInt = (x109 117 ((8 * po.toInt + a.toInt).toNat)).toInt := by rw [ex121, up2_ne _ _ (by omega)]
            have u128 : (x121 96 (po.toInt.toNat)).toInt = (x109 96 (po.toInt.toNat)).toInt := by rw [ex121, up2_ne _ _ (by omega)]
            have u129 : (x121 97 (po.toInt.toNat)).toInt = v120.toInt := by rw [ex121, up2_at]
            refine w_iconst S dX7_read_106 (by decide) (fun k130 hk130 => ?_)
            refine lv_istore (lv' := [(4, .int k130), (3, .int v105), (0, .ref (g.1 89)), (1, .int a), (2, .int po)]) S.1 S.2.1 dX7_read_107 hl (by decide) rfl (fun ls hl => ?_)
            exact J109 _ _ _ _ _ v105 k130 hI122 hT123 hE124 (by omega) (by omega) (by omega) (by omega) (by omega) (by omega) (by omega) (Nat.lt_succ_self _) hP hS (lv_sub hl [2, 3, 4, 1, 0] rfl)
        · refine lv_aload_n S.1 S.2.1 dX7_read_52 rfl (lv_at hl 0 rfl) ?_
          refine lv_aload_n S.1 S.2.1 dX7_read_53 rfl (lv_at hl 0 rfl) ?_
          refine w_get (C := RX7) (T := TX7) (N := 34) S (fun _ h => List.mem_cons_of_mem _ (List.mem_append_right _ h)) hK hP 89 (by decide) (ceK89 _) rfl 29 (by decide) (hts _ (List.mem_of_getElem? (i := 3) rfl)) (v := .ref (g.1 118)) rfl dX7_read_54 ?_
          refine lv_iload_n S.1 S.2.1 dX7_read_57 rfl (lv_at hl 1 rfl) ?_
          refine w_iald S hK hP 118 (by decide) ceK118 (by omega) (by omega) dX7_read_58 (fun v131 ev131 => ?_)
          have wv131 : v131.toInt = (x77 118 a.toInt.toNat).toInt := by rw [ev131]
          refine w_bipush S dX7_read_59 (by decide) (fun k132 hk132 => ?_)
          refine w_cVv (As := [.int v131, .int k132]) (rest := []) S hK hN hP hS hl 89 (by decide) (ceK89 _) rfl (c_X7_raise l D g hg x77 hI80 hE83 v131 k132) (cwV 2 hts gX7_read_X7_raise rfl rfl rfl (by decide +kernel) ⟨Nat.le_of_ble_eq_true rfl, Nat.le_of_ble_eq_true rfl⟩) rfl rfl (Nat.le_of_ble_eq_true rfl) dX7_read_61 ⟨Nat.zero_le _, Nat.zero_le _⟩ (fun x133 H locs hq135 hP hS => ?_)
          obtain ⟨hI136, hT137, hE139, hf138⟩ := hq135
          have hT140 : Same (TMr po.toInt.toNat) x x133 := hT84.tr hT137 (fun _ _ h => h.1)
          have u141 : (x133 93 (po.toInt.toNat)).toInt = (x77 93 (po.toInt.toNat)).toInt := by rw [hT137 93 (po.toInt.toNat) (by unfold TM TrM; omega)]
          have u142 : (x133 117 ((8 * po.toInt + a.toInt).toNat)).toInt = (x77 117 ((8 * po.toInt + a.toInt).toNat)).toInt := by rw [hT137 117 ((8 * po.toInt + a.toInt).toNat) (by unfold TM TrM; omega)]
          refine w_bipush S dX7_read_64 (by decide) (fun k143 hk143 => ?_)
          exact w_iret S hr0 hlk hP hS dX7_read_66 (⟨hI136, hT140, hE139, by omega, fun _ => ⟨by omega, by omega⟩, fun hv => absurd hv (by omega)⟩)
      · refine w_bipush S dX7_read_40 (by decide) (fun k144 hk144 => ?_)
        exact w_iret S hr0 hlk hP hS dX7_read_42 (⟨hI80, hT84, hE83, by omega, fun _ => ⟨by omega, by omega⟩, fun hv => absurd hv (by omega)⟩)
    · refine w_iconst S dX7_read_19 (by decide) (fun k145 hk145 => ?_)
      exact w_iret S hr0 hlk hP hS dX7_read_20 (⟨hI56, hT57, hE58, by omega, fun hv => absurd hv (by omega), fun _ => ⟨by omega, hm5⟩⟩)
set_option maxRecDepth 100000 in
set_option maxHeartbeats 4000000 in
theorem c_X7_mode (l : Launch) (D : va_G) (g : GA) (hg : Inj g) (x : St) (hI : Inv x) (hE : Rel x) (po : Int32) (wh : Int32) (vl : Int32) (wn : Int32) (hy0 : (x 89 33).toInt = 0) : Met l yX7_mode wsX7_mode ({ frames := 3, cells := 0, slots := 0, locals := 71 } : Room) (va_Pc [.ref (g.1 89), .int po, .int wh, .int vl, .int wn] (WI D g x)) (va_Qi (fun r x2 => Inv x2 ∧ Same TM x x2 ∧ Rel x2 ∧ (x2 89 33).toInt = 0 ∧ ((0 ≤ po.toInt ∧ po.toInt ≤ 3 ∧ 0 ≤ wh.toInt ∧ wh.toInt ≤ 24 ∧ 0 ≤ vl.toInt ∧ (wh.toInt < 12 → vl.toInt ≤ 1) ∧ (wh.toInt = 12 → vl.toInt ≤ 32) ∧ (wh.toInt = 13 → vl.toInt ≤ 20) ∧ (13 < wh.toInt → vl.toInt ≤ 256) ∧ 0 ≤ wn.toInt ∧ wn.toInt ≤ 2) → (x 112 (po.toInt.toNat)).toInt < 3 → r.toInt = 1) ∧ (¬ (0 ≤ po.toInt ∧ po.toInt ≤ 3 ∧ 0 ≤ wh.toInt ∧ wh.toInt ≤ 24 ∧ 0 ≤ vl.toInt ∧ (wh.toInt < 12 → vl.toInt ≤ 1) ∧ (wh.toInt = 12 → vl.toInt ≤ 32) ∧ (wh.toInt = 13 → vl.toInt ≤ 20) ∧ (13 < wh.toInt → vl.toInt ≤ 256) ∧ 0 ≤ wn.toInt ∧ wn.toInt ≤ 2) → r.toInt = 0)) (WO D g) (AQ g)) 0 0 (AQ g) := by
  refine w_met (cc := cX7_mode) (maxL := 6) (ret := (some .boolean)) (own := RX7) (by decide) rfl rfl (Nat.le_of_ble_eq_true rfl) (fun p e s m below meth co S hr0 hlk hK hN hP hS ls hl => ?_)
  have hts := S.2.2.2.2
  have hl : lv_has ls 6 [(0, .ref (g.1 89)), (1, .int po), (2, .int wh), (3, .int vl), (4, .int wn)] := hl
  have hT : Same (TM) x x := Same.rf
  refine lv_aload_n S.1 S.2.1 dX7_mode_0 rfl (lv_at hl 0 rfl) ?_
  refine w_iconst S dX7_mode_1 (by decide) (fun k1 hk1 => ?_)
  refine w_put (C := RX7) (T := TX7) (N := 34) (F := FMod g) S (fun _ h => List.mem_cons_of_mem _ (List.mem_append_right _ h)) tyX7_ok nmX7 hK hg hP hS 89 (by decide) ceK89 rfl 0 (by decide) (hts _ (List.mem_of_getElem? (i := 1) rfl)) rfl rfl rfl (fun _ => Nat.le_of_ble_eq_true rfl) (fun _ => rfl) dX7_mode_2 (fun x2 H locs ex2 hP hS => ?_)
  have hI3 : Inv x2 := by rw [ex2]; exact hI.up (i_ge _) (i_le _)
  have hT4 : Same (TM) x x2 := by rw [ex2]; exact hT.up (by unfold TM TrM; omega)
  have hE5 : Rel x2 := by rw [ex2]; exact Rel.oth hE (by decide) (by decide)
  have u6 : (x2 89 (33)).toInt = (x 89 (33)).toInt := by rw [ex2, up2_ne _ _ (by omega)]
  have u7 : (x2 112 (po.toInt.toNat)).toInt = (x 112 (po.toInt.toNat)).toInt := by rw [ex2, up2_ne _ _ (by omega)]
  refine lv_iload_n S.1 S.2.1 dX7_mode_5 rfl (lv_at hl 1 rfl) ?_
  refine w_cSi (As := [.int po]) (rest := []) S hK hN hP hS hl (c_X7_isPort l D g hg x2 hI3 po) (va_cwS 1 hts gX7_mode_X7_isPort rfl rfl rfl (by decide +kernel) ⟨Nat.le_of_ble_eq_true rfl, Nat.le_of_ble_eq_true rfl⟩) rfl rfl (Nat.le_of_ble_eq_true rfl) dX7_mode_6 ⟨Nat.zero_le _, Nat.zero_le _⟩ (fun r9 x8 H locs hq10 hP hS => ?_)
  obtain ⟨ex11, hf12⟩ := hq10
  rw [ex11] at hP
  refine w_if_eq (tgt := 45) S dX7_mode_9 (by decide) (fun hb13 => ?_) (fun hb13 => ?_)
  · refine w_iconst S dX7_mode_45 (by decide) (fun k14 hk14 => ?_)
    exact w_zret S hr0 hlk hP hS dX7_mode_46 (z01 (by omega) (by omega)) (⟨hI3, hT4, hE5, by omega, by omega, by omega⟩)
  · refine lv_iload_n S.1 S.2.1 dX7_mode_12 rfl (lv_at hl 2 rfl) ?_
    refine w_if_lt (tgt := 45) S dX7_mode_13 (by decide) (fun hb15 => ?_) (fun hb15 => ?_)
    · refine w_iconst S dX7_mode_45 (by decide) (fun k16 hk16 => ?_)
      exact w_zret S hr0 hlk hP hS dX7_mode_46 (z01 (by omega) (by omega)) (⟨hI3, hT4, hE5, by omega, by omega, by omega⟩)
    · refine lv_iload_n S.1 S.2.1 dX7_mode_16 rfl (lv_at hl 2 rfl) ?_
      refine w_bipush S dX7_mode_17 (by decide) (fun k17 hk17 => ?_)
      refine w_icmp_gt (tgt := 45) S dX7_mode_19 (by decide) (fun hb18 => ?_) (fun hb18 => ?_)
      · refine w_iconst S dX7_mode_45 (by decide) (fun k19 hk19 => ?_)
        exact w_zret S hr0 hlk hP hS dX7_mode_46 (z01 (by omega) (by omega)) (⟨hI3, hT4, hE5, by omega, by omega, by omega⟩)
      · refine lv_iload_n S.1 S.2.1 dX7_mode_22 rfl (lv_at hl 3 rfl) ?_
        refine w_if_lt (tgt := 45) S dX7_mode_23 (by decide) (fun hb20 => ?_) (fun hb20 => ?_)
        · refine w_iconst S dX7_mode_45 (by decide) (fun k21 hk21 => ?_)
          exact w_zret S hr0 hlk hP hS dX7_mode_46 (z01 (by omega) (by omega)) (⟨hI3, hT4, hE5, by omega, by omega, by omega⟩)
        · refine lv_iload_n S.1 S.2.1 dX7_mode_26 rfl (lv_at hl 3 rfl) ?_
          refine lv_iload_n S.1 S.2.1 dX7_mode_27 rfl (lv_at hl 2 rfl) ?_
          refine w_cSi (As := [.int wh]) (rest := [.int vl]) S hK hN hP hS hl (c_X7_most l D g hg x2 hI3 wh) (va_cwS 1 hts gX7_mode_X7_most rfl rfl rfl (by decide +kernel) ⟨Nat.le_of_ble_eq_true rfl, Nat.le_of_ble_eq_true rfl⟩) rfl rfl (Nat.le_of_ble_eq_true rfl) dX7_mode_28 ⟨Nat.zero_le _, Nat.zero_le _⟩ (fun r23 x22 H locs hq24 hP hS => ?_)
          obtain ⟨ex25, hf26⟩ := hq24
          rw [ex25] at hP
          refine w_icmp_gt (tgt := 45) S dX7_mode_31 (by decide) (fun hb27 => ?_) (fun hb27 => ?_)
          · refine w_iconst S dX7_mode_45 (by decide) (fun k28 hk28 => ?_)
            exact w_zret S hr0 hlk hP hS dX7_mode_46 (z01 (by omega) (by omega)) (⟨hI3, hT4, hE5, by omega, by omega, by omega⟩)
          · refine lv_iload S.1 S.2.1 dX7_mode_34 (lv_at hl 4 rfl) ?_
            refine w_if_lt (tgt := 45) S dX7_mode_36 (by decide) (fun hb29 => ?_) (fun hb29 => ?_)
            · refine w_iconst S dX7_mode_45 (by decide) (fun k30 hk30 => ?_)
              exact w_zret S hr0 hlk hP hS dX7_mode_46 (z01 (by omega) (by omega)) (⟨hI3, hT4, hE5, by omega, by omega, by omega⟩)
            · refine lv_iload S.1 S.2.1 dX7_mode_39 (lv_at hl 4 rfl) ?_
              refine w_iconst S dX7_mode_41 (by decide) (fun k31 hk31 => ?_)
              refine w_icmp_le (tgt := 47) S dX7_mode_42 (by decide) (fun hb32 => ?_) (fun hb32 => ?_)
              · refine lv_iload S.1 S.2.1 dX7_mode_47 (lv_at hl 4 rfl) ?_
                refine w_if_ne (tgt := 61) S dX7_mode_49 (by decide) (fun hb33 => ?_) (fun hb33 => ?_)
                · refine lv_aload_n S.1 S.2.1 dX7_mode_61 rfl (lv_at hl 0 rfl) ?_
                  refine w_get (C := RX7) (T := TX7) (N := 34) S (fun _ h => List.mem_cons_of_mem _ (List.mem_append_right _ h)) hK hP 89 (by decide) (ceK89 _) rfl 23 (by decide) (hts _ (List.mem_of_getElem? (i := 2) rfl)) (v := .ref (g.1 112)) rfl dX7_mode_62 ?_
                  refine lv_iload_n S.1 S.2.1 dX7_mode_65 rfl (lv_at hl 1 rfl) ?_
                  refine w_iald S hK hP 112 (by decide) ceK112 (by omega) (by omega) dX7_mode_66 (fun v34 ev34 => ?_)
                  have wv34 : v34.toInt = (x2 112 po.toInt.toNat).toInt := by rw [ev34]
                  have rv34 : (0 : Int) ≤ v34.toInt ∧ v34.toInt ≤ (3 : Int) := by rw [ev34]; exact hI3 112 _
                  refine w_iconst S dX7_mode_67 (by decide) (fun k35 hk35 => ?_)
                  refine w_icmp_ne (tgt := 73) S dX7_mode_68 (by decide) (fun hb36 => ?_) (fun hb36 => ?_)
                  · refine w_iconst S dX7_mode_73 (by decide) (fun k37 hk37 => ?_)
                    refine lv_iload_n S.1 S.2.1 dX7_mode_74 rfl (lv_at hl 1 rfl) ?_
                    refine w_imulk S dX7_mode_75 3 hk37 (by omega) (by omega) (fun v38 hv38 => ?_)
                    refine lv_aload_n S.1 S.2.1 dX7_mode_76 rfl (lv_at hl 0 rfl) ?_
                    refine w_get (C := RX7) (T := TX7) (N := 34) S (fun _ h => List.mem_cons_of_mem _ (List.mem_append_right _ h)) hK hP 89 (by decide) (ceK89 _) rfl 23 (by decide) (hts _ (List.mem_of_getElem? (i := 2) rfl)) (v := .ref (g.1 112)) rfl dX7_mode_77 ?_
                    refine lv_iload_n S.1 S.2.1 dX7_mode_80 rfl (lv_at hl 1 rfl) ?_
                    refine w_iald S hK hP 112 (by decide) ceK112 (by omega) (by omega) dX7_mode_81 (fun v39 ev39 => ?_)
                    have wv39 : v39.toInt = (x2 112 po.toInt.toNat).toInt := by rw [ev39]
                    have rv39 : (0 : Int) ≤ v39.toInt ∧ v39.toInt ≤ (3 : Int) := by rw [ev39]; exact hI3 112 _
                    refine w_iadd S dX7_mode_82 (by omega) (by omega) (fun v40 hv40 => ?_)
                    refine lv_istore (lv' := [(5, .int v40), (0, .ref (g.1 89)), (1, .int po), (2, .int wh), (3, .int vl), (4, .int wn)]) S.1 S.2.1 dX7_mode_83 hl (by decide) rfl (fun ls hl => ?_)
                    refine lv_aload_n S.1 S.2.1 dX7_mode_85 rfl (lv_at hl 1 rfl) ?_
                    refine w_get (C := RX7) (T := TX7) (N := 34) S (fun _ h => List.mem_cons_of_mem _ (List.mem_append_right _ h)) hK hP 89 (by decide) (ceK89 _) rfl 24 (by decide) (hts _ (List.mem_of_getElem? (i := 3) rfl)) (v := .ref (g.1 113)) rfl dX7_mode_86 ?_
                    refine lv_iload S.1 S.2.1 dX7_mode_89 (lv_at hl 0 rfl) ?_
                    refine lv_iload_n S.1 S.2.1 dX7_mode_91 rfl (lv_at hl 3 rfl) ?_
                    refine w_iast S hK hg hP hS 113 (by decide) ceK113 (by omega) (by omega) dX7_mode_92 (fun x41 H locs ex41 hP hS => ?_)
                    have hI42 : Inv x41 := by rw [ex41]; exact hI3.up (show (0 : Int) ≤ _ by omega) (show _ ≤ (24 : Int) by omega)
                    have hT43 : Same (TM) x x41 := by rw [ex41]; exact hT4.up (by unfold TM TrM; omega)
                    have hE44 : Rel x41 := by rw [ex41]; exact Rel.oth hE5 (by decide) (by decide)
                    have u45 : (x41 89 (33)).toInt = (x2 89 (33)).toInt := by rw [ex41, up2_ne _ _ (by omega)]
                    have u46 : (x41 112 (po.toInt.toNat)).toInt = (x2 112 (po.toInt.toNat)).toInt := by rw [ex41, up2_ne _ _ (by omega)]
                    refine lv_aload_n S.1 S.2.1 dX7_mode_93 rfl (lv_at hl 1 rfl) ?_
                    refine w_get (C := RX7) (T := TX7) (N := 34) S (fun _ h => List.mem_cons_of_mem _ (List.mem_append_right _ h)) hK hP 89 (by decide) (ceK89 _) rfl 25 (by decide) (hts _ (List.mem_of_getElem? (i := 4) rfl)) (v := .ref (g.1 114)) rfl dX7_mode_94 ?_
                    refine lv_iload S.1 S.2.1 dX7_mode_97 (lv_at hl 0 rfl) ?_
                    refine lv_iload_n S.1 S.2.1 dX7_mode_99 rfl (lv_at hl 4 rfl) ?_
                    refine w_iast S hK hg hP hS 114 (by decide) ceK114 (by omega) (by omega) dX7_mode_100 (fun x47 H locs ex47 hP hS => ?_)
                    have hI48 : Inv x47 := by rw [ex47]; exact hI42.up (i_ge _) (i_le _)
                    have hT49 : Same (TM) x x47 := by rw [ex47]; exact hT43.up (by unfold TM TrM; omega)
                    have hE50 : Rel x47 := by rw [ex47]; exact Rel.oth hE44 (by decide) (by decide)
                    have u51 : (x47 89 (33)).toInt = (x41 89 (33)).toInt := by rw [ex47, up2_ne _ _ (by omega)]
                    have u52 : (x47 112 (po.toInt.toNat)).toInt = (x41 112 (po.toInt.toNat)).toInt := by rw [ex47, up2_ne _ _ (by omega)]
                    refine lv_aload_n S.1 S.2.1 dX7_mode_101 rfl (lv_at hl 1 rfl) ?_
                    refine w_get (C := RX7) (T := TX7) (N := 34) S (fun _ h => List.mem_cons_of_mem _ (List.mem_append_right _ h)) hK hP 89 (by decide) (ceK89 _) rfl 26 (by decide) (hts _ (List.mem_of_getElem? (i := 5) rfl)) (v := .ref (g.1 115)) rfl dX7_mode_102 ?_
                    refine lv_iload S.1 S.2.1 dX7_mode_105 (lv_at hl 0 rfl) ?_
                    refine lv_iload S.1 S.2.1 dX7_mode_107 (lv_at hl 5 rfl) ?_
                    refine w_iconst S dX7_mode_109 (by decide) (fun k53 hk53 => ?_)
                    refine w_icmp_ne (tgt := 117) S dX7_mode_110 (by decide) (fun hb54 => ?_) (fun hb54 => ?_)
                    · refine w_iconst S dX7_mode_117 (by decide) (fun k55 hk55 => ?_)
                      refine w_zast S hK hg hP hS 115 (by decide) ceK115 (z01 (by omega) (by omega)) (by omega) (by omega) dX7_mode_118 (fun x56 H locs ex56 hP hS => ?_)
                      have hI57 : Inv x56 := by rw [ex56]; exact hI48.up (show (0 : Int) ≤ _ by omega) (show _ ≤ (1 : Int) by omega)
                      have hT58 : Same (TM) x x56 := by rw [ex56]; exact hT49.up (by unfold TM TrM; omega)
                      have hE59 : Rel x56 := by rw [ex56]; exact Rel.oth hE50 (by decide) (by decide)
                      have u60 : (x56 89 (33)).toInt = (x47 89 (33)).toInt := by rw [ex56, up2_ne _ _ (by omega)]
                      have u61 : (x56 112 (po.toInt.toNat)).toInt = (x47 112 (po.toInt.toNat)).toInt := by rw [ex56, up2_ne _ _ (by omega)]
                      refine lv_aload_n S.1 S.2.1 dX7_mode_119 rfl (lv_at hl 1 rfl) ?_
                      refine w_get (C := RX7) (T := TX7) (N := 34) S (fun _ h => List.mem_cons_of_mem _ (List.mem_append_right _ h)) hK hP 89 (by decide) (ceK89 _) rfl 27 (by decide) (hts _ (List.mem_of_getElem? (i := 6) rfl)) (v := .ref (g.1 116)) rfl dX7_mode_120 ?_
                      refine lv_iload S.1 S.2.1 dX7_mode_123 (lv_at hl 0 rfl) ?_
                      refine lv_aload_n S.1 S.2.1 dX7_mode_125 rfl (lv_at hl 1 rfl) ?_
                      refine w_get (C := RX7) (T := TX7) (N := 34) S (fun _ h => List.mem_cons_of_mem _ (List.mem_append_right _ h)) hK hP 89 (by decide) (ceK89 _) rfl 11 (by decide) (hts _ (List.mem_of_getElem? (i := 7) rfl)) (v := .ref (g.1 100)) rfl dX7_mode_126 ?_
                      refine lv_iload_n S.1 S.2.1 dX7_mode_129 rfl (lv_at hl 2 rfl) ?_
                      refine w_iald S hK hP 100 (by decide) ceK100 (by omega) (by omega) dX7_mode_130 (fun v62 ev62 => ?_)
                      have wv62 : v62.toInt = (x56 100 po.toInt.toNat).toInt := by rw [ev62]
                      have rv62 : (0 : Int) ≤ v62.toInt ∧ v62.toInt ≤ (64 : Int) := by rw [ev62]; exact hI57 100 _
                      refine lv_aload_n S.1 S.2.1 dX7_mode_131 rfl (lv_at hl 1 rfl) ?_
                      refine w_get (C := RX7) (T := TX7) (N := 34) S (fun _ h => List.mem_cons_of_mem _ (List.mem_append_right _ h)) hK hP 89 (by decide) (ceK89 _) rfl 13 (by decide) (hts _ (List.mem_of_getElem? (i := 8) rfl)) (v := .ref (g.1 102)) rfl dX7_mode_132 ?_
                      refine lv_iload_n S.1 S.2.1 dX7_mode_135 rfl (lv_at hl 2 rfl) ?_
                      refine w_iald S hK hP 102 (by decide) ceK102 (by omega) (by omega) dX7_mode_136 (fun v63 ev63 => ?_)
                      have wv63 : v63.toInt = (x56 102 po.toInt.toNat).toInt := by rw [ev63]
                      have rv63 : (0 : Int) ≤ v63.toInt ∧ v63.toInt ≤ (8 : Int) := by rw [ev63]; exact hI57 102 _
                      refine w_iadd S dX7_mode_137 (by omega) (by omega) (fun v64 hv64 => ?_)
                      refine w_iast S hK hg hP hS 116 (by decide) ceK116 (by omega) (by omega) dX7_mode_138 (fun x65 H locs ex65 hP hS => ?_)
                      have hI66 : Inv x65 := by rw [ex65]; exact hI57.up (i_ge _) (i_le _)
                      have hT67 : Same (TM) x x65 := by rw [ex65]; exact hT58.up (by unfold TM TrM; omega)
                      have hE68 : Rel x65 := by rw [ex65]; exact Rel.oth hE59 (by decide) (by decide)
                      have u69 : (x65 89 (33)).toInt = (x56 89 (33)).toInt := by rw [ex65, up2_ne _ _ (by omega)]
                      have u70 : (x65 112 (po.toInt.toNat)).toInt = (x56 112 (po.toInt.toNat)).toInt := by rw [ex65, up2_ne _ _ (by omega)]
                      refine lv_aload_n S.1 S.2.1 dX7_mode_139 rfl (lv_at hl 1 rfl) ?_
                      refine w_get (C := RX7) (T := TX7) (N := 34) S (fun _ h => List.mem_cons_of_mem _ (List.mem_append_right _ h)) hK hP 89 (by decide) (ceK89 _) rfl 23 (by decide) (hts _ (List.mem_of_getElem? (i := 2) rfl)) (v := .ref (g.1 112)) rfl dX7_mode_140 ?_
                      refine lv_iload_n S.1 S.2.1 dX7_mode_143 rfl (lv_at hl 2 rfl) ?_
                      refine lv_dup2_11 S.1 S.2.1 dX7_mode_144 rfl rfl ?_
                      refine w_iald S hK hP 112 (by decide) ceK112 (by omega) (by omega) dX7_mode_145 (fun v71 ev71 => ?_)
                      have wv71 : v71.toInt = (x65 112 po.toInt.toNat).toInt := by rw [ev71]
                      have rv71 : (0 : Int) ≤ v71.toInt ∧ v71.toInt ≤ (3 : Int) := by rw [ev71]; exact hI66 112 _
                      refine w_iconst S dX7_mode_146 (by decide) (fun k72 hk72 => ?_)
                      refine w_iadd S dX7_mode_147 (by omega) (by omega) (fun v73 hv73 => ?_)
                      refine w_iast S hK hg hP hS 112 (by decide) ceK112 (by omega) (by omega) dX7_mode_148 (fun x74 H locs ex74 hP hS => ?_)
                      have hI75 : Inv x74 := by rw [ex74]; exact hI66.up (show (0 : Int) ≤ _ by omega) (show _ ≤ (3 : Int) by omega)
                      have hT76 : Same (TM) x x74 := by rw [ex74]; exact hT67.up (by unfold TM TrM; omega)
                      have hE77 : Rel x74 := by rw [ex74]; exact Rel.oth hE68 (by decide) (by decide)
                      have u78 : (x74 89 (33)).toInt = (x65 89 (33)).toInt := by rw [ex74, up2_ne _ _ (by omega)]
                      have u79 : (x74 112 (po.toInt.toNat)).toInt = v73.toInt := by rw [ex74, up2_at]
                      refine lv_aload_n S.1 S.2.1 dX7_mode_149 rfl (lv_at hl 1 rfl) ?_
                      refine lv_iload_n S.1 S.2.1 dX7_mode_150 rfl (lv_at hl 2 rfl) ?_
                      refine w_cVv (As := [.int po]) (rest := []) S hK hN hP hS hl 89 (by decide) (ceK89 _) rfl (c_X7_settle l D g hg x74 hI75 hE77 po (by omega)) (cwV 1 hts gX7_mode_X7_settle rfl rfl rfl (by decide +kernel) ⟨Nat.le_of_ble_eq_true rfl, Nat.le_of_ble_eq_true rfl⟩) rfl rfl (Nat.le_of_ble_eq_true rfl) dX7_mode_151 ⟨Nat.zero_le _, Nat.zero_le _⟩ (fun x80 H locs hq82 hP hS => ?_)
                      obtain ⟨hI83, hT84, hE86, hf85⟩ := hq82
                      have hT87 : Same (TM) x x80 := hT76.tr hT84 (fun _ _ h => h)
                      refine w_iconst S dX7_mode_154 (by decide) (fun k88 hk88 => ?_)
                      exact w_zret S hr0 hlk hP hS dX7_mode_155 (z01 (by omega) (by omega)) (⟨hI83, hT87, hE86, by omega, by omega, by omega⟩)
                    · refine w_iconst S dX7_mode_113 (by decide) (fun k89 hk89 => ?_)
                      refine lv_goto (tgt := 118) S.1 S.2.1 dX7_mode_114 (by decide) ?_
                      refine w_zast S hK hg hP hS 115 (by decide) ceK115 (z01 (by omega) (by omega)) (by omega) (by omega) dX7_mode_118 (fun x90 H locs ex90 hP hS => ?_)
                      have hI91 : Inv x90 := by rw [ex90]; exact hI48.up (show (0 : Int) ≤ _ by omega) (show _ ≤ (1 : Int) by omega)
                      have hT92 : Same (TM) x x90 := by rw [ex90]; exact hT49.up (by unfold TM TrM; omega)
                      have hE93 : Rel x90 := by rw [ex90]; exact Rel.oth hE50 (by decide) (by decide)
                      have u94 : (x90 89 (33)).toInt = (x47 89 (33)).toInt := by rw [ex90, up2_ne _ _ (by omega)]
                      have u95 : (x90 112 (po.toInt.toNat)).toInt = (x47 112 (po.toInt.toNat)).toInt := by rw [ex90, up2_ne _ _ (by omega)]
                      refine lv_aload_n S.1 S.2.1 dX7_mode_119 rfl (lv_at hl 1 rfl) ?_
                      refine w_get (C := RX7) (T := TX7) (N := 34) S (fun _ h => List.mem_cons_of_mem _ (List.mem_append_right _ h)) hK hP 89 (by decide) (ceK89 _) rfl 27 (by decide) (hts _ (List.mem_of_getElem? (i := 6) rfl)) (v := .ref (g.1 116)) rfl dX7_mode_120 ?_
                      refine lv_iload S.1 S.2.1 dX7_mode_123 (lv_at hl 0 rfl) ?_
                      refine lv_aload_n S.1 S.2.1 dX7_mode_125 rfl (lv_at hl 1 rfl) ?_
                      refine w_get (C := RX7) (T := TX7) (N := 34) S (fun _ h => List.mem_cons_of_mem _ (List.mem_append_right _ h)) hK hP 89 (by decide) (ceK89 _) rfl 11 (by decide) (hts _ (List.mem_of_getElem? (i := 7) rfl)) (v := .ref (g.1 100)) rfl dX7_mode_126 ?_
                      refine lv_iload_n S.1 S.2.1 dX7_mode_129 rfl (lv_at hl 2 rfl) ?_
                      refine w_iald S hK hP 100 (by decide) ceK100 (by omega) (by omega) dX7_mode_130 (fun v96 ev96 => ?_)
                      have wv96 : v96.toInt = (x90 100 po.toInt.toNat).toInt := by rw [ev96]
                      have rv96 : (0 : Int) ≤ v96.toInt ∧ v96.toInt ≤ (64 : Int) := by rw [ev96]; exact hI91 100 _
                      refine lv_aload_n S.1 S.2.1 dX7_mode_131 rfl (lv_at hl 1 rfl) ?_
                      refine w_get (C := RX7) (T := TX7) (N := 34) S (fun _ h => List.mem_cons_of_mem _ (List.mem_append_right _ h)) hK hP 89 (by decide) (ceK89 _) rfl 13 (by decide) (hts _ (List.mem_of_getElem? (i := 8) rfl)) (v := .ref (g.1 102)) rfl dX7_mode_132 ?_
                      refine lv_iload_n S.1 S.2.1 dX7_mode_135 rfl (lv_at hl 2 rfl) ?_
                      refine w_iald S hK hP 102 (by decide) ceK102 (by omega) (by omega) dX7_mode_136 (fun v97 ev97 => ?_)
                      have wv97 : v97.toInt = (x90 102 po.toInt.toNat).toInt := by rw [ev97]
                      have rv97 : (0 : Int) ≤ v97.toInt ∧ v97.toInt ≤ (8 : Int) := by rw [ev97]; exact hI91 102 _
                      refine w_iadd S dX7_mode_137 (by omega) (by omega) (fun v98 hv98 => ?_)
                      refine w_iast S hK hg hP hS 116 (by decide) ceK116 (by omega) (by omega) dX7_mode_138 (fun x99 H locs ex99 hP hS => ?_)
                      have hI100 : Inv x99 := by rw [ex99]; exact hI91.up (i_ge _) (i_le _)
                      have hT101 : Same (TM) x x99 := by rw [ex99]; exact hT92.up (by unfold TM TrM; omega)
                      have hE102 : Rel x99 := by rw [ex99]; exact Rel.oth hE93 (by decide) (by decide)
                      have u103 : (x99 89 (33)).toInt = (x90 89 (33)).toInt := by rw [ex99, up2_ne _ _ (by omega)]
                      have u104 : (x99 112 (po.toInt.toNat)).toInt = (x90 112 (po.toInt.toNat)).toInt := by rw [ex99, up2_ne _ _ (by omega)]
                      refine lv_aload_n S.1 S.2.1 dX7_mode_139 rfl (lv_at hl 1 rfl) ?_
                      refine w_get (C := RX7) (T := TX7) (N := 34) S (fun _ h => List.mem_cons_of_mem _ (List.mem_append_right _ h)) hK hP 89 (by decide) (ceK89 _) rfl 23 (by decide) (hts _ (List.mem_of_getElem? (i := 2) rfl)) (v := .ref (g.1 112)) rfl dX7_mode_140 ?_
                      refine lv_iload_n S.1 S.2.1 dX7_mode_143 rfl (lv_at hl 2 rfl) ?_
                      refine lv_dup2_11 S.1 S.2.1 dX7_mode_144 rfl rfl ?_
                      refine w_iald S hK hP 112 (by decide) ceK112 (by omega) (by omega) dX7_mode_145 (fun v105 ev105 => ?_)
                      have wv105 : v105.toInt = (x99 112 po.toInt.toNat).toInt := by rw [ev105]
                      have rv105 : (0 : Int) ≤ v105.toInt ∧ v105.toInt ≤ (3 : Int) := by rw [ev105]; exact hI100 112 _
                      refine w_iconst S dX7_mode_146 (by decide) (fun k106 hk106 => ?_)
                      refine w_iadd S dX7_mode_147 (by omega) (by omega) (fun v107 hv107 => ?_)
                      refine w_iast S hK hg hP hS 112 (by decide) ceK112 (by omega) (by omega) dX7_mode_148 (fun x108 H locs ex108 hP hS => ?_)
                      have hI109 : Inv x108 := by rw [ex108]; exact hI100.up (show (0 : Int) ≤ _ by omega) (show _ ≤ (3 : Int) by omega)
                      have hT110 : Same (TM) x x108 := by rw [ex108]; exact hT101.up (by unfold TM TrM; omega)
                      have hE111 : Rel x108 := by rw [ex108]; exact Rel.oth hE102 (by decide) (by decide)
                      have u112 : (x108 89 (33)).toInt = (x99 89 (33)).toInt := by rw [ex108, up2_ne _ _ (by omega)]
                      have u113 : (x108 112 (po.toInt.toNat)).toInt = v107.toInt := by rw [ex108, up2_at]
                      refine lv_aload_n S.1 S.2.1 dX7_mode_149 rfl (lv_at hl 1 rfl) ?_
                      refine lv_iload_n S.1 S.2.1 dX7_mode_150 rfl (lv_at hl 2 rfl) ?_
                      refine w_cVv (As := [.int po]) (rest := []) S hK hN hP hS hl 89 (by decide) (ceK89 _) rfl (c_X7_settle l D g hg x108 hI109 hE111 po (by omega)) (cwV 1 hts gX7_mode_X7_settle rfl rfl rfl (by decide +kernel) ⟨Nat.le_of_ble_eq_true rfl, Nat.le_of_ble_eq_true rfl⟩) rfl rfl (Nat.le_of_ble_eq_true rfl) dX7_mode_151 ⟨Nat.zero_le _, Nat.zero_le _⟩ (fun x114 H locs hq116 hP hS => ?_)
                      obtain ⟨hI117, hT118, hE120, hf119⟩ := hq116
                      have hT121 : Same (TM) x x114 := hT110.tr hT118 (fun _ _ h => h)
                      refine w_iconst S dX7_mode_154 (by decide) (fun k122 hk122 => ?_)
                      exact w_zret S hr0 hlk hP hS dX7_mode_155 (z01 (by omega) (by omega)) (⟨hI117, hT121, hE120, by omega, by omega, by omega⟩)
                  · refine w_iconst S dX7_mode_71 (by decide) (fun k123 hk123 => ?_)
                    exact w_zret S hr0 hlk hP hS dX7_mode_72 (z01 (by omega) (by omega)) (⟨hI3, hT4, hE5, by omega, by omega, by omega⟩)
                · refine lv_aload_n S.1 S.2.1 dX7_mode_52 rfl (lv_at hl 0 rfl) ?_
                  refine lv_iload_n S.1 S.2.1 dX7_mode_53 rfl (lv_at hl 1 rfl) ?_
                  refine lv_iload_n S.1 S.2.1 dX7_mode_54 rfl (lv_at hl 2 rfl) ?_
                  refine lv_iload_n S.1 S.2.1 dX7_mode_55 rfl (lv_at hl 3 rfl) ?_
                  refine w_cVv (As := [.int po, .int wh, .int vl]) (rest := []) S hK hN hP hS hl 89 (by decide) (ceK89 _) rfl (c_X7_sets l D g hg x2 hI3 hE5 po wh vl (by omega) (by omega)) (cwV 3 hts gX7_mode_X7_sets rfl rfl rfl (by decide +kernel) ⟨Nat.le_of_ble_eq_true rfl, Nat.le_of_ble_eq_true rfl⟩) rfl rfl (Nat.le_of_ble_eq_true rfl) dX7_mode_56 ⟨Nat.zero_le _, Nat.zero_le _⟩ (fun x124 H locs hq126 hP hS => ?_)
                  obtain ⟨hI127, hT128, hE130, hf129⟩ := hq126
                  have hT131 : Same (TM) x x124 := hT4.tr hT128 (fun c0 k0 h => by unfold TM TrM at h; unfold TS; omega)
                  have u132 : (x124 89 (33)).toInt = (x2 89 (33)).toInt := by rw [hT128 89 (33) (by unfold TS; omega)]
                  have u133 : (x124 112 (po.toInt.toNat)).toInt = (x2 112 (po.toInt.toNat)).toInt := by rw [hT128 112 (po.toInt.toNat) (by unfold TS; omega)]
                  refine w_iconst S dX7_mode_59 (by decide) (fun k134 hk134 => ?_)
                  exact w_zret S hr0 hlk hP hS dX7_mode_60 (z01 (by omega) (by omega)) (⟨hI127, hT131, hE130, by omega, by omega, by omega⟩)
              · refine w_iconst S dX7_mode_45 (by decide) (fun k135 hk135 => ?_)
                exact w_zret S hr0 hlk hP hS dX7_mode_46 (z01 (by omega) (by omega)) (⟨hI3, hT4, hE5, by omega, by omega, by omega⟩)
set_option maxRecDepth 100000 in
set_option maxHeartbeats 4000000 in
theorem c_X7_modeOf (l : Launch) (D : va_G) (g : GA) (hg : Inj g) (x : St) (hI : Inv x) (hE : Rel x) (po : Int32) (wh : Int32) (hy0 : (x 89 33).toInt = 0) : Met l yX7_modeOf wsX7_modeOf ({ frames := 1, cells := 0, slots := 0, locals := 22 } : Room) (va_Pc [.ref (g.1 89), .int po, .int wh] (WI D g x)) (va_Qi (fun r x2 => Inv x2 ∧ Same TM x x2 ∧ Rel x2 ∧ (x2 89 33).toInt = 0 ∧ ((0 ≤ po.toInt ∧ po.toInt ≤ 3 ∧ 0 ≤ wh.toInt ∧ wh.toInt ≤ 24) → r.toInt = (x 90 ((25 * po.toInt + wh.toInt).toNat)).toInt) ∧ (¬ (0 ≤ po.toInt ∧ po.toInt ≤ 3 ∧ 0 ≤ wh.toInt ∧ wh.toInt ≤ 24) → r.toInt = -1)) (WO D g) (AQ g)) 0 0 (AQ g) := by
  refine w_met (cc := cX7_modeOf) (maxL := 3) (ret := (some .int)) (own := RX7) (by decide) rfl rfl (Nat.le_of_ble_eq_true rfl) (fun p e s m below meth co S hr0 hlk hK hN hP hS ls hl => ?_)
  have hts := S.2.2.2.2
  have hl : lv_has ls 3 [(0, .ref (g.1 89)), (1, .int po), (2, .int wh)] := hl
  have hT : Same (TM) x x := Same.rf
  refine lv_aload_n S.1 S.2.1 dX7_modeOf_0 rfl (lv_at hl 0 rfl) ?_
  refine w_iconst S dX7_modeOf_1 (by decide) (fun k1 hk1 => ?_)
  refine w_put (C := RX7) (T := TX7) (N := 34) (F := FMod g) S (fun _ h => List.mem_cons_of_mem _ (List.mem_append_right _ h)) tyX7_ok nmX7 hK hg hP hS 89 (by decide) ceK89 rfl 0 (by decide) (hts _ (List.mem_of_getElem? (i := 1) rfl)) rfl rfl rfl (fun _ => Nat.le_of_ble_eq_true rfl) (fun _ => rfl) dX7_modeOf_2 (fun x2 H locs ex2 hP hS => ?_)
  have hI3 : Inv x2 := by rw [ex2]; exact hI.up (i_ge _) (i_le _)
  have hT4 : Same (TM) x x2 := by rw [ex2]; exact hT.up (by unfold TM TrM; omega)
  have hE5 : Rel x2 := by rw [ex2]; exact Rel.oth hE (by decide) (by decide)
  have u6 : (x2 89 (33)).toInt = (x 89 (33)).toInt := by rw [ex2, up2_ne _ _ (by omega)]
  have u7 : (x2 90 ((25 * po.toInt + wh.toInt).toNat)).toInt = (x 90 ((25 * po.toInt + wh.toInt).toNat)).toInt := by rw [ex2, up2_ne _ _ (by omega)]
  refine lv_iload_n S.1 S.2.1 dX7_modeOf_5 rfl (lv_at hl 1 rfl) ?_
  refine w_cSi (As := [.int po]) (rest := []) S hK hN hP hS hl (c_X7_isPort l D g hg x2 hI3 po) (va_cwS 1 hts gX7_modeOf_X7_isPort rfl rfl rfl (by decide +kernel) ⟨Nat.le_of_ble_eq_true rfl, Nat.le_of_ble_eq_true rfl⟩) rfl rfl (Nat.le_of_ble_eq_true rfl) dX7_modeOf_6 ⟨Nat.zero_le _, Nat.zero_le _⟩ (fun r9 x8 H locs hq10 hP hS => ?_)
  obtain ⟨ex11, hf12⟩ := hq10
  rw [ex11] at hP
  refine w_if_eq (tgt := 22) S dX7_modeOf_9 (by decide) (fun hb13 => ?_) (fun hb13 => ?_)
  · refine w_iconst S dX7_modeOf_22 (by decide) (fun k14 hk14 => ?_)
    exact w_iret S hr0 hlk hP hS dX7_modeOf_23 (⟨hI3, hT4, hE5, by omega, by omega, by omega⟩)
  · refine lv_iload_n S.1 S.2.1 dX7_modeOf_12 rfl (lv_at hl 2 rfl) ?_
    refine w_if_lt (tgt := 22) S dX7_modeOf_13 (by decide) (fun hb15 => ?_) (fun hb15 => ?_)
    · refine w_iconst S dX7_modeOf_22 (by decide) (fun k16 hk16 => ?_)
      exact w_iret S hr0 hlk hP hS dX7_modeOf_23 (⟨hI3, hT4, hE5, by omega, by omega, by omega⟩)
    · refine lv_iload_n S.1 S.2.1 dX7_modeOf_16 rfl (lv_at hl 2 rfl) ?_
      refine w_bipush S dX7_modeOf_17 (by decide) (fun k17 hk17 => ?_)
      refine w_icmp_le (tgt := 24) S dX7_modeOf_19 (by decide) (fun hb18 => ?_) (fun hb18 => ?_)
      · refine lv_aload_n S.1 S.2.1 dX7_modeOf_24 rfl (lv_at hl 0 rfl) ?_
        refine lv_iload_n S.1 S.2.1 dX7_modeOf_25 rfl (lv_at hl 1 rfl) ?_
        refine lv_iload_n S.1 S.2.1 dX7_modeOf_26 rfl (lv_at hl 2 rfl) ?_
        refine w_cVi (As := [.int po, .int wh]) (rest := []) S hK hN hP hS hl 89 (by decide) (ceK89 _) rfl (c_X7_mode1 l D g hg x2 hI3 po wh (by omega) (by omega)) (cwV 2 hts gX7_modeOf_X7_mode1 rfl rfl rfl (by decide +kernel) ⟨Nat.le_of_ble_eq_true rfl, Nat.le_of_ble_eq_true rfl⟩) rfl rfl (Nat.le_of_ble_eq_true rfl) dX7_modeOf_27 ⟨Nat.zero_le _, Nat.zero_le _⟩ (fun r20 x19 H locs hq21 hP hS => ?_)
        obtain ⟨ex22, hf23⟩ := hq21
        rw [ex22] at hP
        exact w_iret S hr0 hlk hP hS dX7_modeOf_30 (⟨hI3, hT4, hE5, by omega, by omega, by omega⟩)
      · refine w_iconst S dX7_modeOf_22 (by decide) (fun k24 hk24 => ?_)
        exact w_iret S hr0 hlk hP hS dX7_modeOf_23 (⟨hI3, hT4, hE5, by omega, by omega, by omega⟩)
set_option maxRecDepth 100000 in
set_option maxHeartbeats 4000000 in
theorem c_X7_poll (l : Launch) (D : va_G) (g : GA) (hg : Inj g) (x : St) (hI : Inv x) (hE : Rel x) (a : Int32) (po : Int32) (hy0 : (x 89 33).toInt = 0) : Met l yX7_poll wsX7_poll ({ frames := 7, cells := 0, slots := 0, locals := 159 } : Room) (va_Pc [.ref (g.1 89), .int a, .int po] (WI D g x)) (va_Qi (fun r x2 => Inv x2 ∧ Same (TMr po.toInt.toNat) x x2 ∧ Rel x2 ∧ (x2 89 33).toInt = 0 ∧ ((0 ≤ a.toInt ∧ a.toInt ≤ 7 ∧ 0 ≤ po.toInt ∧ po.toInt ≤ 3) → (x2 93 (po.toInt.toNat)).toInt = 0 ∧ ((x 93 (po.toInt.toNat)).toInt = 0 → (x 117 ((8 * po.toInt + a.toInt).toNat)).toInt = 0 → (x 100 (po.toInt.toNat)).toInt = 0 → (x 110 (po.toInt.toNat)).toInt = 0 → r.toInt = 3)) ∧ (¬ (0 ≤ a.toInt ∧ a.toInt ≤ 7 ∧ 0 ≤ po.toInt ∧ po.toInt ≤ 3) → r.toInt = -1 ∧ Same TM x x2)) (WO D g) (AQ g)) 0 0 (AQ g) := by
  refine w_met (cc := cX7_poll) (maxL := 4) (ret := (some .int)) (own := RX7) (by decide) rfl rfl (Nat.le_of_ble_eq_true rfl) (fun p e s m below meth co S hr0 hlk hK hN hP hS ls hl => ?_)
  have hts := S.2.2.2.2
  have hl : lv_has ls 4 [(0, .ref (g.1 89)), (1, .int a), (2, .int po)] := hl
  have hT : Same (TMr po.toInt.toNat) x x := Same.rf
  have J71 : ∀ (x_71 : St) (H : Heap) (locs : List Loc) (ls : Array Slot) (y71_3 : Int32), Inv x_71 → Same (TMr po.toInt.toNat) x x_71 → Rel x_71 → (0 ≤ y71_3.toInt ∧ y71_3.toInt ≤ 1) → ((x 117 ((8 * po.toInt + a.toInt).toNat)).toInt = 0 → y71_3.toInt = 1) → ((x 93 (po.toInt.toNat)).toInt = 0 → (x_71 100 (po.toInt.toNat)).toInt = (x 100 (po.toInt.toNat)).toInt) → ((x_71 110 (po.toInt.toNat)).toInt = (x 110 (po.toInt.toNat)).toInt) → ((x_71 93 (po.toInt.toNat)).toInt = 0) → ((x_71 89 33).toInt = 0) → (0 ≤ a.toInt ∧ a.toInt ≤ 7 ∧ 0 ≤ po.toInt ∧ po.toInt ≤ 3) → va_P D vwCl (WL g x_71) H → va_S (AQ g) s.heap H locs → lv_has ls 4 [(0, .ref (g.1 89)), (1, .int a), (2, .int po), (3, .int y71_3)] → W p l e ({ frames := 7, cells := 0, slots := 0, locals := 159 } : Room) s m ([.ref (g.1 89), .int a, .int po] : List Value).toArray below meth co H locs 0 0 (MQ below (va_Qi (fun r x2 => Inv x2 ∧ Same (TMr po.toInt.toNat) x x2 ∧ Rel x2 ∧ (x2 89 33).toInt = 0 ∧ ((0 ≤ a.toInt ∧ a.toInt ≤ 7 ∧ 0 ≤ po.toInt ∧ po.toInt ≤ 3) → (x2 93 (po.toInt.toNat)).toInt = 0 ∧ ((x 93 (po.toInt.toNat)).toInt = 0 → (x 117 ((8 * po.toInt + a.toInt).toNat)).toInt = 0 → (x 100 (po.toInt.toNat)).toInt = 0 → (x 110 (po.toInt.toNat)).toInt = 0 → r.toInt = 3)) ∧ (¬ (0 ≤ a.toInt ∧ a.toInt ≤ 7 ∧ 0 ≤ po.toInt ∧ po.toInt ≤ 3) → r.toInt = -1 ∧ Same TM x x2)) (WO D g) (AQ g)) ([.ref (g.1 89), .int a, .int po] : List Value).toArray s 0 0 (AQ g)) (F0 m 71 ls []) := by
    intro x_71 H locs ls y71_3 hI_71 hT_71 hE_71 hf71_0 hf71_1 hf71_2 hf71_3 hf71_4 hf71_5 hf71_6 hP hS hl
    refine lv_aload_n S.1 S.2.1 dX7_poll_71 rfl (lv_at hl 0 rfl) ?_
    refine w_get (C := RX7) (T := TX7) (N := 34) S (fun _ h => List.mem_cons_of_mem _ (List.mem_append_right _ h)) hK hP 89 (by decide) (ceK89 _) rfl 11 (by decide) (hts _ (List.mem_of_getElem? (i := 5) rfl)) (v := .ref (g.1 100)) rfl dX7_poll_72 ?_
    refine lv_iload_n S.1 S.2.1 dX7_poll_75 rfl (lv_at hl 2 rfl) ?_
    refine w_iald S hK hP 100 (by decide) ceK100 (by omega) (by omega) dX7_poll_76 (fun v1 ev1 => ?_)
    have wv1 : v1.toInt = (x_71 100 po.toInt.toNat).toInt := by rw [ev1]
    have rv1 : (0 : Int) ≤ v1.toInt ∧ v1.toInt ≤ (64 : Int) := by rw [ev1]; exact hI_71 100 _
    refine w_bipush S dX7_poll_77 (by decide) (fun k2 hk2 => ?_)
    refine w_icmp_gt (tgt := 85) S dX7_poll_79 (by decide) (fun hb3 => ?_) (fun hb3 => ?_)
    · refine lv_aload_n S.1 S.2.1 dX7_poll_85 rfl (lv_at hl 0 rfl) ?_
      refine w_get (C := RX7) (T := TX7) (N := 34) S (fun _ h => List.mem_cons_of_mem _ (List.mem_append_right _ h)) hK hP 89 (by decide) (ceK89 _) rfl 21 (by decide) (hts _ (List.mem_of_getElem? (i := 4) rfl)) (v := .ref (g.1 110)) rfl dX7_poll_86 ?_
      refine lv_iload_n S.1 S.2.1 dX7_poll_89 rfl (lv_at hl 2 rfl) ?_
      refine w_zald S hK hP 110 (by decide) ceK110 (by omega) (by omega) dX7_poll_90 (fun v4 ev4 => ?_)
      have wv4 : v4.toInt = (x_71 110 po.toInt.toNat).toInt := by rw [ev4]
      have rv4 : (0 : Int) ≤ v4.toInt ∧ v4.toInt ≤ (1 : Int) := by rw [ev4]; exact hI_71 110 _
      refine w_if_eq (tgt := 97) S dX7_poll_91 (by decide) (fun hb5 => ?_) (fun hb5 => ?_)
      · refine lv_iload_n S.1 S.2.1 dX7_poll_97 rfl (lv_at hl 3 rfl) ?_
        exact w_iret S hr0 hlk hP hS dX7_poll_98 (⟨hI_71, hT_71, hE_71, by omega, fun _ => ⟨by omega, by omega⟩, fun hv => absurd hv (by omega)⟩)
      · refine w_iinc (lv' := [(0, .ref (g.1 89)), (1, .int a), (2, .int po)]) S dX7_poll_94 hl (k := 3) rfl (by decide) (by decide) (by omega) (by omega) (fun _ => rfl) (fun v6 ls hv6 hl => ?_)
        refine lv_iload_n S.1 S.2.1 dX7_poll_97 rfl (lv_at hl 0 rfl) ?_
        exact w_iret S hr0 hlk hP hS dX7_poll_98 (⟨hI_71, hT_71, hE_71, by omega, fun _ => ⟨by omega, by omega⟩, fun hv => absurd hv (by omega)⟩)
    · refine w_iinc (lv' := [(0, .ref (g.1 89)), (1, .int a), (2, .int po)]) S dX7_poll_82 hl (k := 3) rfl (by decide) (by decide) (by omega) (by omega) (fun _ => rfl) (fun v7 ls hv7 hl => ?_)
      refine lv_aload_n S.1 S.2.1 dX7_poll_85 rfl (lv_at hl 1 rfl) ?_
      refine w_get (C := RX7) (T := TX7) (N := 34) S (fun _ h => List.mem_cons_of_mem _ (List.mem_append_right _ h)) hK hP 89 (by decide) (ceK89 _) rfl 21 (by decide) (hts _ (List.mem_of_getElem? (i := 4) rfl)) (v := .ref (g.1 110)) rfl dX7_poll_86 ?_
      refine lv_iload_n S.1 S.2.1 dX7_poll_89 rfl (lv_at hl 3 rfl) ?_
      refine w_zald S hK hP 110 (by decide) ceK110 (by omega) (by omega) dX7_poll_90 (fun v8 ev8 => ?_)
      have wv8 : v8.toInt = (x_71 110 po.toInt.toNat).toInt := by rw [ev8]
      have rv8 : (0 : Int) ≤ v8.toInt ∧ v8.toInt ≤ (1 : Int) := by rw [ev8]; exact hI_71 110 _
      refine w_if_eq (tgt := 97) S dX7_poll_91 (by decide) (fun hb9 => ?_) (fun hb9 => ?_)
      · refine lv_iload_n S.1 S.2.1 dX7_poll_97 rfl (lv_at hl 0 rfl) ?_
        exact w_iret S hr0 hlk hP hS dX7_poll_98 (⟨hI_71, hT_71, hE_71, by omega, fun _ => ⟨by omega, by omega⟩, fun hv => absurd hv (by omega)⟩)
      · refine w_iinc (lv' := [(0, .ref (g.1 89)), (1, .int a), (2, .int po)]) S dX7_poll_94 hl (k := 0) rfl (by decide) (by decide) (by omega) (by omega) (fun _ => rfl) (fun v10 ls hv10 hl => ?_)
        refine lv_iload_n S.1 S.2.1 dX7_poll_97 rfl (lv_at hl 0 rfl) ?_
        exact w_iret S hr0 hlk hP hS dX7_poll_98 (⟨hI_71, hT_71, hE_71, by omega, fun _ => ⟨by omega, by omega⟩, fun hv => absurd hv (by omega)⟩)
  refine lv_aload_n S.1 S.2.1 dX7_poll_0 rfl (lv_at hl 0 rfl) ?_
  refine w_iconst S dX7_poll_1 (by decide) (fun k11 hk11 => ?_)
  refine w_put (C := RX7) (T := TX7) (N := 34) (F := FMod g) S (fun _ h => List.mem_cons_of_mem _ (List.mem_append_right _ h)) tyX7_ok nmX7 hK hg hP hS 89 (by decide) ceK89 rfl 0 (by decide) (hts _ (List.mem_of_getElem? (i := 1) rfl)) rfl rfl rfl (fun _ => Nat.le_of_ble_eq_true rfl) (fun _ => rfl) dX7_poll_2 (fun x12 H locs ex12 hP hS => ?_)
  have hI13 : Inv x12 := by rw [ex12]; exact hI.up (i_ge _) (i_le _)
  have hT14 : Same (TMr po.toInt.toNat) x x12 := by rw [ex12]; exact hT.up (by unfold TMr TM TrM; omega)
  have hE15 : Rel x12 := by rw [ex12]; exact Rel.oth hE (by decide) (by decide)
  have u16 : (x12 89 (33)).toInt = (x 89 (33)).toInt := by rw [ex12, up2_ne _ _ (by omega)]
  have u17 : (x12 93 (po.toInt.toNat)).toInt = (x 93 (po.toInt.toNat)).toInt := by rw [ex12, up2_ne _ _ (by omega)]
  have u18 : (x12 117 ((8 * po.toInt + a.toInt).toNat)).toInt = (x 117 ((8 * po.toInt + a.toInt).toNat)).toInt := by rw [ex12, up2_ne _ _ (by omega)]
  have u19 : (x12 110 (po.toInt.toNat)).toInt = (x 110 (po.toInt.toNat)).toInt := by rw [ex12, up2_ne _ _ (by omega)]
  have u20 : (x12 100 (po.toInt.toNat)).toInt = (x 100 (po.toInt.toNat)).toInt := by rw [ex12, up2_ne _ _ (by omega)]
  have hm5 : Same TM x x12 := by rw [ex12]; exact Same.rf.up (by unfold TM TrM; omega)
  refine lv_iload_n S.1 S.2.1 dX7_poll_5 rfl (lv_at hl 1 rfl) ?_
  refine w_cSi (As := [.int a]) (rest := []) S hK hN hP hS hl (c_X7_isProcess l D g hg x12 hI13 a) (va_cwS 1 hts gX7_poll_X7_isProcess rfl rfl rfl (by decide +kernel) ⟨Nat.le_of_ble_eq_true rfl, Nat.le_of_ble_eq_true rfl⟩) rfl rfl (Nat.le_of_ble_eq_true rfl) dX7_poll_6 ⟨Nat.zero_le _, Nat.zero_le _⟩ (fun r22 x21 H locs hq23 hP hS => ?_)
  obtain ⟨ex24, hf25⟩ := hq23
  rw [ex24] at hP
  refine w_if_eq (tgt := 19) S dX7_poll_9 (by decide) (fun hb26 => ?_) (fun hb26 => ?_)
  · refine w_iconst S dX7_poll_19 (by decide) (fun k27 hk27 => ?_)
    exact w_iret S hr0 hlk hP hS dX7_poll_20 (⟨hI13, hT14, hE15, by omega, fun hv => absurd hv (by omega), fun _ => ⟨by omega, hm5⟩⟩)
  · refine lv_iload_n S.1 S.2.1 dX7_poll_12 rfl (lv_at hl 2 rfl) ?_
    refine w_cSi (As := [.int po]) (rest := []) S hK hN hP hS hl (c_X7_isPort l D g hg x12 hI13 po) (va_cwS 1 hts gX7_poll_X7_isPort rfl rfl rfl (by decide +kernel) ⟨Nat.le_of_ble_eq_true rfl, Nat.le_of_ble_eq_true rfl⟩) rfl rfl (Nat.le_of_ble_eq_true rfl) dX7_poll_13 ⟨Nat.zero_le _, Nat.zero_le _⟩ (fun r29 x28 H locs hq30 hP hS => ?_)
    obtain ⟨ex31, hf32⟩ := hq30
    rw [ex31] at hP
    refine w_if_ne (tgt := 21) S dX7_poll_16 (by decide) (fun hb33 => ?_) (fun hb33 => ?_)
    · refine lv_aload_n S.1 S.2.1 dX7_poll_21 rfl (lv_at hl 0 rfl) ?_
      refine lv_iload_n S.1 S.2.1 dX7_poll_22 rfl (lv_at hl 2 rfl) ?_
      refine w_cVv (As := [.int po]) (rest := []) S hK hN hP hS hl 89 (by decide) (ceK89 _) rfl (c_X7_pass l D g hg x12 hI13 hE15 po (by omega) (by omega)) (cwV 1 hts gX7_poll_X7_pass rfl rfl rfl (by decide +kernel) ⟨Nat.le_of_ble_eq_true rfl, Nat.le_of_ble_eq_true rfl⟩) rfl rfl (Nat.le_of_ble_eq_true rfl) dX7_poll_23 ⟨Nat.zero_le _, Nat.zero_le _⟩ (fun x34 H locs hq36 hP hS => ?_)
      obtain ⟨hI37, hT38, hE40, hf39⟩ := hq36
      have hT41 : Same (TMr po.toInt.toNat) x x34 := hT14.tr hT38 (fun _ _ h => h)
      have u42 : (x34 117 ((8 * po.toInt + a.toInt).toNat)).toInt = (x12 117 ((8 * po.toInt + a.toInt).toNat)).toInt := by rw [hT38 117 ((8 * po.toInt + a.toInt).toNat) (by unfold TMr TM TrM; omega)]
      have u43 : (x34 110 (po.toInt.toNat)).toInt = (x12 110 (po.toInt.toNat)).toInt := by rw [hT38 110 (po.toInt.toNat) (by unfold TMr TM TrM; omega)]
      have hs23 := hf39.1
      have ht23 := hf39.2.1
      have hc1 : (x12 93 (po.toInt.toNat)).toInt = 0 → (x34 100 (po.toInt.toNat)).toInt = (x12 100 (po.toInt.toNat)).toInt := fun h => by rw [hf39.2.2 h 100 _ (show (100 : Nat) ≠ 93 by decide)]
      refine w_iconst S dX7_poll_26 (by decide) (fun k44 hk44 => ?_)
      refine lv_istore_n (lv' := [(3, .int k44), (0, .ref (g.1 89)), (1, .int a), (2, .int po)]) S.1 S.2.1 dX7_poll_27 rfl hl (by decide) rfl (fun ls hl => ?_)
      refine lv_aload_n S.1 S.2.1 dX7_poll_28 rfl (lv_at hl 1 rfl) ?_
      refine w_get (C := RX7) (T := TX7) (N := 34) S (fun _ h => List.mem_cons_of_mem _ (List.mem_append_right _ h)) hK hP 89 (by decide) (ceK89 _) rfl 28 (by decide) (hts _ (List.mem_of_getElem? (i := 2) rfl)) (v := .ref (g.1 117)) rfl dX7_poll_29 ?_
      refine w_bipush S dX7_poll_32 (by decide) (fun k45 hk45 => ?_)
      refine lv_iload_n S.1 S.2.1 dX7_poll_34 rfl (lv_at hl 3 rfl) ?_
      refine w_imulk S dX7_poll_35 8 hk45 (by omega) (by omega) (fun v46 hv46 => ?_)
      refine lv_iload_n S.1 S.2.1 dX7_poll_36 rfl (lv_at hl 2 rfl) ?_
      refine w_iadd S dX7_poll_37 (by omega) (by omega) (fun v47 hv47 => ?_)
      have hix : v47.toInt.toNat = (8 * po.toInt + a.toInt).toNat := by omega
      refine w_zald S hK hP 117 (by decide) ceK117 (by omega) (by omega) dX7_poll_38 (fun v48 ev48 => ?_)
      have wv48 : v48.toInt = (x34 117 v47.toInt.toNat).toInt := by rw [ev48]
      have rv48 : (0 : Int) ≤ v48.toInt ∧ v48.toInt ≤ (1 : Int) := by rw [ev48]; exact hI37 117 _
      rw [hix] at wv48
      refine w_if_eq (tgt := 69) S dX7_poll_39 (by decide) (fun hb49 => ?_) (fun hb49 => ?_)
      · refine w_iconst S dX7_poll_69 (by decide) (fun k50 hk50 => ?_)
        refine lv_istore_n (lv' := [(3, .int k50), (0, .ref (g.1 89)), (1, .int a), (2, .int po)]) S.1 S.2.1 dX7_poll_70 rfl hl (by decide) rfl (fun ls hl => ?_)
        exact J71 _ _ _ _ k50 hI37 hT41 hE40 (by omega) (by omega) (by omega) (by omega) (by omega) (by omega) (by omega) hP hS (lv_sub hl [1, 2, 3, 0] rfl)
      · refine lv_aload_n S.1 S.2.1 dX7_poll_42 rfl (lv_at hl 1 rfl) ?_
        refine lv_iload_n S.1 S.2.1 dX7_poll_43 rfl (lv_at hl 2 rfl) ?_
        refine lv_iload_n S.1 S.2.1 dX7_poll_44 rfl (lv_at hl 3 rfl) ?_
        refine w_cVi (As := [.int a, .int po]) (rest := []) S hK hN hP hS hl 89 (by decide) (ceK89 _) rfl (c_X7_isBehind l D g hg x34 hI37 a po (by omega) (by omega)) (cwV 2 hts gX7_poll_X7_isBehind rfl rfl rfl (by decide +kernel) ⟨Nat.le_of_ble_eq_true rfl, Nat.le_of_ble_eq_true rfl⟩) rfl rfl (Nat.le_of_ble_eq_true rfl) dX7_poll_45 ⟨Nat.zero_le _, Nat.zero_le _⟩ (fun r52 x51 H locs hq53 hP hS => ?_)
        obtain ⟨ex54, hf55⟩ := hq53
        rw [ex54] at hP
        refine w_if_ne (tgt := 69) S dX7_poll_48 (by decide) (fun hb56 => ?_) (fun hb56 => ?_)
        · refine w_iconst S dX7_poll_69 (by decide) (fun k57 hk57 => ?_)
          refine lv_istore_n (lv' := [(3, .int k57), (0, .ref (g.1 89)), (1, .int a), (2, .int po)]) S.1 S.2.1 dX7_poll_70 rfl hl (by decide) rfl (fun ls hl => ?_)
          exact J71 _ _ _ _ k57 hI37 hT41 hE40 (by omega) (by omega) (by omega) (by omega) (by omega) (by omega) (by omega) hP hS (lv_sub hl [1, 2, 3, 0] rfl)
        · refine lv_aload_n S.1 S.2.1 dX7_poll_51 rfl (lv_at hl 1 rfl) ?_
          refine w_get (C := RX7) (T := TX7) (N := 34) S (fun _ h => List.mem_cons_of_mem _ (List.mem_append_right _ h)) hK hP 89 (by decide) (ceK89 _) rfl 8 (by decide) (hts _ (List.mem_of_getElem? (i := 3) rfl)) (v := .ref (g.1 97)) rfl dX7_poll_52 ?_
          refine lv_iload_n S.1 S.2.1 dX7_poll_55 rfl (lv_at hl 3 rfl) ?_
          refine w_iald S hK hP 97 (by decide) ceK97 (by omega) (by omega) dX7_poll_56 (fun v58 ev58 => ?_)
          have wv58 : v58.toInt = (x34 97 po.toInt.toNat).toInt := by rw [ev58]
          have rv58 : (0 : Int) ≤ v58.toInt ∧ v58.toInt ≤ (65 : Int) := by rw [ev58]; exact hI37 97 _
          refine w_if_gt (tgt := 69) S dX7_poll_57 (by decide) (fun hb59 => ?_) (fun hb59 => ?_)
          · refine w_iconst S dX7_poll_69 (by decide) (fun k60 hk60 => ?_)
            refine lv_istore_n (lv' := [(3, .int k60), (0, .ref (g.1 89)), (1, .int a), (2, .int po)]) S.1 S.2.1 dX7_poll_70 rfl hl (by decide) rfl (fun ls hl => ?_)
            exact J71 _ _ _ _ k60 hI37 hT41 hE40 (by omega) (by omega) (by omega) (by omega) (by omega) (by omega) (by omega) hP hS (lv_sub hl [1, 2, 3, 0] rfl)
          · refine lv_aload_n S.1 S.2.1 dX7_poll_60 rfl (lv_at hl 1 rfl) ?_
            refine w_get (C := RX7) (T := TX7) (N := 34) S (fun _ h => List.mem_cons_of_mem _ (List.mem_append_right _ h)) hK hP 89 (by decide) (ceK89 _) rfl 21 (by decide) (hts _ (List.mem_of_getElem? (i := 4) rfl)) (v := .ref (g.1 110)) rfl dX7_poll_61 ?_
            refine lv_iload_n S.1 S.2.1 dX7_poll_64 rfl (lv_at hl 3 rfl) ?_
            refine w_zald S hK hP 110 (by decide) ceK110 (by omega) (by omega) dX7_poll_65 (fun v61 ev61 => ?_)
            have wv61 : v61.toInt = (x34 110 po.toInt.toNat).toInt := by rw [ev61]
            have rv61 : (0 : Int) ≤ v61.toInt ∧ v61.toInt ≤ (1 : Int) := by rw [ev61]; exact hI37 110 _
            refine w_if_eq (tgt := 71) S dX7_poll_66 (by decide) (fun hb62 => ?_) (fun hb62 => ?_)
            · exact J71 _ _ _ _ k44 hI37 hT41 hE40 (by omega) (by omega) (by omega) (by omega) (by omega) (by omega) (by omega) hP hS (lv_sub hl [1, 2, 3, 0] rfl)
            · refine w_iconst S dX7_poll_69 (by decide) (fun k63 hk63 => ?_)
              refine lv_istore_n (lv' := [(3, .int k63), (0, .ref (g.1 89)), (1, .int a), (2, .int po)]) S.1 S.2.1 dX7_poll_70 rfl hl (by decide) rfl (fun ls hl => ?_)
              exact J71 _ _ _ _ k63 hI37 hT41 hE40 (by omega) (by omega) (by omega) (by omega) (by omega) (by omega) (by omega) hP hS (lv_sub hl [1, 2, 3, 0] rfl)
    · refine w_iconst S dX7_poll_19 (by decide) (fun k64 hk64 => ?_)
      exact w_iret S hr0 hlk hP hS dX7_poll_20 (⟨hI13, hT14, hE15, by omega, fun hv => absurd hv (by omega), fun _ => ⟨by omega, hm5⟩⟩)
set_option maxRecDepth 100000 in
set_option maxHeartbeats 4000000 in
theorem c_X7_signals (l : Launch) (D : va_G) (g : GA) (hg : Inj g) (x : St) (hI : Inv x) (hE : Rel x) (a : Int32) (hy0 : (x 89 33).toInt = 0) : Met l yX7_signals wsX7_signals ({ frames := 1, cells := 0, slots := 0, locals := 20 } : Room) (va_Pc [.ref (g.1 89), .int a] (WI D g x)) (va_Qi (fun r x2 => Inv x2 ∧ Same TM x x2 ∧ Rel x2 ∧ (x2 89 33).toInt = 0 ∧ ((0 ≤ a.toInt ∧ a.toInt ≤ 7) → r.toInt = (x 119 (a.toInt.toNat)).toInt) ∧ (¬ (0 ≤ a.toInt ∧ a.toInt ≤ 7) → r.toInt = -1)) (WO D g) (AQ g)) 0 0 (AQ g) := by
  refine w_met (cc := cX7_signals) (maxL := 3) (ret := (some .int)) (own := RX7) (by decide) rfl rfl (Nat.le_of_ble_eq_true rfl) (fun p e s m below meth co S hr0 hlk hK hN hP hS ls hl => ?_)
  have hts := S.2.2.2.2
  have hl : lv_has ls 3 [(0, .ref (g.1 89)), (1, .int a)] := hl
  have hT : Same (TM) x x := Same.rf
  refine lv_aload_n S.1 S.2.1 dX7_signals_0 rfl (lv_at hl 0 rfl) ?_
  refine w_iconst S dX7_signals_1 (by decide) (fun k1 hk1 => ?_)
  refine w_put (C := RX7) (T := TX7) (N := 34) (F := FMod g) S (fun _ h => List.mem_cons_of_mem _ (List.mem_append_right _ h)) tyX7_ok nmX7 hK hg hP hS 89 (by decide) ceK89 rfl 0 (by decide) (hts _ (List.mem_of_getElem? (i := 1) rfl)) rfl rfl rfl (fun _ => Nat.le_of_ble_eq_true rfl) (fun _ => rfl) dX7_signals_2 (fun x2 H locs ex2 hP hS => ?_)
  have hI3 : Inv x2 := by rw [ex2]; exact hI.up (i_ge _) (i_le _)
  have hT4 : Same (TM) x x2 := by rw [ex2]; exact hT.up (by unfold TM TrM; omega)
  have hE5 : Rel x2 := by rw [ex2]; exact Rel.oth hE (by decide) (by decide)
  have u6 : (x2 89 (33)).toInt = (x 89 (33)).toInt := by rw [ex2, up2_ne _ _ (by omega)]
  have u7 : (x2 119 (a.toInt.toNat)).toInt = (x 119 (a.toInt.toNat)).toInt := by rw [ex2, up2_ne _ _ (by omega)]
  refine lv_iload_n S.1 S.2.1 dX7_signals_5 rfl (lv_at hl 1 rfl) ?_
  refine w_cSi (As := [.int a]) (rest := []) S hK hN hP hS hl (c_X7_isProcess l D g hg x2 hI3 a) (va_cwS 1 hts gX7_signals_X7_isProcess rfl rfl rfl (by decide +kernel) ⟨Nat.le_of_ble_eq_true rfl, Nat.le_of_ble_eq_true rfl⟩) rfl rfl (Nat.le_of_ble_eq_true rfl) dX7_signals_6 ⟨Nat.zero_le _, Nat.zero_le _⟩ (fun r9 x8 H locs hq10 hP hS => ?_)
  obtain ⟨ex11, hf12⟩ := hq10
  rw [ex11] at hP
  refine w_if_ne (tgt := 14) S dX7_signals_9 (by decide) (fun hb13 => ?_) (fun hb13 => ?_)
  · refine lv_aload_n S.1 S.2.1 dX7_signals_14 rfl (lv_at hl 0 rfl) ?_
    refine w_get (C := RX7) (T := TX7) (N := 34) S (fun _ h => List.mem_cons_of_mem _ (List.mem_append_right _ h)) hK hP 89 (by decide) (ceK89 _) rfl 30 (by decide) (hts _ (List.mem_of_getElem? (i := 2) rfl)) (v := .ref (g.1 119)) rfl dX7_signals_15 ?_
    refine lv_iload_n S.1 S.2.1 dX7_signals_18 rfl (lv_at hl 1 rfl) ?_
    refine w_iald S hK hP 119 (by decide) ceK119 (by omega) (by omega) dX7_signals_19 (fun v14 ev14 => ?_)
    have wv14 : v14.toInt = (x2 119 a.toInt.toNat).toInt := by rw [ev14]
    refine lv_istore_n (lv' := [(2, .int v14), (0, .ref (g.1 89)), (1, .int a)]) S.1 S.2.1 dX7_signals_20 rfl hl (by decide) rfl (fun ls hl => ?_)
    refine lv_aload_n S.1 S.2.1 dX7_signals_21 rfl (lv_at hl 1 rfl) ?_
    refine w_get (C := RX7) (T := TX7) (N := 34) S (fun _ h => List.mem_cons_of_mem _ (List.mem_append_right _ h)) hK hP 89 (by decide) (ceK89 _) rfl 30 (by decide) (hts _ (List.mem_of_getElem? (i := 2) rfl)) (v := .ref (g.1 119)) rfl dX7_signals_22 ?_
    refine lv_iload_n S.1 S.2.1 dX7_signals_25 rfl (lv_at hl 2 rfl) ?_
    refine w_iconst S dX7_signals_26 (by decide) (fun k15 hk15 => ?_)
    refine w_iast S hK hg hP hS 119 (by decide) ceK119 (by omega) (by omega) dX7_signals_27 (fun x16 H locs ex16 hP hS => ?_)
    have hI17 : Inv x16 := by rw [ex16]; exact hI3.up (i_ge _) (i_le _)
    have hT18 : Same (TM) x x16 := by rw [ex16]; exact hT4.up (by unfold TM TrM; omega)
    have hE19 : Rel x16 := by rw [ex16]; exact Rel.oth hE5 (by decide) (by decide)
    have u20 : (x16 89 (33)).toInt = (x2 89 (33)).toInt := by rw [ex16, up2_ne _ _ (by omega)]
    have u21 : (x16 119 (a.toInt.toNat)).toInt = k15.toInt := by rw [ex16, up2_at]
    refine lv_iload_n S.1 S.2.1 dX7_signals_28 rfl (lv_at hl 0 rfl) ?_
    exact w_iret S hr0 hlk hP hS dX7_signals_29 (⟨hI17, hT18, hE19, by omega, by omega, by omega⟩)
  · refine w_iconst S dX7_signals_12 (by decide) (fun k22 hk22 => ?_)
    exact w_iret S hr0 hlk hP hS dX7_signals_13 (⟨hI3, hT4, hE5, by omega, by omega, by omega⟩)
set_option maxRecDepth 100000 in
set_option maxHeartbeats 4000000 in
theorem c_X7_count (l : Launch) (D : va_G) (g : GA) (hg : Inj g) (x : St) (hI : Inv x) (hE : Rel x) (po : Int32) (wh : Int32) (hy0 : (x 89 33).toInt = 0) : Met l yX7_count wsX7_count ({ frames := 1, cells := 0, slots := 0, locals := 20 } : Room) (va_Pc [.ref (g.1 89), .int po, .int wh] (WI D g x)) (va_Qi (fun r x2 => Inv x2 ∧ Same TM x x2 ∧ Rel x2 ∧ (x2 89 33).toInt = 0 ∧ ((0 ≤ po.toInt ∧ po.toInt ≤ 3 ∧ 0 ≤ wh.toInt ∧ wh.toInt ≤ 4) → r.toInt = (x 120 ((5 * po.toInt + wh.toInt).toNat)).toInt) ∧ (¬ (0 ≤ po.toInt ∧ po.toInt ≤ 3 ∧ 0 ≤ wh.toInt ∧ wh.toInt ≤ 4) → r.toInt = -1)) (WO D g) (AQ g)) 0 0 (AQ g) := by
  refine w_met (cc := cX7_count) (maxL := 3) (ret := (some .int)) (own := RX7) (by decide) rfl rfl (Nat.le_of_ble_eq_true rfl) (fun p e s m below meth co S hr0 hlk hK hN hP hS ls hl => ?_)
  have hts := S.2.2.2.2
  have hl : lv_has ls 3 [(0, .ref (g.1 89)), (1, .int po), (2, .int wh)] := hl
  have hT : Same (TM) x x := Same.rf
  refine lv_aload_n S.1 S.2.1 dX7_count_0 rfl (lv_at hl 0 rfl) ?_
  refine w_iconst S dX7_count_1 (by decide) (fun k1 hk1 => ?_)
  refine w_put (C := RX7) (T := TX7) (N := 34) (F := FMod g) S (fun _ h => List.mem_cons_of_mem _ (List.mem_append_right _ h)) tyX7_ok nmX7 hK hg hP hS 89 (by decide) ceK89 rfl 0 (by decide) (hts _ (List.mem_of_getElem? (i := 1) rfl)) rfl rfl rfl (fun _ => Nat.le_of_ble_eq_true rfl) (fun _ => rfl) dX7_count_2 (fun x2 H locs ex2 hP hS => ?_)
  have hI3 : Inv x2 := by rw [ex2]; exact hI.up (i_ge _) (i_le _)
  have hT4 : Same (TM) x x2 := by rw [ex2]; exact hT.up (by unfold TM TrM; omega)
  have hE5 : Rel x2 := by rw [ex2]; exact Rel.oth hE (by decide) (by decide)
  have u6 : (x2 89 (33)).toInt = (x 89 (33)).toInt := by rw [ex2, up2_ne _ _ (by omega)]
  have u7 : (x2 120 ((5 * po.toInt + wh.toInt).toNat)).toInt = (x 120 ((5 * po.toInt + wh.toInt).toNat)).toInt := by rw [ex2, up2_ne _ _ (by omega)]
  refine lv_iload_n S.1 S.2.1 dX7_count_5 rfl (lv_at hl 1 rfl) ?_
  refine w_cSi (As := [.int po]) (rest := []) S hK hN hP hS hl (c_X7_isPort l D g hg x2 hI3 po) (va_cwS 1 hts gX7_count_X7_isPort rfl rfl rfl (by decide +kernel) ⟨Nat.le_of_ble_eq_true rfl, Nat.le_of_ble_eq_true rfl⟩) rfl rfl (Nat.le_of_ble_eq_true rfl) dX7_count_6 ⟨Nat.zero_le _, Nat.zero_le _⟩ (fun r9 x8 H locs hq10 hP hS => ?_)
  obtain ⟨ex11, hf12⟩ := hq10
  rw [ex11] at hP
  refine w_if_eq (tgt := 21) S dX7_count_9 (by decide) (fun hb13 => ?_) (fun hb13 => ?_)
  · refine w_iconst S dX7_count_21 (by decide) (fun k14 hk14 => ?_)
    exact w_iret S hr0 hlk hP hS dX7_count_22 (⟨hI3, hT4, hE5, by omega, by omega, by omega⟩)
  · refine lv_iload_n S.1 S.2.1 dX7_count_12 rfl (lv_at hl 2 rfl) ?_
    refine w_if_lt (tgt := 21) S dX7_count_13 (by decide) (fun hb15 => ?_) (fun hb15 => ?_)
    · refine w_iconst S dX7_count_21 (by decide) (fun k16 hk16 => ?_)
      exact w_iret S hr0 hlk hP hS dX7_count_22 (⟨hI3, hT4, hE5, by omega, by omega, by omega⟩)
    · refine lv_iload_n S.1 S.2.1 dX7_count_16 rfl (lv_at hl 2 rfl) ?_
      refine w_iconst S dX7_count_17 (by decide) (fun k17 hk17 => ?_)
      refine w_icmp_le (tgt := 23) S dX7_count_18 (by decide) (fun hb18 => ?_) (fun hb18 => ?_)
      · refine lv_aload_n S.1 S.2.1 dX7_count_23 rfl (lv_at hl 0 rfl) ?_
        refine w_get (C := RX7) (T := TX7) (N := 34) S (fun _ h => List.mem_cons_of_mem _ (List.mem_append_right _ h)) hK hP 89 (by decide) (ceK89 _) rfl 31 (by decide) (hts _ (List.mem_of_getElem? (i := 2) rfl)) (v := .ref (g.1 120)) rfl dX7_count_24 ?_
        refine w_iconst S dX7_count_27 (by decide) (fun k19 hk19 => ?_)
        refine lv_iload_n S.1 S.2.1 dX7_count_28 rfl (lv_at hl 1 rfl) ?_
        refine w_imulk S dX7_count_29 5 hk19 (by omega) (by omega) (fun v20 hv20 => ?_)
        refine lv_iload_n S.1 S.2.1 dX7_count_30 rfl (lv_at hl 2 rfl) ?_
        refine w_iadd S dX7_count_31 (by omega) (by omega) (fun v21 hv21 => ?_)
        have hix : v21.toInt.toNat = (5 * po.toInt + wh.toInt).toNat := by omega
        refine w_iald S hK hP 120 (by decide) ceK120 (by omega) (by omega) dX7_count_32 (fun v22 ev22 => ?_)
        have wv22 : v22.toInt = (x2 120 v21.toInt.toNat).toInt := by rw [ev22]
        try rw [hix] at wv22
        exact w_iret S hr0 hlk hP hS dX7_count_33 (⟨hI3, hT4, hE5, by omega, by omega, by omega⟩)
      · refine w_iconst S dX7_count_21 (by decide) (fun k23 hk23 => ?_)
        exact w_iret S hr0 hlk hP hS dX7_count_22 (⟨hI3, hT4, hE5, by omega, by omega, by omega⟩)
set_option maxRecDepth 100000 in
set_option maxHeartbeats 4000000 in
theorem c_X7_column (l : Launch) (D : va_G) (g : GA) (hg : Inj g) (x : St) (hI : Inv x) (hE : Rel x) (po : Int32) (hy0 : (x 89 33).toInt = 0) : Met l yX7_column wsX7_column ({ frames := 1, cells := 0, slots := 0, locals := 20 } : Room) (va_Pc [.ref (g.1 89), .int po] (WI D g x)) (va_Qi (fun r x2 => Inv x2 ∧ Same TM x x2 ∧ Rel x2 ∧ (x2 89 33).toInt = 0 ∧ ((0 ≤ po.toInt ∧ po.toInt ≤ 3) → r.toInt = (x 105 (po.toInt.toNat)).toInt) ∧ (¬ (0 ≤ po.toInt ∧ po.toInt ≤ 3) → r.toInt = -1)) (WO D g) (AQ g)) 0 0 (AQ g) := by
  refine w_met (cc := cX7_column) (maxL := 2) (ret := (some .int)) (own := RX7) (by decide) rfl rfl (Nat.le_of_ble_eq_true rfl) (fun p e s m below meth co S hr0 hlk hK hN hP hS ls hl => ?_)
  have hts := S.2.2.2.2
  have hl : lv_has ls 2 [(0, .ref (g.1 89)), (1, .int po)] := hl
  have hT : Same (TM) x x := Same.rf
  refine lv_aload_n S.1 S.2.1 dX7_column_0 rfl (lv_at hl 0 rfl) ?_
  refine w_iconst S dX7_column_1 (by decide) (fun k1 hk1 => ?_)
  refine w_put (C := RX7) (T := TX7) (N := 34) (F := FMod g) S (fun _ h => List.mem_cons_of_mem _ (List.mem_append_right _ h)) tyX7_ok nmX7 hK hg hP hS 89 (by decide) ceK89 rfl 0 (by decide) (hts _ (List.mem_of_getElem? (i := 1) rfl)) rfl rfl rfl (fun _ => Nat.le_of_ble_eq_true rfl) (fun _ => rfl) dX7_column_2 (fun x2 H locs ex2 hP hS => ?_)
  have hI3 : Inv x2 := by rw [ex2]; exact hI.up (i_ge _) (i_le _)
  have hT4 : Same (TM) x x2 := by rw [ex2]; exact hT.up (by unfold TM TrM; omega)
  have hE5 : Rel x2 := by rw [ex2]; exact Rel.oth hE (by decide) (by decide)
  have u6 : (x2 89 (33)).toInt = (x 89 (33)).toInt := by rw [ex2, up2_ne _ _ (by omega)]
  have u7 : (x2 105 (po.toInt.toNat)).toInt = (x 105 (po.toInt.toNat)).toInt := by rw [ex2, up2_ne _ _ (by omega)]
  refine lv_iload_n S.1 S.2.1 dX7_column_5 rfl (lv_at hl 1 rfl) ?_
  refine w_cSi (As := [.int po]) (rest := []) S hK hN hP hS hl (c_X7_isPort l D g hg x2 hI3 po) (va_cwS 1 hts gX7_column_X7_isPort rfl rfl rfl (by decide +kernel) ⟨Nat.le_of_ble_eq_true rfl, Nat.le_of_ble_eq_true rfl⟩) rfl rfl (Nat.le_of_ble_eq_true rfl) dX7_column_6 ⟨Nat.zero_le _, Nat.zero_le _⟩ (fun r9 x8 H locs hq10 hP hS => ?_)
  obtain ⟨ex11, hf12⟩ := hq10
  rw [ex11] at hP
  refine w_if_ne (tgt := 14) S dX7_column_9 (by decide) (fun hb13 => ?_) (fun hb13 => ?_)
  · refine lv_aload_n S.1 S.2.1 dX7_column_14 rfl (lv_at hl 0 rfl) ?_
    refine w_get (C := RX7) (T := TX7) (N := 34) S (fun _ h => List.mem_cons_of_mem _ (List.mem_append_right _ h)) hK hP 89 (by decide) (ceK89 _) rfl 16 (by decide) (hts _ (List.mem_of_getElem? (i := 2) rfl)) (v := .ref (g.1 105)) rfl dX7_column_15 ?_
    refine lv_iload_n S.1 S.2.1 dX7_column_18 rfl (lv_at hl 1 rfl) ?_
    refine w_iald S hK hP 105 (by decide) ceK105 (by omega) (by omega) dX7_column_19 (fun v14 ev14 => ?_)
    have wv14 : v14.toInt = (x2 105 po.toInt.toNat).toInt := by rw [ev14]
    exact w_iret S hr0 hlk hP hS dX7_column_20 (⟨hI3, hT4, hE5, by omega, by omega, by omega⟩)
  · refine w_iconst S dX7_column_12 (by decide) (fun k15 hk15 => ?_)
    exact w_iret S hr0 hlk hP hS dX7_column_13 (⟨hI3, hT4, hE5, by omega, by omega, by omega⟩)
set_option maxRecDepth 100000 in
set_option maxHeartbeats 4000000 in
theorem c_X7_ready (l : Launch) (D : va_G) (g : GA) (hg : Inj g) (x : St) (hI : Inv x) (hE : Rel x) (po : Int32) (hy0 : (x 89 33).toInt = 0) : Met l yX7_ready wsX7_ready ({ frames := 1, cells := 0, slots := 0, locals := 20 } : Room) (va_Pc [.ref (g.1 89), .int po] (WI D g x)) (va_Qi (fun r x2 => Inv x2 ∧ Same TM x x2 ∧ Rel x2 ∧ (x2 89 33).toInt = 0 ∧ ((0 ≤ po.toInt ∧ po.toInt ≤ 3) → r.toInt = (x 97 (po.toInt.toNat)).toInt) ∧ (¬ (0 ≤ po.toInt ∧ po.toInt ≤ 3) → r.toInt = -1)) (WO D g) (AQ g)) 0 0 (AQ g) := by
  refine w_met (cc := cX7_ready) (maxL := 2) (ret := (some .int)) (own := RX7) (by decide) rfl rfl (Nat.le_of_ble_eq_true rfl) (fun p e s m below meth co S hr0 hlk hK hN hP hS ls hl => ?_)
  have hts := S.2.2.2.2
  have hl : lv_has ls 2 [(0, .ref (g.1 89)), (1, .int po)] := hl
  have hT : Same (TM) x x := Same.rf
  refine lv_aload_n S.1 S.2.1 dX7_ready_0 rfl (lv_at hl 0 rfl) ?_
  refine w_iconst S dX7_ready_1 (by decide) (fun k1 hk1 => ?_)
  refine w_put (C := RX7) (T := TX7) (N := 34) (F := FMod g) S (fun _ h => List.mem_cons_of_mem _ (List.mem_append_right _ h)) tyX7_ok nmX7 hK hg hP hS 89 (by decide) ceK89 rfl 0 (by decide) (hts _ (List.mem_of_getElem? (i := 1) rfl)) rfl rfl rfl (fun _ => Nat.le_of_ble_eq_true rfl) (fun _ => rfl) dX7_ready_2 (fun x2 H locs ex2 hP hS => ?_)
  have hI3 : Inv x2 := by rw [ex2]; exact hI.up (i_ge _) (i_le _)
  have hT4 : Same (TM) x x2 := by rw [ex2]; exact hT.up (by unfold TM TrM; omega)
  have hE5 : Rel x2 := by rw [ex2]; exact Rel.oth hE (by decide) (by decide)
  have u6 : (x2 89 (33)).toInt = (x 89 (33)).toInt := by rw [ex2, up2_ne _ _ (by omega)]
  have u7 : (x2 97 (po.toInt.toNat)).toInt = (x 97 (po.toInt.toNat)).toInt := by rw [ex2, up2_ne _ _ (by omega)]
  refine lv_iload_n S.1 S.2.1 dX7_ready_5 rfl (lv_at hl 1 rfl) ?_
  refine w_cSi (As := [.int po]) (rest := []) S hK hN hP hS hl (c_X7_isPort l D g hg x2 hI3 po) (va_cwS 1 hts gX7_ready_X7_isPort rfl rfl rfl (by decide +kernel) ⟨Nat.le_of_ble_eq_true rfl, Nat.le_of_ble_eq_true rfl⟩) rfl rfl (Nat.le_of_ble_eq_true rfl) dX7_ready_6 ⟨Nat.zero_le _, Nat.zero_le _⟩ (fun r9 x8 H locs hq10 hP hS => ?_)
  obtain ⟨ex11, hf12⟩ := hq10
  rw [ex11] at hP
  refine w_if_ne (tgt := 14) S dX7_ready_9 (by decide) (fun hb13 => ?_) (fun hb13 => ?_)
  · refine lv_aload_n S.1 S.2.1 dX7_ready_14 rfl (lv_at hl 0 rfl) ?_
    refine w_get (C := RX7) (T := TX7) (N := 34) S (fun _ h => List.mem_cons_of_mem _ (List.mem_append_right _ h)) hK hP 89 (by decide) (ceK89 _) rfl 8 (by decide) (hts _ (List.mem_of_getElem? (i := 2) rfl)) (v := .ref (g.1 97)) rfl dX7_ready_15 ?_
    refine lv_iload_n S.1 S.2.1 dX7_ready_18 rfl (lv_at hl 1 rfl) ?_
    refine w_iald S hK hP 97 (by decide) ceK97 (by omega) (by omega) dX7_ready_19 (fun v14 ev14 => ?_)
    have wv14 : v14.toInt = (x2 97 po.toInt.toNat).toInt := by rw [ev14]
    have rv14 : (0 : Int) ≤ v14.toInt ∧ v14.toInt ≤ (65 : Int) := by rw [ev14]; exact hI3 97 _
    exact w_iret S hr0 hlk hP hS dX7_ready_20 (⟨hI3, hT4, hE5, by omega, by omega, by omega⟩)
  · refine w_iconst S dX7_ready_12 (by decide) (fun k15 hk15 => ?_)
    exact w_iret S hr0 hlk hP hS dX7_ready_13 (⟨hI3, hT4, hE5, by omega, by omega, by omega⟩)
set_option maxRecDepth 100000 in
set_option maxHeartbeats 4000000 in
theorem c_X7_flush (l : Launch) (D : va_G) (g : GA) (hg : Inj g) (x : St) (hI : Inv x) (hE : Rel x) (po : Int32) (wh : Int32) (hy0 : (x 89 33).toInt = 0) : Met l yX7_flush wsX7_flush ({ frames := 4, cells := 0, slots := 0, locals := 93 } : Room) (va_Pc [.ref (g.1 89), .int po, .int wh] (WI D g x)) (va_Qi (fun r x2 => Inv x2 ∧ Same TM x x2 ∧ Rel x2 ∧ (x2 89 33).toInt = 0 ∧ ((0 ≤ po.toInt ∧ po.toInt ≤ 3 ∧ 0 ≤ wh.toInt ∧ wh.toInt ≤ 2) → r.toInt = 1) ∧ (¬ (0 ≤ po.toInt ∧ po.toInt ≤ 3 ∧ 0 ≤ wh.toInt ∧ wh.toInt ≤ 2) → r.toInt = 0)) (WO D g) (AQ g)) 0 0 (AQ g) := by
  refine w_met (cc := cX7_flush) (maxL := 3) (ret := (some .boolean)) (own := RX7) (by decide) rfl rfl (Nat.le_of_ble_eq_true rfl) (fun p e s m below meth co S hr0 hlk hK hN hP hS ls hl => ?_)
  have hts := S.2.2.2.2
  have hl : lv_has ls 3 [(0, .ref (g.1 89)), (1, .int po), (2, .int wh)] := hl
  have hT : Same (TM) x x := Same.rf
  refine lv_aload_n S.1 S.2.1 dX7_flush_0 rfl (lv_at hl 0 rfl) ?_
  refine w_iconst S dX7_flush_1 (by decide) (fun k1 hk1 => ?_)
  refine w_put (C := RX7) (T := TX7) (N := 34) (F := FMod g) S (fun _ h => List.mem_cons_of_mem _ (List.mem_append_right _ h)) tyX7_ok nmX7 hK hg hP hS 89 (by decide) ceK89 rfl 0 (by decide) (hts _ (List.mem_of_getElem? (i := 1) rfl)) rfl rfl rfl (fun _ => Nat.le_of_ble_eq_true rfl) (fun _ => rfl) dX7_flush_2 (fun x2 H locs ex2 hP hS => ?_)
  have hI3 : Inv x2 := by rw [ex2]; exact hI.up (i_ge _) (i_le _)
  have hT4 : Same (TM) x x2 := by rw [ex2]; exact hT.up (by unfold TM TrM; omega)
  have hE5 : Rel x2 := by rw [ex2]; exact Rel.oth hE (by decide) (by decide)
  have u6 : (x2 89 (33)).toInt = (x 89 (33)).toInt := by rw [ex2, up2_ne _ _ (by omega)]
  refine lv_iload_n S.1 S.2.1 dX7_flush_5 rfl (lv_at hl 1 rfl) ?_
  refine w_cSi (As := [.int po]) (rest := []) S hK hN hP hS hl (c_X7_isPort l D g hg x2 hI3 po) (va_cwS 1 hts gX7_flush_X7_isPort rfl rfl rfl (by decide +kernel) ⟨Nat.le_of_ble_eq_true rfl, Nat.le_of_ble_eq_true rfl⟩) rfl rfl (Nat.le_of_ble_eq_true rfl) dX7_flush_6 ⟨Nat.zero_le _, Nat.zero_le _⟩ (fun r8 x7 H locs hq9 hP hS => ?_)
  obtain ⟨ex10, hf11⟩ := hq9
  rw [ex10] at hP
  refine w_if_eq (tgt := 21) S dX7_flush_9 (by decide) (fun hb12 => ?_) (fun hb12 => ?_)
  · refine w_iconst S dX7_flush_21 (by decide) (fun k13 hk13 => ?_)
    exact w_zret S hr0 hlk hP hS dX7_flush_22 (z01 (by omega) (by omega)) (⟨hI3, hT4, hE5, by omega, by omega, by omega⟩)
  · refine lv_iload_n S.1 S.2.1 dX7_flush_12 rfl (lv_at hl 2 rfl) ?_
    refine w_if_lt (tgt := 21) S dX7_flush_13 (by decide) (fun hb14 => ?_) (fun hb14 => ?_)
    · refine w_iconst S dX7_flush_21 (by decide) (fun k15 hk15 => ?_)
      exact w_zret S hr0 hlk hP hS dX7_flush_22 (z01 (by omega) (by omega)) (⟨hI3, hT4, hE5, by omega, by omega, by omega⟩)
    · refine lv_iload_n S.1 S.2.1 dX7_flush_16 rfl (lv_at hl 2 rfl) ?_
      refine w_iconst S dX7_flush_17 (by decide) (fun k16 hk16 => ?_)
      refine w_icmp_le (tgt := 23) S dX7_flush_18 (by decide) (fun hb17 => ?_) (fun hb17 => ?_)
      · refine lv_iload_n S.1 S.2.1 dX7_flush_23 rfl (lv_at hl 2 rfl) ?_
        refine w_iconst S dX7_flush_24 (by decide) (fun k18 hk18 => ?_)
        refine w_icmp_eq (tgt := 33) S dX7_flush_25 (by decide) (fun hb19 => ?_) (fun hb19 => ?_)
        · refine lv_iload_n S.1 S.2.1 dX7_flush_33 rfl (lv_at hl 2 rfl) ?_
          refine w_if_eq (tgt := 42) S dX7_flush_34 (by decide) (fun hb20 => ?_) (fun hb20 => ?_)
          · refine w_iconst S dX7_flush_42 (by decide) (fun k21 hk21 => ?_)
            exact w_zret S hr0 hlk hP hS dX7_flush_43 (z01 (by omega) (by omega)) (⟨hI3, hT4, hE5, by omega, by omega, by omega⟩)
          · refine lv_aload_n S.1 S.2.1 dX7_flush_37 rfl (lv_at hl 0 rfl) ?_
            refine lv_iload_n S.1 S.2.1 dX7_flush_38 rfl (lv_at hl 1 rfl) ?_
            refine w_cVv (As := [.int po]) (rest := []) S hK hN hP hS hl 89 (by decide) (ceK89 _) rfl (c_X7_emptyAll l D g hg x2 hI3 hE5 po (by omega)) (cwV 1 hts gX7_flush_X7_emptyAll rfl rfl rfl (by decide +kernel) ⟨Nat.le_of_ble_eq_true rfl, Nat.le_of_ble_eq_true rfl⟩) rfl rfl (Nat.le_of_ble_eq_true rfl) dX7_flush_39 ⟨Nat.zero_le _, Nat.zero_le _⟩ (fun x22 H locs hq24 hP hS => ?_)
            obtain ⟨hI25, hT26, hE28, hf27⟩ := hq24
            have hT29 : Same (TM) x x22 := hT4.tr hT26 (fun _ _ h => h)
            refine w_iconst S dX7_flush_42 (by decide) (fun k30 hk30 => ?_)
            exact w_zret S hr0 hlk hP hS dX7_flush_43 (z01 (by omega) (by omega)) (⟨hI25, hT29, hE28, by omega, by omega, by omega⟩)
        · refine lv_aload_n S.1 S.2.1 dX7_flush_28 rfl (lv_at hl 0 rfl) ?_
          refine lv_iload_n S.1 S.2.1 dX7_flush_29 rfl (lv_at hl 1 rfl) ?_
          refine w_cVv (As := [.int po]) (rest := []) S hK hN hP hS hl 89 (by decide) (ceK89 _) rfl (c_X7_emptyStore l D g hg x2 hI3 hE5 po (by omega)) (cwV 1 hts gX7_flush_X7_emptyStore rfl rfl rfl (by decide +kernel) ⟨Nat.le_of_ble_eq_true rfl, Nat.le_of_ble_eq_true rfl⟩) rfl rfl (Nat.le_of_ble_eq_true rfl) dX7_flush_30 ⟨Nat.zero_le _, Nat.zero_le _⟩ (fun x31 H locs hq33 hP hS => ?_)
          obtain ⟨hI34, hT35, hE37, hf36⟩ := hq33
          have hT38 : Same (TM) x x31 := hT4.tr hT35 (fun c0 k0 h => by unfold TM TrM at h; unfold TS; omega)
          have u39 : (x31 89 (33)).toInt = (x2 89 (33)).toInt := by rw [hT35 89 (33) (by unfold TS; omega)]
          refine lv_iload_n S.1 S.2.1 dX7_flush_33 rfl (lv_at hl 2 rfl) ?_
          refine w_if_eq (tgt := 42) S dX7_flush_34 (by decide) (fun hb40 => ?_) (fun hb40 => ?_)
          · refine w_iconst S dX7_flush_42 (by decide) (fun k41 hk41 => ?_)
            exact w_zret S hr0 hlk hP hS dX7_flush_43 (z01 (by omega) (by omega)) (⟨hI34, hT38, hE37, by omega, by omega, by omega⟩)
          · refine lv_aload_n S.1 S.2.1 dX7_flush_37 rfl (lv_at hl 0 rfl) ?_
            refine lv_iload_n S.1 S.2.1 dX7_flush_38 rfl (lv_at hl 1 rfl) ?_
            refine w_cVv (As := [.int po]) (rest := []) S hK hN hP hS hl 89 (by decide) (ceK89 _) rfl (c_X7_emptyAll l D g hg x31 hI34 hE37 po (by omega)) (cwV 1 hts gX7_flush_X7_emptyAll rfl rfl rfl (by decide +kernel) ⟨Nat.le_of_ble_eq_true rfl, Nat.le_of_ble_eq_true rfl⟩) rfl rfl (Nat.le_of_ble_eq_true rfl) dX7_flush_39 ⟨Nat.zero_le _, Nat.zero_le _⟩ (fun x42 H locs hq44 hP hS => ?_)
            obtain ⟨hI45, hT46, hE48, hf47⟩ := hq44
            have hT49 : Same (TM) x x42 := hT38.tr hT46 (fun _ _ h => h)
            refine w_iconst S dX7_flush_42 (by decide) (fun k50 hk50 => ?_)
            exact w_zret S hr0 hlk hP hS dX7_flush_43 (z01 (by omega) (by omega)) (⟨hI45, hT49, hE48, by omega, by omega, by omega⟩)
      · refine w_iconst S dX7_flush_21 (by decide) (fun k51 hk51 => ?_)
        exact w_zret S hr0 hlk hP hS dX7_flush_22 (z01 (by omega) (by omega)) (⟨hI3, hT4, hE5, by omega, by omega, by omega⟩)
set_option maxRecDepth 100000 in
set_option maxHeartbeats 4000000 in
theorem c_X7_tick (l : Launch) (D : va_G) (g : GA) (hg : Inj g) (x : St) (hI : Inv x) (hE : Rel x)  (hy0 : (x 89 33).toInt = 0) : Met l yX7_tick wsX7_tick ({ frames := 7, cells := 0, slots := 0, locals := 159 } : Room) (va_Pc [.ref (g.1 89)] (WI D g x)) (va_Qv (fun x2 => Inv x2 ∧ Same TMt x x2 ∧ Rel x2 ∧ (x2 89 33).toInt = 0 ∧ ∀ j : Nat, j < 4 → (x2 93 j).toInt = 0) (WO D g) (AQ g)) 0 0 (AQ g) := by
  refine w_met (cc := cX7_tick) (maxL := 2) (ret := none) (own := RX7) (by decide) rfl rfl (Nat.le_of_ble_eq_true rfl) (fun p e s m below meth co S hr0 hlk hK hN hP hS ls hl => ?_)
  have hts := S.2.2.2.2
  have hl : lv_has ls 2 [(0, .ref (g.1 89))] := hl
  have hT : Same (TMt) x x := Same.rf
  have J7 : ∀ (n0 : Nat) (x_7 : St) (H : Heap) (locs : List Loc) (ls : Array Slot) (y7_1 : Int32), Inv x_7 → Same (TMt) x x_7 → Rel x_7 → (0 ≤ y7_1.toInt) → (y7_1.toInt ≤ 4) → (∀ j : Nat, j < 4 → (j : Int) < y7_1.toInt → (x_7 93 j).toInt = 0) → ((x_7 89 33).toInt = 0) → (4 - y7_1.toInt).toNat < n0 → va_P D vwCl (WL g x_7) H → va_S (AQ g) s.heap H locs → lv_has ls 2 [(0, .ref (g.1 89)), (1, .int y7_1)] → W p l e ({ frames := 7, cells := 0, slots := 0, locals := 159 } : Room) s m ([.ref (g.1 89)] : List Value).toArray below meth co H locs 0 0 (MQ below (va_Qv (fun x2 => Inv x2 ∧ Same TMt x x2 ∧ Rel x2 ∧ (x2 89 33).toInt = 0 ∧ ∀ j : Nat, j < 4 → (x2 93 j).toInt = 0) (WO D g) (AQ g)) ([.ref (g.1 89)] : List Value).toArray s 0 0 (AQ g)) (F0 m 7 ls []) := by
    intro n0
    induction n0 with
    | zero => intro x_7 H locs ls y7_1 hI_7 hT_7 hE_7 hf7_0 hf7_1 hf7_2 hf7_3 hm_7 hP hS hl; exact absurd hm_7 (Nat.not_lt_zero _)
    | succ n0 ih7 =>
      intro x_7 H locs ls y7_1 hI_7 hT_7 hE_7 hf7_0 hf7_1 hf7_2 hf7_3 hm_7 hP hS hl
      have J73 : ∀ (x_73 : St) (H : Heap) (locs : List Loc) (ls : Array Slot), Inv x_73 → Same (TMt) x x_73 → Rel x_73 → (∀ j : Nat, j < 4 → (j : Int) < y7_1.toInt + 1 → (x_73 93 j).toInt = 0) → ((x_73 89 33).toInt = 0) → (y7_1.toInt < 4) → va_P D vwCl (WL g x_73) H → va_S (AQ g) s.heap H locs → lv_has ls 2 [(0, .ref (g.1 89)), (1, .int y7_1)] → W p l e ({ frames := 7, cells := 0, slots := 0, locals := 159 } : Room) s m ([.ref (g.1 89)] : List Value).toArray below meth co H locs 0 0 (MQ below (va_Qv (fun x2 => Inv x2 ∧ Same TMt x x2 ∧ Rel x2 ∧ (x2 89 33).toInt = 0 ∧ ∀ j : Nat, j < 4 → (x2 93 j).toInt = 0) (WO D g) (AQ g)) ([.ref (g.1 89)] : List Value).toArray s 0 0 (AQ g)) (F0 m 73 ls []) := by
        intro x_73 H locs ls hI_73 hT_73 hE_73 hf73_0 hf73_1 hf73_2 hP hS hl
        refine lv_aload_n S.1 S.2.1 dX7_tick_73 rfl (lv_at hl 0 rfl) ?_
        refine lv_iload_n S.1 S.2.1 dX7_tick_74 rfl (lv_at hl 1 rfl) ?_
        refine w_cVv (As := [.int y7_1]) (rest := []) S hK hN hP hS hl 89 (by decide) (ceK89 _) rfl (c_X7_push l D g hg x_73 hI_73 hE_73 y7_1 (by omega)) (cwV 1 hts gX7_tick_X7_push rfl rfl rfl (by decide +kernel) ⟨Nat.le_of_ble_eq_true rfl, Nat.le_of_ble_eq_true rfl⟩) rfl rfl (Nat.le_of_ble_eq_true rfl) dX7_tick_75 ⟨Nat.zero_le _, Nat.zero_le _⟩ (fun x1 H locs hq3 hP hS => ?_)
        obtain ⟨hI4, hT5, hE7, hf6⟩ := hq3
        have hT8 : Same (TMt) x x1 := hT_73.tr hT5 (fun _ _ h => h.1)
        have hz75 : ∀ j : Nat, j < 4 → (j : Int) < y7_1.toInt + 1 → (x1 93 j).toInt = 0 := fun j hj hj2 => by rw [hT5 _ _ (by unfold TM TrM; omega)]; exact hf73_0 j hj hj2
        refine lv_aload_n S.1 S.2.1 dX7_tick_78 rfl (lv_at hl 0 rfl) ?_
        refine lv_iload_n S.1 S.2.1 dX7_tick_79 rfl (lv_at hl 1 rfl) ?_
        refine w_cVv (As := [.int y7_1]) (rest := []) S hK hN hP hS hl 89 (by decide) (ceK89 _) rfl (c_X7_settle l D g hg x1 hI4 hE7 y7_1 (by omega)) (cwV 1 hts gX7_tick_X7_settle rfl rfl rfl (by decide +kernel) ⟨Nat.le_of_ble_eq_true rfl, Nat.le_of_ble_eq_true rfl⟩) rfl rfl (Nat.le_of_ble_eq_true rfl) dX7_tick_80 ⟨Nat.zero_le _, Nat.zero_le _⟩ (fun x9 H locs hq11 hP hS => ?_)
        obtain ⟨hI12, hT13, hE15, hf14⟩ := hq11
        have hT16 : Same (TMt) x x9 := hT8.tr hT13 (fun _ _ h => h.1)
        have hz80 : ∀ j : Nat, j < 4 → (j : Int) < y7_1.toInt + 1 → (x9 93 j).toInt = 0 := fun j hj hj2 => by rw [hT13 _ _ (by unfold TM TrM; omega)]; exact hz75 j hj hj2
        refine w_iinc (lv' := [(0, .ref (g.1 89))]) S dX7_tick_83 hl (k := 1) rfl (by decide) (by decide) (by omega) (by omega) (fun _ => rfl) (fun v17 ls hv17 hl => ?_)
        refine lv_goto (tgt := 7) S.1 S.2.1 dX7_tick_86 (by decide) ?_
        exact ih7 _ _ _ _ v17 hI12 hT16 hE15 (by omega) (by omega) (by intro j hj hj2; first | (exfalso; omega) | exact hz80 j hj (by omega)) (by omega) (by omega) hP hS (lv_sub hl [1, 0] rfl)
      refine lv_iload_n S.1 S.2.1 dX7_tick_7 rfl (lv_at hl 1 rfl) ?_
      refine w_iconst S dX7_tick_8 (by decide) (fun k18 hk18 => ?_)
      refine w_icmp_ge (tgt := 89) S dX7_tick_9 (by decide) (fun hb19 => ?_) (fun hb19 => ?_)
      · exact w_vret S hr0 hlk hP hS dX7_tick_89 (⟨hI_7, hT_7, hE_7, by omega, fun j hj => hf7_2 j hj (by omega)⟩)
      · refine lv_aload_n S.1 S.2.1 dX7_tick_12 rfl (lv_at hl 0 rfl) ?_
        refine lv_iload_n S.1 S.2.1 dX7_tick_13 rfl (lv_at hl 1 rfl) ?_
        refine w_cVv (As := [.int y7_1]) (rest := []) S hK hN hP hS hl 89 (by decide) (ceK89 _) rfl (c_X7_pass l D g hg x_7 hI_7 hE_7 y7_1 (by omega) (by omega)) (cwV 1 hts gX7_tick_X7_pass rfl rfl rfl (by decide +kernel) ⟨Nat.le_of_ble_eq_true rfl, Nat.le_of_ble_eq_true rfl⟩) rfl rfl (Nat.le_of_ble_eq_true rfl) dX7_tick_14 ⟨Nat.zero_le _, Nat.zero_le _⟩ (fun x20 H locs hq22 hP hS => ?_)
        obtain ⟨hI23, hT24, hE26, hf25⟩ := hq22
        have hT27 : Same (TMt) x x20 := hT_7.tr hT24 (fun c0 k0 h => ⟨h.1, fun e => h.2 e.1⟩)
        have hz14 : ∀ j : Nat, j < 4 → (j : Int) < y7_1.toInt + 1 → (x20 93 j).toInt = 0 := by
          intro j hj hj2
          by_cases hj3 : j = y7_1.toInt.toNat
          · rw [hj3]; exact hf25.2.1
          · rw [hT24 _ _ ⟨by unfold TM TrM; omega, by omega⟩]; exact hf7_2 j hj (by omega)
        refine lv_aload_n S.1 S.2.1 dX7_tick_17 rfl (lv_at hl 0 rfl) ?_
        refine w_get (C := RX7) (T := TX7) (N := 34) S (fun _ h => List.mem_cons_of_mem _ (List.mem_append_right _ h)) hK hP 89 (by decide) (ceK89 _) rfl 9 (by decide) (hts _ (List.mem_of_getElem? (i := 2) rfl)) (v := .ref (g.1 98)) rfl dX7_tick_18 ?_
        refine lv_iload_n S.1 S.2.1 dX7_tick_21 rfl (lv_at hl 1 rfl) ?_
        refine lv_dup2_11 S.1 S.2.1 dX7_tick_22 rfl rfl ?_
        refine w_iald S hK hP 98 (by decide) ceK98 (by omega) (by omega) dX7_tick_23 (fun v28 ev28 => ?_)
        have wv28 : v28.toInt = (x20 98 y7_1.toInt.toNat).toInt := by rw [ev28]
        refine w_iconst S dX7_tick_24 (by decide) (fun k29 hk29 => ?_)
        refine lv_iadd S.1 S.2.1 dX7_tick_25 ?_
        refine w_any1 (fun v30 => ?_)
        refine w_iast S hK hg hP hS 98 (by decide) ceK98 (by omega) (by omega) dX7_tick_26 (fun x31 H locs ex31 hP hS => ?_)
        have hI32 : Inv x31 := by rw [ex31]; exact hI23.up (i_ge _) (i_le _)
        have hT33 : Same (TMt) x x31 := by rw [ex31]; exact hT27.up (by unfold TMt TM TrM; omega)
        have hE34 : Rel x31 := by rw [ex31]; exact Rel.oth hE26 (by decide) (by decide)
        have u35 : (x31 89 (33)).toInt = (x20 89 (33)).toInt := by rw [ex31, up2_ne _ _ (by omega)]
        have hz26 : ∀ j : Nat, j < 4 → (j : Int) < y7_1.toInt + 1 → (x31 93 j).toInt = 0 := fun j hj hj2 => by rw [ex31, up2_ne _ _ (by omega)]; exact hz14 j hj hj2
        refine lv_aload_n S.1 S.2.1 dX7_tick_27 rfl (lv_at hl 0 rfl) ?_
        refine lv_iload_n S.1 S.2.1 dX7_tick_28 rfl (lv_at hl 1 rfl) ?_
        refine w_cVi (As := [.int y7_1]) (rest := []) S hK hN hP hS hl 89 (by decide) (ceK89 _) rfl (c_X7_isCanon l D g hg x31 hI32 y7_1 (by omega)) (cwV 1 hts gX7_tick_X7_isCanon rfl rfl rfl (by decide +kernel) ⟨Nat.le_of_ble_eq_true rfl, Nat.le_of_ble_eq_true rfl⟩) rfl rfl (Nat.le_of_ble_eq_true rfl) dX7_tick_29 ⟨Nat.zero_le _, Nat.zero_le _⟩ (fun r37 x36 H locs hq38 hP hS => ?_)
        obtain ⟨ex39, hf40⟩ := hq38
        rw [ex39] at hP
        refine w_if_ne (tgt := 73) S dX7_tick_32 (by decide) (fun hb41 => ?_) (fun hb41 => ?_)
        · exact J73 _ _ _ _ hI32 hT33 hE34 (by intro j hj hj2; first | exact hz26 j hj hj2 | (rw [ex31, up2_ne _ _ (by omega)]; exact hz26 j hj hj2)) (by omega) (by omega) hP hS (lv_sub hl [0, 1] rfl)
        · refine lv_aload_n S.1 S.2.1 dX7_tick_35 rfl (lv_at hl 0 rfl) ?_
          refine lv_iload_n S.1 S.2.1 dX7_tick_36 rfl (lv_at hl 1 rfl) ?_
          refine w_bipush S dX7_tick_37 (by decide) (fun k42 hk42 => ?_)
          refine w_cVi (As := [.int y7_1, .int k42]) (rest := []) S hK hN hP hS hl 89 (by decide) (ceK89 _) rfl (c_X7_mode1 l D g hg x31 hI32 y7_1 k42 (by omega) (by omega)) (cwV 2 hts gX7_tick_X7_mode1 rfl rfl rfl (by decide +kernel) ⟨Nat.le_of_ble_eq_true rfl, Nat.le_of_ble_eq_true rfl⟩) rfl rfl (Nat.le_of_ble_eq_true rfl) dX7_tick_39 ⟨Nat.zero_le _, Nat.zero_le _⟩ (fun r44 x43 H locs hq45 hP hS => ?_)
          obtain ⟨ex46, hf47⟩ := hq45
          rw [ex46] at hP
          refine w_if_le (tgt := 73) S dX7_tick_42 (by decide) (fun hb48 => ?_) (fun hb48 => ?_)
          · exact J73 _ _ _ _ hI32 hT33 hE34 (by intro j hj hj2; first | exact hz26 j hj hj2 | (rw [ex31, up2_ne _ _ (by omega)]; exact hz26 j hj hj2)) (by omega) (by omega) hP hS (lv_sub hl [0, 1] rfl)
          · refine lv_aload_n S.1 S.2.1 dX7_tick_45 rfl (lv_at hl 0 rfl) ?_
            refine w_get (C := RX7) (T := TX7) (N := 34) S (fun _ h => List.mem_cons_of_mem _ (List.mem_append_right _ h)) hK hP 89 (by decide) (ceK89 _) rfl 9 (by decide) (hts _ (List.mem_of_getElem? (i := 2) rfl)) (v := .ref (g.1 98)) rfl dX7_tick_46 ?_
            refine lv_iload_n S.1 S.2.1 dX7_tick_49 rfl (lv_at hl 1 rfl) ?_
            refine w_iald S hK hP 98 (by decide) ceK98 (by omega) (by omega) dX7_tick_50 (fun v49 ev49 => ?_)
            have wv49 : v49.toInt = (x31 98 y7_1.toInt.toNat).toInt := by rw [ev49]
            refine lv_aload_n S.1 S.2.1 dX7_tick_51 rfl (lv_at hl 0 rfl) ?_
            refine lv_iload_n S.1 S.2.1 dX7_tick_52 rfl (lv_at hl 1 rfl) ?_
            refine w_bipush S dX7_tick_53 (by decide) (fun k50 hk50 => ?_)
            refine w_cVi (As := [.int y7_1, .int k50]) (rest := [.int v49]) S hK hN hP hS hl 89 (by decide) (ceK89 _) rfl (c_X7_mode1 l D g hg x31 hI32 y7_1 k50 (by omega) (by omega)) (cwV 2 hts gX7_tick_X7_mode1 rfl rfl rfl (by decide +kernel) ⟨Nat.le_of_ble_eq_true rfl, Nat.le_of_ble_eq_true rfl⟩) rfl rfl (Nat.le_of_ble_eq_true rfl) dX7_tick_55 ⟨Nat.zero_le _, Nat.zero_le _⟩ (fun r52 x51 H locs hq53 hP hS => ?_)
            obtain ⟨ex54, hf55⟩ := hq53
            rw [ex54] at hP
            refine w_icmp_lt (tgt := 73) S dX7_tick_58 (by decide) (fun hb56 => ?_) (fun hb56 => ?_)
            · exact J73 _ _ _ _ hI32 hT33 hE34 (by intro j hj hj2; first | exact hz26 j hj hj2 | (rw [ex31, up2_ne _ _ (by omega)]; exact hz26 j hj hj2)) (by omega) (by omega) hP hS (lv_sub hl [0, 1] rfl)
            · refine lv_aload_n S.1 S.2.1 dX7_tick_61 rfl (lv_at hl 0 rfl) ?_
              refine w_get (C := RX7) (T := TX7) (N := 34) S (fun _ h => List.mem_cons_of_mem _ (List.mem_append_right _ h)) hK hP 89 (by decide) (ceK89 _) rfl 8 (by decide) (hts _ (List.mem_of_getElem? (i := 3) rfl)) (v := .ref (g.1 97)) rfl dX7_tick_62 ?_
              refine lv_iload_n S.1 S.2.1 dX7_tick_65 rfl (lv_at hl 1 rfl) ?_
              refine lv_aload_n S.1 S.2.1 dX7_tick_66 rfl (lv_at hl 0 rfl) ?_
              refine w_get (C := RX7) (T := TX7) (N := 34) S (fun _ h => List.mem_cons_of_mem _ (List.mem_append_right _ h)) hK hP 89 (by decide) (ceK89 _) rfl 7 (by decide) (hts _ (List.mem_of_getElem? (i := 4) rfl)) (v := .ref (g.1 96)) rfl dX7_tick_67 ?_
              refine lv_iload_n S.1 S.2.1 dX7_tick_70 rfl (lv_at hl 1 rfl) ?_
              refine w_iald S hK hP 96 (by decide) ceK96 (by omega) (by omega) dX7_tick_71 (fun v57 ev57 => ?_)
              have wv57 : v57.toInt = (x31 96 y7_1.toInt.toNat).toInt := by rw [ev57]
              have rv57 : (0 : Int) ≤ v57.toInt ∧ v57.toInt ≤ (65 : Int) := by rw [ev57]; exact hI32 96 _
              refine w_iast S hK hg hP hS 97 (by decide) ceK97 (by omega) (by omega) dX7_tick_72 (fun x58 H locs ex58 hP hS => ?_)
              have hI59 : Inv x58 := by rw [ex58]; exact hI32.up (show (0 : Int) ≤ _ by omega) (show _ ≤ (65 : Int) by omega)
              have hT60 : Same (TMt) x x58 := by rw [ex58]; exact hT33.up (by unfold TMt TM TrM; omega)
              have hE61 : Rel x58 := by rw [ex58]; exact Rel.rl hE34 (by omega)
              have u62 : (x58 89 (33)).toInt = (x31 89 (33)).toInt := by rw [ex58, up2_ne _ _ (by omega)]
              exact J73 _ _ _ _ hI59 hT60 hE61 (by intro j hj hj2; first | exact hz26 j hj hj2 | (rw [ex58, up2_ne _ _ (by omega)]; exact hz26 j hj hj2)) (by omega) (by omega) hP hS (lv_sub hl [0, 1] rfl)
  refine lv_aload_n S.1 S.2.1 dX7_tick_0 rfl (lv_at hl 0 rfl) ?_
  refine w_iconst S dX7_tick_1 (by decide) (fun k63 hk63 => ?_)
  refine w_put (C := RX7) (T := TX7) (N := 34) (F := FMod g) S (fun _ h => List.mem_cons_of_mem _ (List.mem_append_right _ h)) tyX7_ok nmX7 hK hg hP hS 89 (by decide) ceK89 rfl 0 (by decide) (hts _ (List.mem_of_getElem? (i := 1) rfl)) rfl rfl rfl (fun _ => Nat.le_of_ble_eq_true rfl) (fun _ => rfl) dX7_tick_2 (fun x64 H locs ex64 hP hS => ?_)
  have hI65 : Inv x64 := by rw [ex64]; exact hI.up (i_ge _) (i_le _)
  have hT66 : Same (TMt) x x64 := by rw [ex64]; exact hT.up (by unfold TMt TM TrM; omega)
  have hE67 : Rel x64 := by rw [ex64]; exact Rel.oth hE (by decide) (by decide)
  have u68 : (x64 89 (33)).toInt = (x 89 (33)).toInt := by rw [ex64, up2_ne _ _ (by omega)]
  refine w_iconst S dX7_tick_5 (by decide) (fun k69 hk69 => ?_)
  refine lv_istore_n (lv' := [(1, .int k69), (0, .ref (g.1 89))]) S.1 S.2.1 dX7_tick_6 rfl hl (by decide) rfl (fun ls hl => ?_)
  exact J7 _ _ _ _ _ k69 hI65 hT66 hE67 (by omega) (by omega) (by intro j hj hj2; first | (exfalso; omega) | exact hz80 j hj (by omega)) (by omega) (Nat.lt_succ_self _) hP hS (lv_sub hl [1, 0] rfl)
