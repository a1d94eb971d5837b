/-! the reference's asking calls, with the rows that they know -/

set_option maxHeartbeats 4000000 in
set_option maxRecDepth 100000 in
theorem k_run2 (l : Launch) (dC : Nat → ClassId) (dI : Nat → Nat → Nat) (mo : Nat) (ma : Nat → Nat) (cs : Nat → ClassId) (I : Nat → Int) (F : Nat → Int → Int) (sz : Nat) (hI : mIv I F) (hKb : mKb I F) : mMi l yX6_run (.code yX6_run cX6_run 1 (some .int)) 5 120 dC dI mo ma cs I F [.ref mo] sz (fun (r : Int) (I' : Nat → Int) (F' : Nat → Int → Int) => mWk I F I' F' ∧ mKb I' F' ∧ I' 16 = 1 ∧ r = I' 19) := by
  refine Met.ofW (cc := cX6_run) (maxL := 1) (ret := (some .int)) (by decide) rfl ?_
  intro p e s m args below meth c s₁ B hml hv
  obtain ⟨rfl, hsz, hP, hK, hD0, hG, hZ⟩ := hv
  have hx := B.exec
  have hb := B.bytes
  have hr := B.returns
  have hts := kx_hts (a := ([.ref mo] : List Value).toArray) hG
  have hown : s.vm.findClass RX6 = some m.cls := findClass_of_methodNamed B.named
  have hlocks := B.notSynchronized
  subst hsz
  have hD := hD0.self (sz := s.heap.size)
  generalize hAe : va_A (mW mo ma cs I F) s.heap.size = A at hD hZ ⊢
  have hA : ∀ q : Nat, s.heap.size ≤ q → A q := fun q h => by rw [← hAe]; exact Or.inr h
  have hS : va_S A s.heap s.heap [] := va_S.rf
  have hl := lv_entry ([.ref mo]) (n := 1) (Nat.le_of_ble_eq_true rfl)
  rw [lg_entry_eq]
  generalize (lg_sl ([.ref mo]) ++ List.replicate (1 - (lg_sl ([.ref mo])).length) Slot.unset).toArray = ls at hl ⊢
  have hl : lv_has ls 1 [(0, .ref mo)] := hl
  have hW0 : mWk I F I F := mWk.rf hI
  have hc0 := hI.hc
  refine lv_aload_n hx hb dX6_run_0 rfl (lv_at hl 0 rfl) ?_
  refine lv_iconst (v := iz 0) hx hb dX6_run_1 (by decide) ?_
  refine va_put (D := (dC, dI)) (ci := 6) (v := .int (iz 0)) (ty := .int) (C := RX6) (T := TX6) (N := 44) hx hb hts kt_X6 tyX6 tyX6_ok nmX6 hown hK hP hD hS 0 rfl rfl 0 (by decide) (kx_word hG kq_04_msmall_0 rfl) (fun _ h9 => h9) rfl (by decide +kernel) rfl rfl (Nat.le_of_ble_eq_true rfl) dX6_run_2 (fun H locs hP hD hS => ?_)
  have hP : va_P (dC, dI) kxCl (mW mo ma cs (va_up I 0 0) F) H := hP
  have hD : va_D A (mW mo ma cs (va_up I 0 0) F) := hD
  refine lv_aload_n hx hb dX6_run_5 rfl (lv_at hl 0 rfl) ?_
  have hk1 : mWk _ _ (va_up I 0 0) F ∧ _ := mWk.thr hI (v := 0) (by omega)
  have hI1 : mIv (va_up I 0 0) F := hI.go hk1.1
  have hw1 : mWk _ _ (va_up I 0 0) F := hW0.tr hk1.1
  have e161 : (va_up I 0 0) 16 = _ := hk1.2.1
  have e191 : (va_up I 0 0) 19 = _ := hk1.2.2
  have e11 : (va_up I 0 0) 1 = _ := hk1.1.2.1.1 1 (by decide)
  have hkb2 : mKb (va_up I 0 0) F := hKb.ui 0 (by decide) _
  refine mk_callv (As := []) (rest := []) ⟨hx, hb, hml, hown, hts⟩ (k_look2 l dC dI mo ma cs (va_up I 0 0) F  H.size hI1.hB hI1.hc hI1.hn hI1.hlv hI1.hkn hI1.hk01 hkb2.2 hkb2.1.1 hkb2.1.2.1 hkb2.1.2.2.1 hkb2.1.2.2.2) (cwV 0 hts (kx_gV kq_11_mask_0 kq_11_mask_1 kq_11_mask_2 kq_04_msmall_6 kq_11_mask_3 rfl) rfl rfl rfl (by decide +kernel) ⟨Nat.le_of_ble_eq_true rfl, Nat.le_of_ble_eq_true rfl⟩) hP hD hK hG hZ hS hA rfl hl.1 rfl (Nat.le_of_ble_eq_true rfl) dX6_run_6 ⟨Nat.le_of_ble_eq_true rfl, Nat.le_of_ble_eq_true rfl⟩ (fun I_5 F_6 H locs hq_4 hP hD hS => ?_)
  try dsimp only at hq_4
  obtain ⟨hq_4, hkr7⟩ := hq_4
  have hkb7 : mKb I_5 F_6 := hkb2.look hq_4.2.1 (by decide) hkr7
  have hk8 : mWk (va_up I 0 0) F I_5 F_6 := mWk.look hI1 hq_4
  have hI8 : mIv I_5 F_6 := hI1.go hk8
  have hw8 : mWk _ _ I_5 F_6 := hw1.tr hk8
  have e168 : I_5 16 = 1 := hq_4.2.2.1
  have hc8 := hI8.hc
  obtain ⟨hsmL, hszL, hrwL⟩ := hI8.hkn (by omega)
  refine lv_aload_n hx hb dX6_run_9 rfl (lv_at hl 0 rfl) ?_
  refine va_get (D := (dC, dI)) (ci := 6) (v := .int (iz (I_5 19))) (C := RX6) (T := TX6) (N := 44) hx hb hts kt_X6 hown hK hP 0 rfl rfl 19 (by decide) (kx_word hG kq_07_mlook_0 rfl) (fun _ h9 => h9) rfl dX6_run_10 ?_
  have hbd_9 := hI8.hB.1 19
  exact mk_ireti hx hb hr hlocks hP hD hK hS dX6_run_13 (⟨hw8, hkb7, by omega, by omega⟩)
set_option maxHeartbeats 4000000 in
set_option maxRecDepth 100000 in
theorem k_row2 (l : Launch) (dC : Nat → ClassId) (dI : Nat → Nat → Nat) (mo : Nat) (ma : Nat → Nat) (cs : Nat → ClassId) (I : Nat → Int) (F : Nat → Int → Int) (p0 : Int) (p1 : Int) (sz : Nat) (hI : mIv I F) (hp01 : -2147483648 ≤ p0) (hp02 : p0 < 2147483648) (hp11 : -2147483648 ≤ p1) (hp12 : p1 < 2147483648) (hKb : mKb I F) : mMi l yX6_row (.code yX6_row cX6_row 4 (some .int)) 5 120 dC dI mo ma cs I F [.ref mo, .int (iz p0), .int (iz p1)] sz (fun (r : Int) (I' : Nat → Int) (F' : Nat → Int → Int) => mWk I F I' F' ∧ mKb I' F') := by
  refine Met.ofW (cc := cX6_row) (maxL := 4) (ret := (some .int)) (by decide) rfl ?_
  intro p e s m args below meth c s₁ B hml hv
  obtain ⟨rfl, hsz, hP, hK, hD0, hG, hZ⟩ := hv
  have hx := B.exec
  have hb := B.bytes
  have hr := B.returns
  have hts := kx_hts (a := ([.ref mo, .int (iz p0), .int (iz p1)] : List Value).toArray) hG
  have hown : s.vm.findClass RX6 = some m.cls := findClass_of_methodNamed B.named
  have hlocks := B.notSynchronized
  subst hsz
  have hD := hD0.self (sz := s.heap.size)
  generalize hAe : va_A (mW mo ma cs I F) s.heap.size = A at hD hZ ⊢
  have hA : ∀ q : Nat, s.heap.size ≤ q → A q := fun q h => by rw [← hAe]; exact Or.inr h
  have hS : va_S A s.heap s.heap [] := va_S.rf
  have hl := lv_entry ([.ref mo, .int (iz p0), .int (iz p1)]) (n := 4) (Nat.le_of_ble_eq_true rfl)
  rw [lg_entry_eq]
  generalize (lg_sl ([.ref mo, .int (iz p0), .int (iz p1)]) ++ List.replicate (4 - (lg_sl ([.ref mo, .int (iz p0), .int (iz p1)])).length) Slot.unset).toArray = ls at hl ⊢
  have hl : lv_has ls 4 [(0, .ref mo), (1, .int (iz p0)), (2, .int (iz p1))] := hl
  have hW0 : mWk I F I F := mWk.rf hI
  have hc0 := hI.hc
  refine lv_aload_n hx hb dX6_row_0 rfl (lv_at hl 0 rfl) ?_
  refine mk_callv (As := []) (rest := []) ⟨hx, hb, hml, hown, hts⟩ (k_look2 l dC dI mo ma cs I F  s.heap.size hI.hB hI.hc hI.hn hI.hlv hI.hkn hI.hk01 hKb.2 hKb.1.1 hKb.1.2.1 hKb.1.2.2.1 hKb.1.2.2.2) (cwV 0 hts (kx_gV kq_11_mask_0 kq_11_mask_1 kq_11_mask_2 kq_04_msmall_6 kq_11_mask_3 rfl) rfl rfl rfl (by decide +kernel) ⟨Nat.le_of_ble_eq_true rfl, Nat.le_of_ble_eq_true rfl⟩) hP hD hK hG hZ hS hA rfl hl.1 rfl (Nat.le_of_ble_eq_true rfl) dX6_row_1 ⟨Nat.le_of_ble_eq_true rfl, Nat.le_of_ble_eq_true rfl⟩ (fun I_3 F_4 H locs hq_2 hP hD hS => ?_)
  try dsimp only at hq_2
  obtain ⟨hq_2, hkr5⟩ := hq_2
  have hkb5 : mKb I_3 F_4 := hKb.look hq_2.2.1 (by decide) hkr5
  have hk6 : mWk I F I_3 F_4 := mWk.look hI hq_2
  have hI6 : mIv I_3 F_4 := hI.go hk6
  have hw6 : mWk _ _ I_3 F_4 := hW0.tr hk6
  have e166 : I_3 16 = 1 := hq_2.2.2.1
  have hc6 := hI6.hc
  obtain ⟨hsmL, hszL, hrwL⟩ := hI6.hkn (by omega)
  refine lv_aload_n hx hb dX6_row_4 rfl (lv_at hl 0 rfl) ?_
  refine lv_iload_n hx hb dX6_row_5 rfl (lv_at hl 1 rfl) ?_
  refine ki_if_lt (tgt := 26) hx hb dX6_row_6 (by decide) (by omega) (by omega) (fun c_7 => ?_) (fun c_7 => ?_)
  · skip
    refine lv_iconst (v := iz 1) hx hb dX6_row_26 (by decide) ?_
    refine lv_goto (tgt := 31) hx hb dX6_row_27 (by decide) ?_
    refine lv_iconst (v := iz 0) hx hb dX6_row_31 (by decide) ?_
    refine lv_iconst (v := iz 0) hx hb dX6_row_32 (by decide) ?_
    refine mk_calli (As := [.int (iz 1), .int (iz 0), .int (iz 0)]) (rest := []) ⟨hx, hb, hml, hown, hts⟩ (k_refused1 l dC dI mo ma cs I_3 F_4 0 0 H.size (by omega) (by omega) (by omega) (by omega)) (cwV 3 hts (kx_gV kq_04_msmall_8 kq_04_msmall_9 kq_04_msmall_10 kq_04_msmall_6 kq_04_msmall_11 rfl) rfl rfl rfl (by decide +kernel) ⟨Nat.le_of_ble_eq_true rfl, Nat.le_of_ble_eq_true rfl⟩) hP hD hK hG hZ hS hA rfl hl.1 rfl (Nat.le_of_ble_eq_true rfl) dX6_row_33 ⟨Nat.le_of_ble_eq_true rfl, Nat.le_of_ble_eq_true rfl⟩ (fun z_8 I_10 F_11 H locs hq_9 hP hD hS => ?_)
    try dsimp only at hq_9
    obtain ⟨rfl, rfl, rfl⟩ := hq_9
    refine ki_if_eq (tgt := 41) hx hb dX6_row_36 (by decide) (by omega) (by omega) (fun c_12 => ?_) (fun c_12 => ?_)
    · omega
    · skip
      refine lv_iconst (v := iz 0) hx hb dX6_row_39 (by decide) ?_
      have hk13 : mWk _ _ (va_up I_3 0 1) F_4 ∧ _ := mWk.thr hI6 (v := 1) (by omega)
      have hI13 : mIv (va_up I_3 0 1) F_4 := hI6.go hk13.1
      have hw13 : mWk _ _ (va_up I_3 0 1) F_4 := hw6.tr hk13.1
      have e1613 : (va_up I_3 0 1) 16 = _ := hk13.2.1
      have e1913 : (va_up I_3 0 1) 19 = _ := hk13.2.2
      have e113 : (va_up I_3 0 1) 1 = _ := hk13.1.2.1.1 1 (by decide)
      have hkb14 : mKb (va_up I_3 0 1) F_4 := hkb5.ui 0 (by decide) _
      exact mk_ireti hx hb hr hlocks hP hD hK hS dX6_row_40 (⟨hw13, hkb14⟩)
  · skip
    refine lv_iload_n hx hb dX6_row_9 rfl (lv_at hl 1 rfl) ?_
    refine lv_aload_n hx hb dX6_row_10 rfl (lv_at hl 0 rfl) ?_
    refine va_get (D := (dC, dI)) (ci := 6) (v := .int (iz (I_3 19))) (C := RX6) (T := TX6) (N := 44) hx hb hts kt_X6 hown hK hP 0 rfl rfl 19 (by decide) (kx_word hG kq_07_mlook_0 rfl) (fun _ h9 => h9) rfl dX6_row_11 ?_
    have hbd_15 := hI6.hB.1 19
    refine ki_icmp_ge (tgt := 26) hx hb dX6_row_14 (by decide) (by omega) (by omega) (by omega) (by omega) (fun c_16 => ?_) (fun c_16 => ?_)
    · skip
      refine lv_iconst (v := iz 1) hx hb dX6_row_26 (by decide) ?_
      refine lv_goto (tgt := 31) hx hb dX6_row_27 (by decide) ?_
      refine lv_iconst (v := iz 0) hx hb dX6_row_31 (by decide) ?_
      refine lv_iconst (v := iz 0) hx hb dX6_row_32 (by decide) ?_
      refine mk_calli (As := [.int (iz 1), .int (iz 0), .int (iz 0)]) (rest := []) ⟨hx, hb, hml, hown, hts⟩ (k_refused1 l dC dI mo ma cs I_3 F_4 0 0 H.size (by omega) (by omega) (by omega) (by omega)) (cwV 3 hts (kx_gV kq_04_msmall_8 kq_04_msmall_9 kq_04_msmall_10 kq_04_msmall_6 kq_04_msmall_11 rfl) rfl rfl rfl (by decide +kernel) ⟨Nat.le_of_ble_eq_true rfl, Nat.le_of_ble_eq_true rfl⟩) hP hD hK hG hZ hS hA rfl hl.1 rfl (Nat.le_of_ble_eq_true rfl) dX6_row_33 ⟨Nat.le_of_ble_eq_true rfl, Nat.le_of_ble_eq_true rfl⟩ (fun z_17 I_19 F_20 H locs hq_18 hP hD hS => ?_)
      try dsimp only at hq_18
      obtain ⟨rfl, rfl, rfl⟩ := hq_18
      refine ki_if_eq (tgt := 41) hx hb dX6_row_36 (by decide) (by omega) (by omega) (fun c_21 => ?_) (fun c_21 => ?_)
      · omega
      · skip
        refine lv_iconst (v := iz 0) hx hb dX6_row_39 (by decide) ?_
        have hk22 : mWk _ _ (va_up I_3 0 1) F_4 ∧ _ := mWk.thr hI6 (v := 1) (by omega)
        have hI22 : mIv (va_up I_3 0 1) F_4 := hI6.go hk22.1
        have hw22 : mWk _ _ (va_up I_3 0 1) F_4 := hw6.tr hk22.1
        have e1622 : (va_up I_3 0 1) 16 = _ := hk22.2.1
        have e1922 : (va_up I_3 0 1) 19 = _ := hk22.2.2
        have e122 : (va_up I_3 0 1) 1 = _ := hk22.1.2.1.1 1 (by decide)
        have hkb23 : mKb (va_up I_3 0 1) F_4 := hkb5.ui 0 (by decide) _
        exact mk_ireti hx hb hr hlocks hP hD hK hS dX6_row_40 (⟨hw22, hkb23⟩)
    · skip
      refine lv_iload_n hx hb dX6_row_17 rfl (lv_at hl 2 rfl) ?_
      refine ki_if_lt (tgt := 26) hx hb dX6_row_18 (by decide) (by omega) (by omega) (fun c_24 => ?_) (fun c_24 => ?_)
      · skip
        refine lv_iconst (v := iz 1) hx hb dX6_row_26 (by decide) ?_
        refine lv_goto (tgt := 31) hx hb dX6_row_27 (by decide) ?_
        refine lv_iconst (v := iz 0) hx hb dX6_row_31 (by decide) ?_
        refine lv_iconst (v := iz 0) hx hb dX6_row_32 (by decide) ?_
        refine mk_calli (As := [.int (iz 1), .int (iz 0), .int (iz 0)]) (rest := []) ⟨hx, hb, hml, hown, hts⟩ (k_refused1 l dC dI mo ma cs I_3 F_4 0 0 H.size (by omega) (by omega) (by omega) (by omega)) (cwV 3 hts (kx_gV kq_04_msmall_8 kq_04_msmall_9 kq_04_msmall_10 kq_04_msmall_6 kq_04_msmall_11 rfl) rfl rfl rfl (by decide +kernel) ⟨Nat.le_of_ble_eq_true rfl, Nat.le_of_ble_eq_true rfl⟩) hP hD hK hG hZ hS hA rfl hl.1 rfl (Nat.le_of_ble_eq_true rfl) dX6_row_33 ⟨Nat.le_of_ble_eq_true rfl, Nat.le_of_ble_eq_true rfl⟩ (fun z_25 I_27 F_28 H locs hq_26 hP hD hS => ?_)
        try dsimp only at hq_26
        obtain ⟨rfl, rfl, rfl⟩ := hq_26
        refine ki_if_eq (tgt := 41) hx hb dX6_row_36 (by decide) (by omega) (by omega) (fun c_29 => ?_) (fun c_29 => ?_)
        · omega
        · skip
          refine lv_iconst (v := iz 0) hx hb dX6_row_39 (by decide) ?_
          have hk30 : mWk _ _ (va_up I_3 0 1) F_4 ∧ _ := mWk.thr hI6 (v := 1) (by omega)
          have hI30 : mIv (va_up I_3 0 1) F_4 := hI6.go hk30.1
          have hw30 : mWk _ _ (va_up I_3 0 1) F_4 := hw6.tr hk30.1
          have e1630 : (va_up I_3 0 1) 16 = _ := hk30.2.1
          have e1930 : (va_up I_3 0 1) 19 = _ := hk30.2.2
          have e130 : (va_up I_3 0 1) 1 = _ := hk30.1.2.1.1 1 (by decide)
          have hkb31 : mKb (va_up I_3 0 1) F_4 := hkb5.ui 0 (by decide) _
          exact mk_ireti hx hb hr hlocks hP hD hK hS dX6_row_40 (⟨hw30, hkb31⟩)
      · skip
        refine lv_iload_n hx hb dX6_row_21 rfl (lv_at hl 2 rfl) ?_
        refine lv_iconst (v := iz 4) hx hb dX6_row_22 (by decide) ?_
        refine ki_icmp_le (tgt := 30) hx hb dX6_row_23 (by decide) (by omega) (by omega) (by omega) (by omega) (fun c_32 => ?_) (fun c_32 => ?_)
        · skip
          refine lv_iconst (v := iz 0) hx hb dX6_row_30 (by decide) ?_
          refine lv_iconst (v := iz 0) hx hb dX6_row_31 (by decide) ?_
          refine lv_iconst (v := iz 0) hx hb dX6_row_32 (by decide) ?_
          refine mk_calli (As := [.int (iz 0), .int (iz 0), .int (iz 0)]) (rest := []) ⟨hx, hb, hml, hown, hts⟩ (k_refused0 l dC dI mo ma cs I_3 F_4  H.size ) (cwV 3 hts (kx_gV kq_04_msmall_8 kq_04_msmall_9 kq_04_msmall_10 kq_04_msmall_6 kq_04_msmall_11 rfl) rfl rfl rfl (by decide +kernel) ⟨Nat.le_of_ble_eq_true rfl, Nat.le_of_ble_eq_true rfl⟩) hP hD hK hG hZ hS hA rfl hl.1 rfl (Nat.le_of_ble_eq_true rfl) dX6_row_33 ⟨Nat.le_of_ble_eq_true rfl, Nat.le_of_ble_eq_true rfl⟩ (fun z_33 I_35 F_36 H locs hq_34 hP hD hS => ?_)
          try dsimp only at hq_34
          obtain ⟨rfl, rfl, rfl⟩ := hq_34
          refine ki_if_eq (tgt := 41) hx hb dX6_row_36 (by decide) (by omega) (by omega) (fun c_37 => ?_) (fun c_37 => ?_)
          · skip
            have hrw9 := hrwL p0 (by omega) (by omega)
            refine lv_aload_n hx hb dX6_row_41 rfl (lv_at hl 0 rfl) ?_
            refine va_get (D := (dC, dI)) (ci := 6) (v := .ref (ma 18)) (C := RX6) (T := TX6) (N := 44) hx hb hts kt_X6 hown hK hP 0 rfl rfl 18 (by decide) (kx_word hG kq_07_mlook_1 rfl) (fun _ h9 => h9) rfl dX6_row_42 ?_
            refine lv_iload_n hx hb dX6_row_45 rfl (lv_at hl 1 rfl) ?_
            refine ki_iald (F := F_4 18) hx hb hK hP 14 13 rfl rfl (by omega) (by omega) (by decide) dX6_row_46 ?_
            have hbd_38 := hI6.hB.2 18 p0
            refine lv_istore_n (lv' := [(3, .int (iz (F_4 18 p0))), (0, .ref mo), (1, .int (iz p0)), (2, .int (iz p1))]) hx hb dX6_row_47 rfl hl (by decide) rfl (fun ls hl => ?_)
            refine lv_iload_n hx hb dX6_row_48 rfl (lv_at hl 3 rfl) ?_
            refine lv_iconst (v := iz 2) hx hb dX6_row_49 (by decide) ?_
            refine ki_icmp_ne (tgt := 64) hx hb dX6_row_50 (by decide) (by omega) (by omega) (by omega) (by omega) (fun c_39 => ?_) (fun c_39 => ?_)
            · skip
              refine lv_iload_n hx hb dX6_row_64 rfl (lv_at hl 3 rfl) ?_
              refine lv_iconst (v := iz 3) hx hb dX6_row_65 (by decide) ?_
              refine ki_icmp_ne (tgt := 79) hx hb dX6_row_66 (by decide) (by omega) (by omega) (by omega) (by omega) (fun c_40 => ?_) (fun c_40 => ?_)
              · skip
                refine lv_iload_n hx hb dX6_row_79 rfl (lv_at hl 3 rfl) ?_
                refine ki_if_ne (tgt := 87) hx hb dX6_row_80 (by decide) (by omega) (by omega) (fun c_41 => ?_) (fun c_41 => ?_)
                · skip
                  refine lv_iload_n hx hb dX6_row_87 rfl (lv_at hl 3 rfl) ?_
                  refine lv_iconst (v := iz 1) hx hb dX6_row_88 (by decide) ?_
                  refine ki_icmp_ne (tgt := 101) hx hb dX6_row_89 (by decide) (by omega) (by omega) (by omega) (by omega) (fun c_42 => ?_) (fun c_42 => ?_)
                  · skip
                    refine lv_aload_n hx hb dX6_row_101 rfl (lv_at hl 1 rfl) ?_
                    refine lv_iload_n hx hb dX6_row_102 rfl (lv_at hl 0 rfl) ?_
                    have hk43 : mWk _ _ (va_up I_3 0 0) F_4 ∧ _ := mWk.thr hI6 (v := 0) (by omega)
                    have hI43 : mIv (va_up I_3 0 0) F_4 := hI6.go hk43.1
                    have hw43 : mWk _ _ (va_up I_3 0 0) F_4 := hw6.tr hk43.1
                    have e1643 : (va_up I_3 0 0) 16 = _ := hk43.2.1
                    have e1943 : (va_up I_3 0 0) 19 = _ := hk43.2.2
                    have e143 : (va_up I_3 0 0) 1 = _ := hk43.1.2.1.1 1 (by decide)
                    have hkb44 : mKb (va_up I_3 0 0) F_4 := hkb5.ui 0 (by decide) _
                    refine mk_calli (As := [.int (iz (F_4 18 p0))]) (rest := []) ⟨hx, hb, hml, hown, hts⟩ (k_groupOf l dC dI mo ma cs (va_up I_3 0 0) F_4 (F_4 18 p0) H.size hI43.hB hI43.hc hI43.hn hI43.hlv (hI43.hkn (by omega)).1 (by omega)) (cwV 1 hts (kx_gV kq_10_mprint_28 kq_10_mprint_29 kq_10_mprint_30 kq_04_msmall_6 kq_10_mprint_31 rfl) rfl rfl rfl (by decide +kernel) ⟨Nat.le_of_ble_eq_true rfl, Nat.le_of_ble_eq_true rfl⟩) hP hD hK hG hZ hS hA rfl hl.1 rfl (Nat.le_of_ble_eq_true rfl) dX6_row_103 ⟨Nat.le_of_ble_eq_true rfl, Nat.le_of_ble_eq_true rfl⟩ (fun z_45 I_47 F_48 H locs hq_46 hP hD hS => ?_)
                    try dsimp only at hq_46
                    have hkb49 : mKb I_47 F_48 := (by have h9 := hq_46.2.2.1; rw [← hq_46.1]; exact hkb44.fr h9 (by decide) (by decide))
                    have hk50 : mWk (va_up I_3 0 0) F_4 I_47 F_48 ∧ _ := mWk.scr hI43 hq_46.1 hq_46.2.1 hq_46.2.2.1
                    have hI50 : mIv I_47 F_48 := hI43.go hk50.1
                    have hw50 : mWk _ _ I_47 F_48 := hw43.tr hk50.1
                    have e1650 := hk50.2.1
                    have e1950 := hk50.2.2
                    have hc50 := hI50.hc
                    have hx50a := hk50.1.2.1.1 1 (by decide)
                    have hrg_51 := hq_46.2.2.2
                    exact mk_ireti hx hb hr hlocks hP hD hK hS dX6_row_106 (⟨hw50, hkb49⟩)
                  · skip
                    refine lv_aload_n hx hb dX6_row_92 rfl (lv_at hl 1 rfl) ?_
                    refine va_get (D := (dC, dI)) (ci := 6) (v := .ref (ma 2)) (C := RX6) (T := TX6) (N := 44) hx hb hts kt_X6 hown hK hP 0 rfl rfl 2 (by decide) (kx_word hG kq_04_msmall_12 rfl) (fun _ h9 => h9) rfl dX6_row_93 ?_
                    refine lv_iload_n hx hb dX6_row_96 rfl (lv_at hl 0 rfl) ?_
                    refine ki_iald (F := F_4 2) hx hb hK hP 1 0 rfl rfl (by omega) (by omega) (by decide) dX6_row_97 ?_
                    have hbd_52 := hI6.hB.2 2 (F_4 18 p0)
                    refine lv_goto (tgt := 106) hx hb dX6_row_98 (by decide) ?_
                    have hk53 : mWk _ _ (va_up I_3 0 0) F_4 ∧ _ := mWk.thr hI6 (v := 0) (by omega)
                    have hI53 : mIv (va_up I_3 0 0) F_4 := hI6.go hk53.1
                    have hw53 : mWk _ _ (va_up I_3 0 0) F_4 := hw6.tr hk53.1
                    have e1653 : (va_up I_3 0 0) 16 = _ := hk53.2.1
                    have e1953 : (va_up I_3 0 0) 19 = _ := hk53.2.2
                    have e153 : (va_up I_3 0 0) 1 = _ := hk53.1.2.1.1 1 (by decide)
                    have hkb54 : mKb (va_up I_3 0 0) F_4 := hkb5.ui 0 (by decide) _
                    exact mk_ireti hx hb hr hlocks hP hD hK hS dX6_row_106 (⟨hw53, hkb54⟩)
                · skip
                  refine lv_iload_n hx hb dX6_row_83 rfl (lv_at hl 0 rfl) ?_
                  refine lv_goto (tgt := 106) hx hb dX6_row_84 (by decide) ?_
                  have hk55 : mWk _ _ (va_up I_3 0 0) F_4 ∧ _ := mWk.thr hI6 (v := 0) (by omega)
                  have hI55 : mIv (va_up I_3 0 0) F_4 := hI6.go hk55.1
                  have hw55 : mWk _ _ (va_up I_3 0 0) F_4 := hw6.tr hk55.1
                  have e1655 : (va_up I_3 0 0) 16 = _ := hk55.2.1
                  have e1955 : (va_up I_3 0 0) 19 = _ := hk55.2.2
                  have e155 : (va_up I_3 0 0) 1 = _ := hk55.1.2.1.1 1 (by decide)
                  have hkb56 : mKb (va_up I_3 0 0) F_4 := hkb5.ui 0 (by decide) _
                  exact mk_ireti hx hb hr hlocks hP hD hK hS dX6_row_106 (⟨hw55, hkb56⟩)
              · skip
                refine lv_aload_n hx hb dX6_row_69 rfl (lv_at hl 1 rfl) ?_
                refine lv_iload_n hx hb dX6_row_70 rfl (lv_at hl 0 rfl) ?_
                have hk57 : mWk _ _ (va_up I_3 0 0) F_4 ∧ _ := mWk.thr hI6 (v := 0) (by omega)
                have hI57 : mIv (va_up I_3 0 0) F_4 := hI6.go hk57.1
                have hw57 : mWk _ _ (va_up I_3 0 0) F_4 := hw6.tr hk57.1
                have e1657 : (va_up I_3 0 0) 16 = _ := hk57.2.1
                have e1957 : (va_up I_3 0 0) 19 = _ := hk57.2.2
                have e157 : (va_up I_3 0 0) 1 = _ := hk57.1.2.1.1 1 (by decide)
                have hkb58 : mKb (va_up I_3 0 0) F_4 := hkb5.ui 0 (by decide) _
                refine mk_callv (As := [.int (iz (F_4 18 p0))]) (rest := []) ⟨hx, hb, hml, hown, hts⟩ (k_gatherShown l dC dI mo ma cs (va_up I_3 0 0) F_4 (F_4 18 p0) H.size hI57.hB hI57.hc hI57.hmy (hI57.hkn (by omega)).1 hI57.hse hI57.hsu (by omega) (by omega)) (cwV 1 hts (kx_gV kq_10_mprint_12 kq_10_mprint_13 kq_10_mprint_14 kq_04_msmall_6 kq_10_mprint_15 rfl) rfl rfl rfl (by decide +kernel) ⟨Nat.le_of_ble_eq_true rfl, Nat.le_of_ble_eq_true rfl⟩) hP hD hK hG hZ hS hA rfl hl.1 rfl (Nat.le_of_ble_eq_true rfl) dX6_row_71 ⟨Nat.le_of_ble_eq_true rfl, Nat.le_of_ble_eq_true rfl⟩ (fun I_61 F_62 H locs hq_60 hP hD hS => ?_)
                try dsimp only at hq_60
                have hkb63 : mKb I_61 F_62 := hkb58.fr hq_60.2.1 (by decide) (by decide)
                have hk64 : mWk (va_up I_3 0 0) F_4 I_61 F_62 ∧ _ := mWk.shw hI57 hq_60
                have hI64 : mIv I_61 F_62 := hI57.go hk64.1
                have hw64 : mWk _ _ I_61 F_62 := hw57.tr hk64.1
                have e1664 := hk64.2.1
                have e1964 := hk64.2.2
                have hc64 := hI64.hc
                have hx64a := hk64.1.2.1.1 1 (by decide)
                refine lv_aload_n hx hb dX6_row_74 rfl (lv_at hl 1 rfl) ?_
                refine va_get (D := (dC, dI)) (ci := 6) (v := .int (iz (I_61 35))) (C := RX6) (T := TX6) (N := 44) hx hb hts kt_X6 hown hK hP 0 rfl rfl 35 (by decide) (kx_word hG kq_09_mput_3 rfl) (fun _ h9 => h9) rfl dX6_row_75 ?_
                have hbd_65 := hI64.hB.1 35
                exact mk_ireti hx hb hr hlocks hP hD hK hS dX6_row_78 (⟨hw64, hkb63⟩)
            · skip
              refine lv_aload_n hx hb dX6_row_53 rfl (lv_at hl 1 rfl) ?_
              refine lv_iload_n hx hb dX6_row_54 rfl (lv_at hl 0 rfl) ?_
              have hk66 : mWk _ _ (va_up I_3 0 0) F_4 ∧ _ := mWk.thr hI6 (v := 0) (by omega)
              have hI66 : mIv (va_up I_3 0 0) F_4 := hI6.go hk66.1
              have hw66 : mWk _ _ (va_up I_3 0 0) F_4 := hw6.tr hk66.1
              have e1666 : (va_up I_3 0 0) 16 = _ := hk66.2.1
              have e1966 : (va_up I_3 0 0) 19 = _ := hk66.2.2
              have e166 : (va_up I_3 0 0) 1 = _ := hk66.1.2.1.1 1 (by decide)
              have hkb67 : mKb (va_up I_3 0 0) F_4 := hkb5.ui 0 (by decide) _
              refine mk_callv (As := [.int (iz (F_4 18 p0))]) (rest := []) ⟨hx, hb, hml, hown, hts⟩ (k_gather l dC dI mo ma cs (va_up I_3 0 0) F_4 (F_4 18 p0) H.size hI66.hB hI66.hc hI66.hln hI66.hmf (by omega) (by omega)) (cwV 1 hts (kx_gV kq_10_mprint_0 kq_10_mprint_1 kq_10_mprint_2 kq_04_msmall_6 kq_10_mprint_3 rfl) rfl rfl rfl (by decide +kernel) ⟨Nat.le_of_ble_eq_true rfl, Nat.le_of_ble_eq_true rfl⟩) hP hD hK hG hZ hS hA rfl hl.1 rfl (Nat.le_of_ble_eq_true rfl) dX6_row_55 ⟨Nat.le_of_ble_eq_true rfl, Nat.le_of_ble_eq_true rfl⟩ (fun I_70 F_71 H locs hq_69 hP hD hS => ?_)
              try dsimp only at hq_69
              have hkb72 : mKb I_70 F_71 := hkb67.fr hq_69.2.1 (by decide) (by decide)
              have hk73 : mWk (va_up I_3 0 0) F_4 I_70 F_71 ∧ _ := mWk.gat hI66 hq_69
              have hI73 : mIv I_70 F_71 := hI66.go hk73.1
              have hw73 : mWk _ _ I_70 F_71 := hw66.tr hk73.1
              have e1673 := hk73.2.1
              have e1973 := hk73.2.2
              have hc73 := hI73.hc
              have hx73a := hk73.1.2.1.1 1 (by decide)
              refine lv_aload_n hx hb dX6_row_58 rfl (lv_at hl 1 rfl) ?_
              refine lv_iconst (v := iz (-1)) hx hb dX6_row_59 (by decide) ?_
              refine mk_calli (As := [.int (iz (-1))]) (rest := []) ⟨hx, hb, hml, hown, hts⟩ (k_locate l dC dI mo ma cs I_70 F_71 (-1) H.size hI73.hB (by have h9 := hI73.hps.2.2.1; omega) hI73.hps.2.2.2 hI73.hps.2.1 (by omega) (by omega)) (cwV 1 hts (kx_gV kq_10_mprint_4 kq_10_mprint_5 kq_10_mprint_6 kq_04_msmall_6 kq_10_mprint_7 rfl) rfl rfl rfl (by decide +kernel) ⟨Nat.le_of_ble_eq_true rfl, Nat.le_of_ble_eq_true rfl⟩) hP hD hK hG hZ hS hA rfl hl.1 rfl (Nat.le_of_ble_eq_true rfl) dX6_row_60 ⟨Nat.le_of_ble_eq_true rfl, Nat.le_of_ble_eq_true rfl⟩ (fun z_74 I_76 F_77 H locs hq_75 hP hD hS => ?_)
              try dsimp only at hq_75
              have hkb78 : mKb I_76 F_77 := (by have h9 := hq_75.2.2.1; rw [← hq_75.1]; exact hkb72.fr h9 (by decide) (by decide))
              have hk79 : mWk I_70 F_71 I_76 F_77 ∧ _ := mWk.loc hI73 hq_75
              have hI79 : mIv I_76 F_77 := hI73.go hk79.1
              have hw79 : mWk _ _ I_76 F_77 := hw73.tr hk79.1
              have e1679 := hk79.2.1
              have e1979 := hk79.2.2
              have hc79 := hI79.hc
              have hx79a := hk79.1.2.1.1 1 (by decide)
              have hr9 := hq_75.2.2.2.2
              exact mk_ireti hx hb hr hlocks hP hD hK hS dX6_row_63 (⟨hw79, hkb78⟩)
          · omega
        · skip
          refine lv_iconst (v := iz 1) hx hb dX6_row_26 (by decide) ?_
          refine lv_goto (tgt := 31) hx hb dX6_row_27 (by decide) ?_
          refine lv_iconst (v := iz 0) hx hb dX6_row_31 (by decide) ?_
          refine lv_iconst (v := iz 0) hx hb dX6_row_32 (by decide) ?_
          refine mk_calli (As := [.int (iz 1), .int (iz 0), .int (iz 0)]) (rest := []) ⟨hx, hb, hml, hown, hts⟩ (k_refused1 l dC dI mo ma cs I_3 F_4 0 0 H.size (by omega) (by omega) (by omega) (by omega)) (cwV 3 hts (kx_gV kq_04_msmall_8 kq_04_msmall_9 kq_04_msmall_10 kq_04_msmall_6 kq_04_msmall_11 rfl) rfl rfl rfl (by decide +kernel) ⟨Nat.le_of_ble_eq_true rfl, Nat.le_of_ble_eq_true rfl⟩) hP hD hK hG hZ hS hA rfl hl.1 rfl (Nat.le_of_ble_eq_true rfl) dX6_row_33 ⟨Nat.le_of_ble_eq_true rfl, Nat.le_of_ble_eq_true rfl⟩ (fun z_80 I_82 F_83 H locs hq_81 hP hD hS => ?_)
          try dsimp only at hq_81
          obtain ⟨rfl, rfl, rfl⟩ := hq_81
          refine ki_if_eq (tgt := 41) hx hb dX6_row_36 (by decide) (by omega) (by omega) (fun c_84 => ?_) (fun c_84 => ?_)
          · omega
          · skip
            refine lv_iconst (v := iz 0) hx hb dX6_row_39 (by decide) ?_
            have hk85 : mWk _ _ (va_up I_3 0 1) F_4 ∧ _ := mWk.thr hI6 (v := 1) (by omega)
            have hI85 : mIv (va_up I_3 0 1) F_4 := hI6.go hk85.1
            have hw85 : mWk _ _ (va_up I_3 0 1) F_4 := hw6.tr hk85.1
            have e1685 : (va_up I_3 0 1) 16 = _ := hk85.2.1
            have e1985 : (va_up I_3 0 1) 19 = _ := hk85.2.2
            have e185 : (va_up I_3 0 1) 1 = _ := hk85.1.2.1.1 1 (by decide)
            have hkb86 : mKb (va_up I_3 0 1) F_4 := hkb5.ui 0 (by decide) _
            exact mk_ireti hx hb hr hlocks hP hD hK hS dX6_row_40 (⟨hw85, hkb86⟩)
set_option maxHeartbeats 4000000 in
set_option maxRecDepth 100000 in
theorem k_locator2 (l : Launch) (dC : Nat → ClassId) (dI : Nat → Nat → Nat) (mo : Nat) (ma : Nat → Nat) (cs : Nat → ClassId) (I : Nat → Int) (F : Nat → Int → Int) (p0 : Int) (p1 : Int) (p2 : Int) (sz : Nat) (hI : mIv I F) (hp01 : -2147483648 ≤ p0) (hp02 : p0 < 2147483648) (hp11 : -2147483648 ≤ p1) (hp12 : p1 < 2147483648) (hp21 : -2147483648 ≤ p2) (hp22 : p2 < 2147483648) (hKb : mKb I F) : mMi l yX6_locator (.code yX6_locator cX6_locator 5 (some .int)) 5 120 dC dI mo ma cs I F [.ref mo, .int (iz p0), .int (iz p1), .int (iz p2)] sz (fun (r : Int) (I' : Nat → Int) (F' : Nat → Int → Int) => mWk I F I' F' ∧ mKb I' F') := by
  refine Met.ofW (cc := cX6_locator) (maxL := 5) (ret := (some .int)) (by decide) rfl ?_
  intro p e s m args below meth c s₁ B hml hv
  obtain ⟨rfl, hsz, hP, hK, hD0, hG, hZ⟩ := hv
  have hx := B.exec
  have hb := B.bytes
  have hr := B.returns
  have hts := kx_hts (a := ([.ref mo, .int (iz p0), .int (iz p1), .int (iz p2)] : List Value).toArray) hG
  have hown : s.vm.findClass RX6 = some m.cls := findClass_of_methodNamed B.named
  have hlocks := B.notSynchronized
  subst hsz
  have hD := hD0.self (sz := s.heap.size)
  generalize hAe : va_A (mW mo ma cs I F) s.heap.size = A at hD hZ ⊢
  have hA : ∀ q : Nat, s.heap.size ≤ q → A q := fun q h => by rw [← hAe]; exact Or.inr h
  have hS : va_S A s.heap s.heap [] := va_S.rf
  have hl := lv_entry ([.ref mo, .int (iz p0), .int (iz p1), .int (iz p2)]) (n := 5) (Nat.le_of_ble_eq_true rfl)
  rw [lg_entry_eq]
  generalize (lg_sl ([.ref mo, .int (iz p0), .int (iz p1), .int (iz p2)]) ++ List.replicate (5 - (lg_sl ([.ref mo, .int (iz p0), .int (iz p1), .int (iz p2)])).length) Slot.unset).toArray = ls at hl ⊢
  have hl : lv_has ls 5 [(0, .ref mo), (1, .int (iz p0)), (2, .int (iz p1)), (3, .int (iz p2))] := hl
  have hW0 : mWk I F I F := mWk.rf hI
  have hc0 := hI.hc
  refine lv_aload_n hx hb dX6_locator_0 rfl (lv_at hl 0 rfl) ?_
  refine mk_callv (As := []) (rest := []) ⟨hx, hb, hml, hown, hts⟩ (k_look2 l dC dI mo ma cs I F  s.heap.size hI.hB hI.hc hI.hn hI.hlv hI.hkn hI.hk01 hKb.2 hKb.1.1 hKb.1.2.1 hKb.1.2.2.1 hKb.1.2.2.2) (cwV 0 hts (kx_gV kq_11_mask_0 kq_11_mask_1 kq_11_mask_2 kq_04_msmall_6 kq_11_mask_3 rfl) rfl rfl rfl (by decide +kernel) ⟨Nat.le_of_ble_eq_true rfl, Nat.le_of_ble_eq_true rfl⟩) hP hD hK hG hZ hS hA rfl hl.1 rfl (Nat.le_of_ble_eq_true rfl) dX6_locator_1 ⟨Nat.le_of_ble_eq_true rfl, Nat.le_of_ble_eq_true rfl⟩ (fun I_3 F_4 H locs hq_2 hP hD hS => ?_)
  try dsimp only at hq_2
  obtain ⟨hq_2, hkr5⟩ := hq_2
  have hkb5 : mKb I_3 F_4 := hKb.look hq_2.2.1 (by decide) hkr5
  have hk6 : mWk I F I_3 F_4 := mWk.look hI hq_2
  have hI6 : mIv I_3 F_4 := hI.go hk6
  have hw6 : mWk _ _ I_3 F_4 := hW0.tr hk6
  have e166 : I_3 16 = 1 := hq_2.2.2.1
  have hc6 := hI6.hc
  obtain ⟨hsmL, hszL, hrwL⟩ := hI6.hkn (by omega)
  refine lv_aload_n hx hb dX6_locator_4 rfl (lv_at hl 0 rfl) ?_
  refine lv_iload_n hx hb dX6_locator_5 rfl (lv_at hl 1 rfl) ?_
  refine ki_if_lt (tgt := 17) hx hb dX6_locator_6 (by decide) (by omega) (by omega) (fun c_7 => ?_) (fun c_7 => ?_)
  · skip
    refine lv_iconst (v := iz 1) hx hb dX6_locator_17 (by decide) ?_
    refine lv_goto (tgt := 22) hx hb dX6_locator_18 (by decide) ?_
    refine lv_iconst (v := iz 0) hx hb dX6_locator_22 (by decide) ?_
    refine lv_iconst (v := iz 0) hx hb dX6_locator_23 (by decide) ?_
    refine mk_calli (As := [.int (iz 1), .int (iz 0), .int (iz 0)]) (rest := []) ⟨hx, hb, hml, hown, hts⟩ (k_refused1 l dC dI mo ma cs I_3 F_4 0 0 H.size (by omega) (by omega) (by omega) (by omega)) (cwV 3 hts (kx_gV kq_04_msmall_8 kq_04_msmall_9 kq_04_msmall_10 kq_04_msmall_6 kq_04_msmall_11 rfl) rfl rfl rfl (by decide +kernel) ⟨Nat.le_of_ble_eq_true rfl, Nat.le_of_ble_eq_true rfl⟩) hP hD hK hG hZ hS hA rfl hl.1 rfl (Nat.le_of_ble_eq_true rfl) dX6_locator_24 ⟨Nat.le_of_ble_eq_true rfl, Nat.le_of_ble_eq_true rfl⟩ (fun z_8 I_10 F_11 H locs hq_9 hP hD hS => ?_)
    try dsimp only at hq_9
    obtain ⟨rfl, rfl, rfl⟩ := hq_9
    refine ki_if_eq (tgt := 32) hx hb dX6_locator_27 (by decide) (by omega) (by omega) (fun c_12 => ?_) (fun c_12 => ?_)
    · omega
    · skip
      refine lv_iconst (v := iz 0) hx hb dX6_locator_30 (by decide) ?_
      have hk13 : mWk _ _ (va_up I_3 0 1) F_4 ∧ _ := mWk.thr hI6 (v := 1) (by omega)
      have hI13 : mIv (va_up I_3 0 1) F_4 := hI6.go hk13.1
      have hw13 : mWk _ _ (va_up I_3 0 1) F_4 := hw6.tr hk13.1
      have e1613 : (va_up I_3 0 1) 16 = _ := hk13.2.1
      have e1913 : (va_up I_3 0 1) 19 = _ := hk13.2.2
      have e113 : (va_up I_3 0 1) 1 = _ := hk13.1.2.1.1 1 (by decide)
      have hkb14 : mKb (va_up I_3 0 1) F_4 := hkb5.ui 0 (by decide) _
      exact mk_ireti hx hb hr hlocks hP hD hK hS dX6_locator_31 (⟨hw13, hkb14⟩)
  · skip
    refine lv_iload_n hx hb dX6_locator_9 rfl (lv_at hl 1 rfl) ?_
    refine lv_aload_n hx hb dX6_locator_10 rfl (lv_at hl 0 rfl) ?_
    refine va_get (D := (dC, dI)) (ci := 6) (v := .int (iz (I_3 19))) (C := RX6) (T := TX6) (N := 44) hx hb hts kt_X6 hown hK hP 0 rfl rfl 19 (by decide) (kx_word hG kq_07_mlook_0 rfl) (fun _ h9 => h9) rfl dX6_locator_11 ?_
    have hbd_15 := hI6.hB.1 19
    refine ki_icmp_lt (tgt := 21) hx hb dX6_locator_14 (by decide) (by omega) (by omega) (by omega) (by omega) (fun c_16 => ?_) (fun c_16 => ?_)
    · skip
      refine lv_iconst (v := iz 0) hx hb dX6_locator_21 (by decide) ?_
      refine lv_iconst (v := iz 0) hx hb dX6_locator_22 (by decide) ?_
      refine lv_iconst (v := iz 0) hx hb dX6_locator_23 (by decide) ?_
      refine mk_calli (As := [.int (iz 0), .int (iz 0), .int (iz 0)]) (rest := []) ⟨hx, hb, hml, hown, hts⟩ (k_refused0 l dC dI mo ma cs I_3 F_4  H.size ) (cwV 3 hts (kx_gV kq_04_msmall_8 kq_04_msmall_9 kq_04_msmall_10 kq_04_msmall_6 kq_04_msmall_11 rfl) rfl rfl rfl (by decide +kernel) ⟨Nat.le_of_ble_eq_true rfl, Nat.le_of_ble_eq_true rfl⟩) hP hD hK hG hZ hS hA rfl hl.1 rfl (Nat.le_of_ble_eq_true rfl) dX6_locator_24 ⟨Nat.le_of_ble_eq_true rfl, Nat.le_of_ble_eq_true rfl⟩ (fun z_17 I_19 F_20 H locs hq_18 hP hD hS => ?_)
      try dsimp only at hq_18
      obtain ⟨rfl, rfl, rfl⟩ := hq_18
      refine ki_if_eq (tgt := 32) hx hb dX6_locator_27 (by decide) (by omega) (by omega) (fun c_21 => ?_) (fun c_21 => ?_)
      · skip
        have hrw9 := hrwL p0 (by omega) (by omega)
        refine lv_aload_n hx hb dX6_locator_32 rfl (lv_at hl 0 rfl) ?_
        refine lv_aload_n hx hb dX6_locator_33 rfl (lv_at hl 0 rfl) ?_
        refine va_get (D := (dC, dI)) (ci := 6) (v := .ref (ma 18)) (C := RX6) (T := TX6) (N := 44) hx hb hts kt_X6 hown hK hP 0 rfl rfl 18 (by decide) (kx_word hG kq_07_mlook_1 rfl) (fun _ h9 => h9) rfl dX6_locator_34 ?_
        refine lv_iload_n hx hb dX6_locator_37 rfl (lv_at hl 1 rfl) ?_
        refine ki_iald (F := F_4 18) hx hb hK hP 14 13 rfl rfl (by omega) (by omega) (by decide) dX6_locator_38 ?_
        have hbd_22 := hI6.hB.2 18 p0
        have hk23 : mWk _ _ (va_up I_3 0 0) F_4 ∧ _ := mWk.thr hI6 (v := 0) (by omega)
        have hI23 : mIv (va_up I_3 0 0) F_4 := hI6.go hk23.1
        have hw23 : mWk _ _ (va_up I_3 0 0) F_4 := hw6.tr hk23.1
        have e1623 : (va_up I_3 0 0) 16 = _ := hk23.2.1
        have e1923 : (va_up I_3 0 0) 19 = _ := hk23.2.2
        have e123 : (va_up I_3 0 0) 1 = _ := hk23.1.2.1.1 1 (by decide)
        have hkb24 : mKb (va_up I_3 0 0) F_4 := hkb5.ui 0 (by decide) _
        refine mk_callv (As := [.int (iz (F_4 18 p0))]) (rest := []) ⟨hx, hb, hml, hown, hts⟩ (k_gather l dC dI mo ma cs (va_up I_3 0 0) F_4 (F_4 18 p0) H.size hI23.hB hI23.hc hI23.hln hI23.hmf (by omega) (by omega)) (cwV 1 hts (kx_gV kq_10_mprint_0 kq_10_mprint_1 kq_10_mprint_2 kq_04_msmall_6 kq_10_mprint_3 rfl) rfl rfl rfl (by decide +kernel) ⟨Nat.le_of_ble_eq_true rfl, Nat.le_of_ble_eq_true rfl⟩) hP hD hK hG hZ hS hA rfl hl.1 rfl (Nat.le_of_ble_eq_true rfl) dX6_locator_39 ⟨Nat.le_of_ble_eq_true rfl, Nat.le_of_ble_eq_true rfl⟩ (fun I_27 F_28 H locs hq_26 hP hD hS => ?_)
        try dsimp only at hq_26
        have hkb29 : mKb I_27 F_28 := hkb24.fr hq_26.2.1 (by decide) (by decide)
        have hk30 : mWk (va_up I_3 0 0) F_4 I_27 F_28 ∧ _ := mWk.gat hI23 hq_26
        have hI30 : mIv I_27 F_28 := hI23.go hk30.1
        have hw30 : mWk _ _ I_27 F_28 := hw23.tr hk30.1
        have e1630 := hk30.2.1
        have e1930 := hk30.2.2
        have hc30 := hI30.hc
        have hx30a := hk30.1.2.1.1 1 (by decide)
        refine lv_aload_n hx hb dX6_locator_42 rfl (lv_at hl 0 rfl) ?_
        refine lv_iload_n hx hb dX6_locator_43 rfl (lv_at hl 2 rfl) ?_
        refine mk_calli (As := [.int (iz p1)]) (rest := []) ⟨hx, hb, hml, hown, hts⟩ (k_locate l dC dI mo ma cs I_27 F_28 p1 H.size hI30.hB (by have h9 := hI30.hps.2.2.1; omega) hI30.hps.2.2.2 hI30.hps.2.1 (by omega) (by omega)) (cwV 1 hts (kx_gV kq_10_mprint_4 kq_10_mprint_5 kq_10_mprint_6 kq_04_msmall_6 kq_10_mprint_7 rfl) rfl rfl rfl (by decide +kernel) ⟨Nat.le_of_ble_eq_true rfl, Nat.le_of_ble_eq_true rfl⟩) hP hD hK hG hZ hS hA rfl hl.1 rfl (Nat.le_of_ble_eq_true rfl) dX6_locator_44 ⟨Nat.le_of_ble_eq_true rfl, Nat.le_of_ble_eq_true rfl⟩ (fun z_31 I_33 F_34 H locs hq_32 hP hD hS => ?_)
        try dsimp only at hq_32
        have hkb35 : mKb I_33 F_34 := (by have h9 := hq_32.2.2.1; rw [← hq_32.1]; exact hkb29.fr h9 (by decide) (by decide))
        have hk36 : mWk I_27 F_28 I_33 F_34 ∧ _ := mWk.loc hI30 hq_32
        have hI36 : mIv I_33 F_34 := hI30.go hk36.1
        have hw36 : mWk _ _ I_33 F_34 := hw30.tr hk36.1
        have e1636 := hk36.2.1
        have e1936 := hk36.2.2
        have hc36 := hI36.hc
        have hx36a := hk36.1.2.1.1 1 (by decide)
        have hr9 := hq_32.2.2.2.2
        refine lv_istore (lv' := [(4, .int (iz z_31)), (0, .ref mo), (1, .int (iz p0)), (2, .int (iz p1)), (3, .int (iz p2))]) hx hb dX6_locator_47 hl (by decide) rfl (fun ls hl => ?_)
        refine lv_aload_n hx hb dX6_locator_49 rfl (lv_at hl 1 rfl) ?_
        refine lv_iload_n hx hb dX6_locator_50 rfl (lv_at hl 3 rfl) ?_
        refine ki_if_lt (tgt := 69) hx hb dX6_locator_51 (by decide) (by omega) (by omega) (fun c_37 => ?_) (fun c_37 => ?_)
        · skip
          refine lv_iconst (v := iz 1) hx hb dX6_locator_69 (by decide) ?_
          refine lv_goto (tgt := 74) hx hb dX6_locator_70 (by decide) ?_
          refine lv_iconst (v := iz 0) hx hb dX6_locator_74 (by decide) ?_
          refine lv_iconst (v := iz 0) hx hb dX6_locator_75 (by decide) ?_
          refine mk_calli (As := [.int (iz 1), .int (iz 0), .int (iz 0)]) (rest := []) ⟨hx, hb, hml, hown, hts⟩ (k_refused1 l dC dI mo ma cs I_33 F_34 0 0 H.size (by omega) (by omega) (by omega) (by omega)) (cwV 3 hts (kx_gV kq_04_msmall_8 kq_04_msmall_9 kq_04_msmall_10 kq_04_msmall_6 kq_04_msmall_11 rfl) rfl rfl rfl (by decide +kernel) ⟨Nat.le_of_ble_eq_true rfl, Nat.le_of_ble_eq_true rfl⟩) hP hD hK hG hZ hS hA rfl hl.1 rfl (Nat.le_of_ble_eq_true rfl) dX6_locator_76 ⟨Nat.le_of_ble_eq_true rfl, Nat.le_of_ble_eq_true rfl⟩ (fun z_38 I_40 F_41 H locs hq_39 hP hD hS => ?_)
          try dsimp only at hq_39
          obtain ⟨rfl, rfl, rfl⟩ := hq_39
          refine ki_if_eq (tgt := 84) hx hb dX6_locator_79 (by decide) (by omega) (by omega) (fun c_42 => ?_) (fun c_42 => ?_)
          · omega
          · skip
            refine lv_iconst (v := iz 0) hx hb dX6_locator_82 (by decide) ?_
            have hk43 : mWk _ _ (va_up I_33 0 1) F_34 ∧ _ := mWk.thr hI36 (v := 1) (by omega)
            have hI43 : mIv (va_up I_33 0 1) F_34 := hI36.go hk43.1
            have hw43 : mWk _ _ (va_up I_33 0 1) F_34 := hw36.tr hk43.1
            have e1643 : (va_up I_33 0 1) 16 = _ := hk43.2.1
            have e1943 : (va_up I_33 0 1) 19 = _ := hk43.2.2
            have e143 : (va_up I_33 0 1) 1 = _ := hk43.1.2.1.1 1 (by decide)
            have hkb44 : mKb (va_up I_33 0 1) F_34 := hkb35.ui 0 (by decide) _
            exact mk_ireti hx hb hr hlocks hP hD hK hS dX6_locator_83 (⟨hw43, hkb44⟩)
        · skip
          refine lv_iload_n hx hb dX6_locator_54 rfl (lv_at hl 3 rfl) ?_
          refine lv_iload hx hb dX6_locator_55 (lv_at hl 0 rfl) ?_
          refine ki_icmp_ge (tgt := 69) hx hb dX6_locator_57 (by decide) (by omega) (by omega) (by omega) (by omega) (fun c_45 => ?_) (fun c_45 => ?_)
          · skip
            refine lv_iconst (v := iz 1) hx hb dX6_locator_69 (by decide) ?_
            refine lv_goto (tgt := 74) hx hb dX6_locator_70 (by decide) ?_
            refine lv_iconst (v := iz 0) hx hb dX6_locator_74 (by decide) ?_
            refine lv_iconst (v := iz 0) hx hb dX6_locator_75 (by decide) ?_
            refine mk_calli (As := [.int (iz 1), .int (iz 0), .int (iz 0)]) (rest := []) ⟨hx, hb, hml, hown, hts⟩ (k_refused1 l dC dI mo ma cs I_33 F_34 0 0 H.size (by omega) (by omega) (by omega) (by omega)) (cwV 3 hts (kx_gV kq_04_msmall_8 kq_04_msmall_9 kq_04_msmall_10 kq_04_msmall_6 kq_04_msmall_11 rfl) rfl rfl rfl (by decide +kernel) ⟨Nat.le_of_ble_eq_true rfl, Nat.le_of_ble_eq_true rfl⟩) hP hD hK hG hZ hS hA rfl hl.1 rfl (Nat.le_of_ble_eq_true rfl) dX6_locator_76 ⟨Nat.le_of_ble_eq_true rfl, Nat.le_of_ble_eq_true rfl⟩ (fun z_46 I_48 F_49 H locs hq_47 hP hD hS => ?_)
            try dsimp only at hq_47
            obtain ⟨rfl, rfl, rfl⟩ := hq_47
            refine ki_if_eq (tgt := 84) hx hb dX6_locator_79 (by decide) (by omega) (by omega) (fun c_50 => ?_) (fun c_50 => ?_)
            · omega
            · skip
              refine lv_iconst (v := iz 0) hx hb dX6_locator_82 (by decide) ?_
              have hk51 : mWk _ _ (va_up I_33 0 1) F_34 ∧ _ := mWk.thr hI36 (v := 1) (by omega)
              have hI51 : mIv (va_up I_33 0 1) F_34 := hI36.go hk51.1
              have hw51 : mWk _ _ (va_up I_33 0 1) F_34 := hw36.tr hk51.1
              have e1651 : (va_up I_33 0 1) 16 = _ := hk51.2.1
              have e1951 : (va_up I_33 0 1) 19 = _ := hk51.2.2
              have e151 : (va_up I_33 0 1) 1 = _ := hk51.1.2.1.1 1 (by decide)
              have hkb52 : mKb (va_up I_33 0 1) F_34 := hkb35.ui 0 (by decide) _
              exact mk_ireti hx hb hr hlocks hP hD hK hS dX6_locator_83 (⟨hw51, hkb52⟩)
          · skip
            refine lv_iload_n hx hb dX6_locator_60 rfl (lv_at hl 4 rfl) ?_
            refine ki_if_lt (tgt := 69) hx hb dX6_locator_61 (by decide) (by omega) (by omega) (fun c_53 => ?_) (fun c_53 => ?_)
            · skip
              refine lv_iconst (v := iz 1) hx hb dX6_locator_69 (by decide) ?_
              refine lv_goto (tgt := 74) hx hb dX6_locator_70 (by decide) ?_
              refine lv_iconst (v := iz 0) hx hb dX6_locator_74 (by decide) ?_
              refine lv_iconst (v := iz 0) hx hb dX6_locator_75 (by decide) ?_
              refine mk_calli (As := [.int (iz 1), .int (iz 0), .int (iz 0)]) (rest := []) ⟨hx, hb, hml, hown, hts⟩ (k_refused1 l dC dI mo ma cs I_33 F_34 0 0 H.size (by omega) (by omega) (by omega) (by omega)) (cwV 3 hts (kx_gV kq_04_msmall_8 kq_04_msmall_9 kq_04_msmall_10 kq_04_msmall_6 kq_04_msmall_11 rfl) rfl rfl rfl (by decide +kernel) ⟨Nat.le_of_ble_eq_true rfl, Nat.le_of_ble_eq_true rfl⟩) hP hD hK hG hZ hS hA rfl hl.1 rfl (Nat.le_of_ble_eq_true rfl) dX6_locator_76 ⟨Nat.le_of_ble_eq_true rfl, Nat.le_of_ble_eq_true rfl⟩ (fun z_54 I_56 F_57 H locs hq_55 hP hD hS => ?_)
              try dsimp only at hq_55
              obtain ⟨rfl, rfl, rfl⟩ := hq_55
              refine ki_if_eq (tgt := 84) hx hb dX6_locator_79 (by decide) (by omega) (by omega) (fun c_58 => ?_) (fun c_58 => ?_)
              · omega
              · skip
                refine lv_iconst (v := iz 0) hx hb dX6_locator_82 (by decide) ?_
                have hk59 : mWk _ _ (va_up I_33 0 1) F_34 ∧ _ := mWk.thr hI36 (v := 1) (by omega)
                have hI59 : mIv (va_up I_33 0 1) F_34 := hI36.go hk59.1
                have hw59 : mWk _ _ (va_up I_33 0 1) F_34 := hw36.tr hk59.1
                have e1659 : (va_up I_33 0 1) 16 = _ := hk59.2.1
                have e1959 : (va_up I_33 0 1) 19 = _ := hk59.2.2
                have e159 : (va_up I_33 0 1) 1 = _ := hk59.1.2.1.1 1 (by decide)
                have hkb60 : mKb (va_up I_33 0 1) F_34 := hkb35.ui 0 (by decide) _
                exact mk_ireti hx hb hr hlocks hP hD hK hS dX6_locator_83 (⟨hw59, hkb60⟩)
            · skip
              refine lv_iload_n hx hb dX6_locator_64 rfl (lv_at hl 4 rfl) ?_
              refine lv_iconst (v := iz 2) hx hb dX6_locator_65 (by decide) ?_
              refine ki_icmp_le (tgt := 73) hx hb dX6_locator_66 (by decide) (by omega) (by omega) (by omega) (by omega) (fun c_61 => ?_) (fun c_61 => ?_)
              · skip
                refine lv_iconst (v := iz 0) hx hb dX6_locator_73 (by decide) ?_
                refine lv_iconst (v := iz 0) hx hb dX6_locator_74 (by decide) ?_
                refine lv_iconst (v := iz 0) hx hb dX6_locator_75 (by decide) ?_
                refine mk_calli (As := [.int (iz 0), .int (iz 0), .int (iz 0)]) (rest := []) ⟨hx, hb, hml, hown, hts⟩ (k_refused0 l dC dI mo ma cs I_33 F_34  H.size ) (cwV 3 hts (kx_gV kq_04_msmall_8 kq_04_msmall_9 kq_04_msmall_10 kq_04_msmall_6 kq_04_msmall_11 rfl) rfl rfl rfl (by decide +kernel) ⟨Nat.le_of_ble_eq_true rfl, Nat.le_of_ble_eq_true rfl⟩) hP hD hK hG hZ hS hA rfl hl.1 rfl (Nat.le_of_ble_eq_true rfl) dX6_locator_76 ⟨Nat.le_of_ble_eq_true rfl, Nat.le_of_ble_eq_true rfl⟩ (fun z_62 I_64 F_65 H locs hq_63 hP hD hS => ?_)
                try dsimp only at hq_63
                obtain ⟨rfl, rfl, rfl⟩ := hq_63
                refine ki_if_eq (tgt := 84) hx hb dX6_locator_79 (by decide) (by omega) (by omega) (fun c_66 => ?_) (fun c_66 => ?_)
                · skip
                  refine lv_iload_n hx hb dX6_locator_84 rfl (lv_at hl 4 rfl) ?_
                  refine ki_if_ne (tgt := 95) hx hb dX6_locator_85 (by decide) (by omega) (by omega) (fun c_67 => ?_) (fun c_67 => ?_)
                  · skip
                    refine lv_iload_n hx hb dX6_locator_95 rfl (lv_at hl 4 rfl) ?_
                    refine lv_iconst (v := iz 1) hx hb dX6_locator_96 (by decide) ?_
                    refine ki_icmp_ne (tgt := 107) hx hb dX6_locator_97 (by decide) (by omega) (by omega) (by omega) (by omega) (fun c_68 => ?_) (fun c_68 => ?_)
                    · skip
                      refine lv_aload_n hx hb dX6_locator_107 rfl (lv_at hl 1 rfl) ?_
                      refine va_get (D := (dC, dI)) (ci := 6) (v := .int (iz (I_33 33))) (C := RX6) (T := TX6) (N := 44) hx hb hts kt_X6 hown hK hP 0 rfl rfl 33 (by decide) (kx_word hG kq_09_mput_2 rfl) (fun _ h9 => h9) rfl dX6_locator_108 ?_
                      have hbd_69 := hI36.hB.1 33
                      have hk70 : mWk _ _ (va_up I_33 0 0) F_34 ∧ _ := mWk.thr hI36 (v := 0) (by omega)
                      have hI70 : mIv (va_up I_33 0 0) F_34 := hI36.go hk70.1
                      have hw70 : mWk _ _ (va_up I_33 0 0) F_34 := hw36.tr hk70.1
                      have e1670 : (va_up I_33 0 0) 16 = _ := hk70.2.1
                      have e1970 : (va_up I_33 0 0) 19 = _ := hk70.2.2
                      have e170 : (va_up I_33 0 0) 1 = _ := hk70.1.2.1.1 1 (by decide)
                      have hkb71 : mKb (va_up I_33 0 0) F_34 := hkb35.ui 0 (by decide) _
                      exact mk_ireti hx hb hr hlocks hP hD hK hS dX6_locator_111 (⟨hw70, hkb71⟩)
                    · skip
                      refine lv_aload_n hx hb dX6_locator_100 rfl (lv_at hl 1 rfl) ?_
                      refine va_get (D := (dC, dI)) (ci := 6) (v := .int (iz (I_33 32))) (C := RX6) (T := TX6) (N := 44) hx hb hts kt_X6 hown hK hP 0 rfl rfl 32 (by decide) (kx_word hG kq_09_mput_1 rfl) (fun _ h9 => h9) rfl dX6_locator_101 ?_
                      have hbd_72 := hI36.hB.1 32
                      refine lv_goto (tgt := 111) hx hb dX6_locator_104 (by decide) ?_
                      have hk73 : mWk _ _ (va_up I_33 0 0) F_34 ∧ _ := mWk.thr hI36 (v := 0) (by omega)
                      have hI73 : mIv (va_up I_33 0 0) F_34 := hI36.go hk73.1
                      have hw73 : mWk _ _ (va_up I_33 0 0) F_34 := hw36.tr hk73.1
                      have e1673 : (va_up I_33 0 0) 16 = _ := hk73.2.1
                      have e1973 : (va_up I_33 0 0) 19 = _ := hk73.2.2
                      have e173 : (va_up I_33 0 0) 1 = _ := hk73.1.2.1.1 1 (by decide)
                      have hkb74 : mKb (va_up I_33 0 0) F_34 := hkb35.ui 0 (by decide) _
                      exact mk_ireti hx hb hr hlocks hP hD hK hS dX6_locator_111 (⟨hw73, hkb74⟩)
                  · skip
                    refine lv_aload_n hx hb dX6_locator_88 rfl (lv_at hl 1 rfl) ?_
                    refine va_get (D := (dC, dI)) (ci := 6) (v := .int (iz (I_33 31))) (C := RX6) (T := TX6) (N := 44) hx hb hts kt_X6 hown hK hP 0 rfl rfl 31 (by decide) (kx_word hG kq_09_mput_0 rfl) (fun _ h9 => h9) rfl dX6_locator_89 ?_
                    have hbd_75 := hI36.hB.1 31
                    refine lv_goto (tgt := 111) hx hb dX6_locator_92 (by decide) ?_
                    have hk76 : mWk _ _ (va_up I_33 0 0) F_34 ∧ _ := mWk.thr hI36 (v := 0) (by omega)
                    have hI76 : mIv (va_up I_33 0 0) F_34 := hI36.go hk76.1
                    have hw76 : mWk _ _ (va_up I_33 0 0) F_34 := hw36.tr hk76.1
                    have e1676 : (va_up I_33 0 0) 16 = _ := hk76.2.1
                    have e1976 : (va_up I_33 0 0) 19 = _ := hk76.2.2
                    have e176 : (va_up I_33 0 0) 1 = _ := hk76.1.2.1.1 1 (by decide)
                    have hkb77 : mKb (va_up I_33 0 0) F_34 := hkb35.ui 0 (by decide) _
                    exact mk_ireti hx hb hr hlocks hP hD hK hS dX6_locator_111 (⟨hw76, hkb77⟩)
                · omega
              · skip
                refine lv_iconst (v := iz 1) hx hb dX6_locator_69 (by decide) ?_
                refine lv_goto (tgt := 74) hx hb dX6_locator_70 (by decide) ?_
                refine lv_iconst (v := iz 0) hx hb dX6_locator_74 (by decide) ?_
                refine lv_iconst (v := iz 0) hx hb dX6_locator_75 (by decide) ?_
                refine mk_calli (As := [.int (iz 1), .int (iz 0), .int (iz 0)]) (rest := []) ⟨hx, hb, hml, hown, hts⟩ (k_refused1 l dC dI mo ma cs I_33 F_34 0 0 H.size (by omega) (by omega) (by omega) (by omega)) (cwV 3 hts (kx_gV kq_04_msmall_8 kq_04_msmall_9 kq_04_msmall_10 kq_04_msmall_6 kq_04_msmall_11 rfl) rfl rfl rfl (by decide +kernel) ⟨Nat.le_of_ble_eq_true rfl, Nat.le_of_ble_eq_true rfl⟩) hP hD hK hG hZ hS hA rfl hl.1 rfl (Nat.le_of_ble_eq_true rfl) dX6_locator_76 ⟨Nat.le_of_ble_eq_true rfl, Nat.le_of_ble_eq_true rfl⟩ (fun z_78 I_80 F_81 H locs hq_79 hP hD hS => ?_)
                try dsimp only at hq_79
                obtain ⟨rfl, rfl, rfl⟩ := hq_79
                refine ki_if_eq (tgt := 84) hx hb dX6_locator_79 (by decide) (by omega) (by omega) (fun c_82 => ?_) (fun c_82 => ?_)
                · omega
                · skip
                  refine lv_iconst (v := iz 0) hx hb dX6_locator_82 (by decide) ?_
                  have hk83 : mWk _ _ (va_up I_33 0 1) F_34 ∧ _ := mWk.thr hI36 (v := 1) (by omega)
                  have hI83 : mIv (va_up I_33 0 1) F_34 := hI36.go hk83.1
                  have hw83 : mWk _ _ (va_up I_33 0 1) F_34 := hw36.tr hk83.1
                  have e1683 : (va_up I_33 0 1) 16 = _ := hk83.2.1
                  have e1983 : (va_up I_33 0 1) 19 = _ := hk83.2.2
                  have e183 : (va_up I_33 0 1) 1 = _ := hk83.1.2.1.1 1 (by decide)
                  have hkb84 : mKb (va_up I_33 0 1) F_34 := hkb35.ui 0 (by decide) _
                  exact mk_ireti hx hb hr hlocks hP hD hK hS dX6_locator_83 (⟨hw83, hkb84⟩)
      · omega
    · skip
      refine lv_iconst (v := iz 1) hx hb dX6_locator_17 (by decide) ?_
      refine lv_goto (tgt := 22) hx hb dX6_locator_18 (by decide) ?_
      refine lv_iconst (v := iz 0) hx hb dX6_locator_22 (by decide) ?_
      refine lv_iconst (v := iz 0) hx hb dX6_locator_23 (by decide) ?_
      refine mk_calli (As := [.int (iz 1), .int (iz 0), .int (iz 0)]) (rest := []) ⟨hx, hb, hml, hown, hts⟩ (k_refused1 l dC dI mo ma cs I_3 F_4 0 0 H.size (by omega) (by omega) (by omega) (by omega)) (cwV 3 hts (kx_gV kq_04_msmall_8 kq_04_msmall_9 kq_04_msmall_10 kq_04_msmall_6 kq_04_msmall_11 rfl) rfl rfl rfl (by decide +kernel) ⟨Nat.le_of_ble_eq_true rfl, Nat.le_of_ble_eq_true rfl⟩) hP hD hK hG hZ hS hA rfl hl.1 rfl (Nat.le_of_ble_eq_true rfl) dX6_locator_24 ⟨Nat.le_of_ble_eq_true rfl, Nat.le_of_ble_eq_true rfl⟩ (fun z_85 I_87 F_88 H locs hq_86 hP hD hS => ?_)
      try dsimp only at hq_86
      obtain ⟨rfl, rfl, rfl⟩ := hq_86
      refine ki_if_eq (tgt := 32) hx hb dX6_locator_27 (by decide) (by omega) (by omega) (fun c_89 => ?_) (fun c_89 => ?_)
      · omega
      · skip
        refine lv_iconst (v := iz 0) hx hb dX6_locator_30 (by decide) ?_
        have hk90 : mWk _ _ (va_up I_3 0 1) F_4 ∧ _ := mWk.thr hI6 (v := 1) (by omega)
        have hI90 : mIv (va_up I_3 0 1) F_4 := hI6.go hk90.1
        have hw90 : mWk _ _ (va_up I_3 0 1) F_4 := hw6.tr hk90.1
        have e1690 : (va_up I_3 0 1) 16 = _ := hk90.2.1
        have e1990 : (va_up I_3 0 1) 19 = _ := hk90.2.2
        have e190 : (va_up I_3 0 1) 1 = _ := hk90.1.2.1.1 1 (by decide)
        have hkb91 : mKb (va_up I_3 0 1) F_4 := hkb5.ui 0 (by decide) _
        exact mk_ireti hx hb hr hlocks hP hD hK hS dX6_locator_31 (⟨hw90, hkb91⟩)
set_option maxHeartbeats 4000000 in
set_option maxRecDepth 100000 in
theorem k_compare3 (l : Launch) (dC : Nat → ClassId) (dI : Nat → Nat → Nat) (mo : Nat) (ma : Nat → Nat) (cs : Nat → ClassId) (I : Nat → Int) (F : Nat → Int → Int) (p0 : Int) (p1 : Int) (sz : Nat) (hI : mIv I F) (hp01 : -2147483648 ≤ p0) (hp02 : p0 < 2147483648) (hp11 : -2147483648 ≤ p1) (hp12 : p1 < 2147483648) (hKb : mKb I F) : mMi l yX6_compare (.code yX6_compare cX6_compare 3 (some .int)) 3 72 dC dI mo ma cs I F [.ref mo, .int (iz p0), .int (iz p1)] sz (fun (r : Int) (I' : Nat → Int) (F' : Nat → Int → Int) => mWk I F I' F' ∧ mKb I' F' ∧ ((I' 0 = 1 ∧ ¬ ((0 ≤ p0 ∧ p0 < I 1) ∧ (0 ≤ p1 ∧ p1 < I 1))) ∨ (I' 0 = 0 ∧ ((0 ≤ p0 ∧ p0 < I 1) ∧ (0 ≤ p1 ∧ p1 < I 1)) ∧ r = kf_oc I F p0 p1))) := by
  refine Met.ofW (cc := cX6_compare) (maxL := 3) (ret := (some .int)) (by decide) rfl ?_
  intro p e s m args below meth c s₁ B hml hv
  obtain ⟨rfl, hsz, hP, hK, hD0, hG, hZ⟩ := hv
  have hx := B.exec
  have hb := B.bytes
  have hr := B.returns
  have hts := kx_hts (a := ([.ref mo, .int (iz p0), .int (iz p1)] : List Value).toArray) hG
  have hown : s.vm.findClass RX6 = some m.cls := findClass_of_methodNamed B.named
  have hlocks := B.notSynchronized
  subst hsz
  have hD := hD0.self (sz := s.heap.size)
  generalize hAe : va_A (mW mo ma cs I F) s.heap.size = A at hD hZ ⊢
  have hA : ∀ q : Nat, s.heap.size ≤ q → A q := fun q h => by rw [← hAe]; exact Or.inr h
  have hS : va_S A s.heap s.heap [] := va_S.rf
  have hl := lv_entry ([.ref mo, .int (iz p0), .int (iz p1)]) (n := 3) (Nat.le_of_ble_eq_true rfl)
  rw [lg_entry_eq]
  generalize (lg_sl ([.ref mo, .int (iz p0), .int (iz p1)]) ++ List.replicate (3 - (lg_sl ([.ref mo, .int (iz p0), .int (iz p1)])).length) Slot.unset).toArray = ls at hl ⊢
  have hl : lv_has ls 3 [(0, .ref mo), (1, .int (iz p0)), (2, .int (iz p1))] := hl
  have hW0 : mWk I F I F := mWk.rf hI
  have hc0 := hI.hc
  refine lv_aload_n hx hb dX6_compare_0 rfl (lv_at hl 0 rfl) ?_
  refine lv_aload_n hx hb dX6_compare_1 rfl (lv_at hl 0 rfl) ?_
  refine lv_iload_n hx hb dX6_compare_2 rfl (lv_at hl 1 rfl) ?_
  refine mk_calli (As := [.int (iz p0)]) (rest := [.ref mo]) ⟨hx, hb, hml, hown, hts⟩ (k_isNone l dC dI mo ma cs I F p0 s.heap.size hI.hB (by omega) (by omega)) (cwV 1 hts (kx_gV kq_04_msmall_3 kq_04_msmall_4 kq_04_msmall_5 kq_04_msmall_6 kq_04_msmall_7 rfl) rfl rfl rfl (by decide +kernel) ⟨Nat.le_of_ble_eq_true rfl, Nat.le_of_ble_eq_true rfl⟩) hP hD hK hG hZ hS hA rfl hl.1 rfl (Nat.le_of_ble_eq_true rfl) dX6_compare_3 ⟨Nat.le_of_ble_eq_true rfl, Nat.le_of_ble_eq_true rfl⟩ (fun z_1 I_3 F_4 H locs hq_2 hP hD hS => ?_)
  try dsimp only at hq_2
  obtain ⟨rfl, rfl, hq_2⟩ := hq_2
  rcases hq_2 with ⟨rfl, hq_2⟩ | ⟨rfl, hq_2⟩
  · skip
    refine ki_if_ne (tgt := 17) hx hb dX6_compare_6 (by decide) (by omega) (by omega) (fun c_5 => ?_) (fun c_5 => ?_)
    · skip
      refine lv_iconst (v := iz 1) hx hb dX6_compare_17 (by decide) ?_
      refine lv_goto (tgt := 22) hx hb dX6_compare_18 (by decide) ?_
      refine lv_iconst (v := iz 0) hx hb dX6_compare_22 (by decide) ?_
      refine lv_iconst (v := iz 0) hx hb dX6_compare_23 (by decide) ?_
      refine mk_calli (As := [.int (iz 1), .int (iz 0), .int (iz 0)]) (rest := []) ⟨hx, hb, hml, hown, hts⟩ (k_refused1 l dC dI mo ma cs I F 0 0 H.size (by omega) (by omega) (by omega) (by omega)) (cwV 3 hts (kx_gV kq_04_msmall_8 kq_04_msmall_9 kq_04_msmall_10 kq_04_msmall_6 kq_04_msmall_11 rfl) rfl rfl rfl (by decide +kernel) ⟨Nat.le_of_ble_eq_true rfl, Nat.le_of_ble_eq_true rfl⟩) hP hD hK hG hZ hS hA rfl hl.1 rfl (Nat.le_of_ble_eq_true rfl) dX6_compare_24 ⟨Nat.le_of_ble_eq_true rfl, Nat.le_of_ble_eq_true rfl⟩ (fun z_6 I_8 F_9 H locs hq_7 hP hD hS => ?_)
      try dsimp only at hq_7
      obtain ⟨rfl, rfl, rfl⟩ := hq_7
      refine ki_if_eq (tgt := 34) hx hb dX6_compare_27 (by decide) (by omega) (by omega) (fun c_10 => ?_) (fun c_10 => ?_)
      · omega
      · skip
        refine lv_iconst (v := iz 0) hx hb dX6_compare_30 (by decide) ?_
        refine lv_goto (tgt := 40) hx hb dX6_compare_31 (by decide) ?_
        have hk11 : mWk _ _ (va_up I 0 1) F ∧ _ := mWk.thr hI (v := 1) (by omega)
        have hI11 : mIv (va_up I 0 1) F := hI.go hk11.1
        have hw11 : mWk _ _ (va_up I 0 1) F := hW0.tr hk11.1
        have e1611 : (va_up I 0 1) 16 = _ := hk11.2.1
        have e1911 : (va_up I 0 1) 19 = _ := hk11.2.2
        have e111 : (va_up I 0 1) 1 = _ := hk11.1.2.1.1 1 (by decide)
        have hkb12 : mKb (va_up I 0 1) F := hKb.ui 0 (by decide) _
        exact mk_ireti hx hb hr hlocks hP hD hK hS dX6_compare_40 (⟨hw11, hkb12, Or.inl ⟨rfl, by omega⟩⟩)
    · omega
  · skip
    refine ki_if_ne (tgt := 17) hx hb dX6_compare_6 (by decide) (by omega) (by omega) (fun c_13 => ?_) (fun c_13 => ?_)
    · omega
    · skip
      refine lv_aload_n hx hb dX6_compare_9 rfl (lv_at hl 0 rfl) ?_
      refine lv_iload_n hx hb dX6_compare_10 rfl (lv_at hl 2 rfl) ?_
      refine mk_calli (As := [.int (iz p1)]) (rest := [.ref mo]) ⟨hx, hb, hml, hown, hts⟩ (k_isNone l dC dI mo ma cs I F p1 H.size hI.hB (by omega) (by omega)) (cwV 1 hts (kx_gV kq_04_msmall_3 kq_04_msmall_4 kq_04_msmall_5 kq_04_msmall_6 kq_04_msmall_7 rfl) rfl rfl rfl (by decide +kernel) ⟨Nat.le_of_ble_eq_true rfl, Nat.le_of_ble_eq_true rfl⟩) hP hD hK hG hZ hS hA rfl hl.1 rfl (Nat.le_of_ble_eq_true rfl) dX6_compare_11 ⟨Nat.le_of_ble_eq_true rfl, Nat.le_of_ble_eq_true rfl⟩ (fun z_14 I_16 F_17 H locs hq_15 hP hD hS => ?_)
      try dsimp only at hq_15
      obtain ⟨rfl, rfl, hq_15⟩ := hq_15
      rcases hq_15 with ⟨rfl, hq_15⟩ | ⟨rfl, hq_15⟩
      · skip
        refine ki_if_eq (tgt := 21) hx hb dX6_compare_14 (by decide) (by omega) (by omega) (fun c_18 => ?_) (fun c_18 => ?_)
        · omega
        · skip
          refine lv_iconst (v := iz 1) hx hb dX6_compare_17 (by decide) ?_
          refine lv_goto (tgt := 22) hx hb dX6_compare_18 (by decide) ?_
          refine lv_iconst (v := iz 0) hx hb dX6_compare_22 (by decide) ?_
          refine lv_iconst (v := iz 0) hx hb dX6_compare_23 (by decide) ?_
          refine mk_calli (As := [.int (iz 1), .int (iz 0), .int (iz 0)]) (rest := []) ⟨hx, hb, hml, hown, hts⟩ (k_refused1 l dC dI mo ma cs I F 0 0 H.size (by omega) (by omega) (by omega) (by omega)) (cwV 3 hts (kx_gV kq_04_msmall_8 kq_04_msmall_9 kq_04_msmall_10 kq_04_msmall_6 kq_04_msmall_11 rfl) rfl rfl rfl (by decide +kernel) ⟨Nat.le_of_ble_eq_true rfl, Nat.le_of_ble_eq_true rfl⟩) hP hD hK hG hZ hS hA rfl hl.1 rfl (Nat.le_of_ble_eq_true rfl) dX6_compare_24 ⟨Nat.le_of_ble_eq_true rfl, Nat.le_of_ble_eq_true rfl⟩ (fun z_19 I_21 F_22 H locs hq_20 hP hD hS => ?_)
          try dsimp only at hq_20
          obtain ⟨rfl, rfl, rfl⟩ := hq_20
          refine ki_if_eq (tgt := 34) hx hb dX6_compare_27 (by decide) (by omega) (by omega) (fun c_23 => ?_) (fun c_23 => ?_)
          · omega
          · skip
            refine lv_iconst (v := iz 0) hx hb dX6_compare_30 (by decide) ?_
            refine lv_goto (tgt := 40) hx hb dX6_compare_31 (by decide) ?_
            have hk24 : mWk _ _ (va_up I 0 1) F ∧ _ := mWk.thr hI (v := 1) (by omega)
            have hI24 : mIv (va_up I 0 1) F := hI.go hk24.1
            have hw24 : mWk _ _ (va_up I 0 1) F := hW0.tr hk24.1
            have e1624 : (va_up I 0 1) 16 = _ := hk24.2.1
            have e1924 : (va_up I 0 1) 19 = _ := hk24.2.2
            have e124 : (va_up I 0 1) 1 = _ := hk24.1.2.1.1 1 (by decide)
            have hkb25 : mKb (va_up I 0 1) F := hKb.ui 0 (by decide) _
            exact mk_ireti hx hb hr hlocks hP hD hK hS dX6_compare_40 (⟨hw24, hkb25, Or.inl ⟨rfl, by omega⟩⟩)
      · skip
        refine ki_if_eq (tgt := 21) hx hb dX6_compare_14 (by decide) (by omega) (by omega) (fun c_26 => ?_) (fun c_26 => ?_)
        · skip
          refine lv_iconst (v := iz 0) hx hb dX6_compare_21 (by decide) ?_
          refine lv_iconst (v := iz 0) hx hb dX6_compare_22 (by decide) ?_
          refine lv_iconst (v := iz 0) hx hb dX6_compare_23 (by decide) ?_
          refine mk_calli (As := [.int (iz 0), .int (iz 0), .int (iz 0)]) (rest := []) ⟨hx, hb, hml, hown, hts⟩ (k_refused0 l dC dI mo ma cs I F  H.size ) (cwV 3 hts (kx_gV kq_04_msmall_8 kq_04_msmall_9 kq_04_msmall_10 kq_04_msmall_6 kq_04_msmall_11 rfl) rfl rfl rfl (by decide +kernel) ⟨Nat.le_of_ble_eq_true rfl, Nat.le_of_ble_eq_true rfl⟩) hP hD hK hG hZ hS hA rfl hl.1 rfl (Nat.le_of_ble_eq_true rfl) dX6_compare_24 ⟨Nat.le_of_ble_eq_true rfl, Nat.le_of_ble_eq_true rfl⟩ (fun z_27 I_29 F_30 H locs hq_28 hP hD hS => ?_)
          try dsimp only at hq_28
          obtain ⟨rfl, rfl, rfl⟩ := hq_28
          refine ki_if_eq (tgt := 34) hx hb dX6_compare_27 (by decide) (by omega) (by omega) (fun c_31 => ?_) (fun c_31 => ?_)
          · skip
            refine lv_aload_n hx hb dX6_compare_34 rfl (lv_at hl 0 rfl) ?_
            refine lv_iload_n hx hb dX6_compare_35 rfl (lv_at hl 1 rfl) ?_
            refine lv_iload_n hx hb dX6_compare_36 rfl (lv_at hl 2 rfl) ?_
            have hk32 : mWk _ _ (va_up I 0 0) F ∧ _ := mWk.thr hI (v := 0) (by omega)
            have hI32 : mIv (va_up I 0 0) F := hI.go hk32.1
            have hw32 : mWk _ _ (va_up I 0 0) F := hW0.tr hk32.1
            have e1632 : (va_up I 0 0) 16 = _ := hk32.2.1
            have e1932 : (va_up I 0 0) 19 = _ := hk32.2.2
            have e132 : (va_up I 0 0) 1 = _ := hk32.1.2.1.1 1 (by decide)
            have hkb33 : mKb (va_up I 0 0) F := hKb.ui 0 (by decide) _
            refine mk_calli (As := [.int (iz p0), .int (iz p1)]) (rest := []) ⟨hx, hb, hml, hown, hts⟩ (k_orderOf2 l dC dI mo ma cs (va_up I 0 0) F p0 p1 H.size hI32.hB (by omega) (by omega) hI32.hn (hkb33.1.2.1 p0 (by omega) (by omega)) (hkb33.1.2.1 p1 (by omega) (by omega)) hkb33.1.2.2.1 hkb33.1.2.2.2) (cwV 2 hts (kx_gV kq_06_mway_20 kq_06_mway_21 kq_06_mway_22 kq_04_msmall_6 kq_06_mway_23 rfl) rfl rfl rfl (by decide +kernel) ⟨Nat.le_of_ble_eq_true rfl, Nat.le_of_ble_eq_true rfl⟩) hP hD hK hG hZ hS hA rfl hl.1 rfl (Nat.le_of_ble_eq_true rfl) dX6_compare_37 ⟨Nat.le_of_ble_eq_true rfl, Nat.le_of_ble_eq_true rfl⟩ (fun z_34 I_36 F_37 H locs hq_35 hP hD hS => ?_)
            try dsimp only at hq_35
            have hoc := hq_35.2.2.2.2
            have hi0 := congrFun hq_35.1 0
            have hq_35 := (⟨hq_35.1, hq_35.2.1, hq_35.2.2.1, hq_35.2.2.2.1⟩ : _ ∧ _ ∧ _ ∧ _)
            have hkb38 : mKb I_36 F_37 := (by have h9 := hq_35.2.2.1; rw [← hq_35.1]; exact hkb33.fr h9 (by decide) (by decide))
            have hk39 : mWk (va_up I 0 0) F I_36 F_37 ∧ _ := mWk.scr hI32 hq_35.1 hq_35.2.1 hq_35.2.2.1
            have hI39 : mIv I_36 F_37 := hI32.go hk39.1
            have hw39 : mWk _ _ I_36 F_37 := hw32.tr hk39.1
            have e1639 := hk39.2.1
            have e1939 := hk39.2.2
            have hc39 := hI39.hc
            have hx39a := hk39.1.2.1.1 1 (by decide)
            have hrg_40 := hq_35.2.2.2
            exact mk_ireti hx hb hr hlocks hP hD hK hS dX6_compare_40 (⟨hw39, hkb38, Or.inr ⟨hi0.symm, by omega, hoc⟩⟩)
          · omega
        · omega
set_option maxHeartbeats 4000000 in
set_option maxRecDepth 100000 in
theorem k_told2 (l : Launch) (dC : Nat → ClassId) (dI : Nat → Nat → Nat) (mo : Nat) (ma : Nat → Nat) (cs : Nat → ClassId) (I : Nat → Int) (F : Nat → Int → Int) (p0 : Int) (p1 : Int) (sz : Nat) (hI : mIv I F) (hp01 : -2147483648 ≤ p0) (hp02 : p0 < 2147483648) (hp11 : -2147483648 ≤ p1) (hp12 : p1 < 2147483648) (hKb : mKb I F) : mMi l yX6_told (.code yX6_told cX6_told 10 (some .int)) 5 120 dC dI mo ma cs I F [.ref mo, .int (iz p0), .int (iz p1)] sz (fun (r : Int) (I' : Nat → Int) (F' : Nat → Int → Int) => mWk I F I' F' ∧ mKb I' F') := by
  refine Met.ofW (cc := cX6_told) (maxL := 10) (ret := (some .int)) (by decide) rfl ?_
  intro p e s m args below meth c s₁ B hml hv
  obtain ⟨rfl, hsz, hP, hK, hD0, hG, hZ⟩ := hv
  have hx := B.exec
  have hb := B.bytes
  have hr := B.returns
  have hts := kx_hts (a := ([.ref mo, .int (iz p0), .int (iz p1)] : List Value).toArray) hG
  have hown : s.vm.findClass RX6 = some m.cls := findClass_of_methodNamed B.named
  have hlocks := B.notSynchronized
  subst hsz
  have hD := hD0.self (sz := s.heap.size)
  generalize hAe : va_A (mW mo ma cs I F) s.heap.size = A at hD hZ ⊢
  have hA : ∀ q : Nat, s.heap.size ≤ q → A q := fun q h => by rw [← hAe]; exact Or.inr h
  have hS : va_S A s.heap s.heap [] := va_S.rf
  have hl := lv_entry ([.ref mo, .int (iz p0), .int (iz p1)]) (n := 10) (Nat.le_of_ble_eq_true rfl)
  rw [lg_entry_eq]
  generalize (lg_sl ([.ref mo, .int (iz p0), .int (iz p1)]) ++ List.replicate (10 - (lg_sl ([.ref mo, .int (iz p0), .int (iz p1)])).length) Slot.unset).toArray = ls at hl ⊢
  have hl : lv_has ls 10 [(0, .ref mo), (1, .int (iz p0)), (2, .int (iz p1))] := hl
  generalize hQe : MQ below (mQi dC dI mo ma cs A (fun (r : Int) (I' : Nat → Int) (F' : Nat → Int → Int) => mWk I F I' F' ∧ mKb I' F')) ([.ref mo, .int (iz p0), .int (iz p1)] : List Value).toArray s 0 0 A = QQ
  have hW0 : mWk I F I F := mWk.rf hI
  have hc0 := hI.hc
  refine lv_aload_n hx hb dX6_told_0 rfl (lv_at hl 0 rfl) ?_
  refine mk_callv (As := []) (rest := []) ⟨hx, hb, hml, hown, hts⟩ (k_look2 l dC dI mo ma cs I F  s.heap.size hI.hB hI.hc hI.hn hI.hlv hI.hkn hI.hk01 hKb.2 hKb.1.1 hKb.1.2.1 hKb.1.2.2.1 hKb.1.2.2.2) (cwV 0 hts (kx_gV kq_11_mask_0 kq_11_mask_1 kq_11_mask_2 kq_04_msmall_6 kq_11_mask_3 rfl) rfl rfl rfl (by decide +kernel) ⟨Nat.le_of_ble_eq_true rfl, Nat.le_of_ble_eq_true rfl⟩) hP hD hK hG hZ hS hA rfl hl.1 rfl (Nat.le_of_ble_eq_true rfl) dX6_told_1 ⟨Nat.le_of_ble_eq_true rfl, Nat.le_of_ble_eq_true rfl⟩ (fun I_3 F_4 H locs hq_2 hP hD hS => ?_)
  try dsimp only at hq_2
  obtain ⟨hq_2, hkr5⟩ := hq_2
  have hkb5 : mKb I_3 F_4 := hKb.look hq_2.2.1 (by decide) hkr5
  have hk6 : mWk I F I_3 F_4 := mWk.look hI hq_2
  have hI6 : mIv I_3 F_4 := hI.go hk6
  have hw6 : mWk _ _ I_3 F_4 := hW0.tr hk6
  have e166 : I_3 16 = 1 := hq_2.2.2.1
  have hc6 := hI6.hc
  obtain ⟨hsmL, hszL, hrwL⟩ := hI6.hkn (by omega)
  refine lv_iconst (v := iz 0) hx hb dX6_told_4 (by decide) ?_
  refine lv_istore_n (lv' := [(3, .int (iz 0)), (0, .ref mo), (1, .int (iz p0)), (2, .int (iz p1))]) hx hb dX6_told_5 rfl hl (by decide) rfl (fun ls hl => ?_)
  refine lv_iconst (v := iz 0) hx hb dX6_told_6 (by decide) ?_
  refine lv_istore (lv' := [(4, .int (iz 0)), (3, .int (iz 0)), (0, .ref mo), (1, .int (iz p0)), (2, .int (iz p1))]) hx hb dX6_told_7 hl (by decide) rfl (fun ls hl => ?_)
  refine lv_iconst (v := iz 0) hx hb dX6_told_9 (by decide) ?_
  refine lv_istore (lv' := [(5, .int (iz 0)), (4, .int (iz 0)), (3, .int (iz 0)), (0, .ref mo), (1, .int (iz p0)), (2, .int (iz p1))]) hx hb dX6_told_10 hl (by decide) rfl (fun ls hl => ?_)
  refine lv_iconst (v := iz 0) hx hb dX6_told_12 (by decide) ?_
  refine lv_istore (lv' := [(6, .int (iz 0)), (5, .int (iz 0)), (4, .int (iz 0)), (3, .int (iz 0)), (0, .ref mo), (1, .int (iz p0)), (2, .int (iz p1))]) hx hb dX6_told_13 hl (by decide) rfl (fun ls hl => ?_)
  refine lv_iconst (v := iz 0) hx hb dX6_told_15 (by decide) ?_
  refine lv_istore (lv' := [(7, .int (iz 0)), (6, .int (iz 0)), (5, .int (iz 0)), (4, .int (iz 0)), (3, .int (iz 0)), (0, .ref mo), (1, .int (iz p0)), (2, .int (iz p1))]) hx hb dX6_told_16 hl (by decide) rfl (fun ls hl => ?_)
  have lp18 : ∀ (n : Nat) (nv kd av mv ev : Int), ((0 ≤ nv ∧ nv ≤ 7 * ev) ∧ (0 ≤ kd ∧ kd ≤ 3) ∧ (-2147483648 ≤ av ∧ av < 2147483648) ∧ (-2147483648 ≤ mv ∧ mv < 2147483648) ∧ (0 ≤ ev ∧ ev ≤ 64)) → (I_3 1 - ev).toNat < n → ∀ (H : Heap) (locs : List Loc), va_P (dC, dI) kxCl (mW mo ma cs I_3 F_4) H → va_D A (mW mo ma cs I_3 F_4) → va_S A s.heap H locs → ∀ ls : Array Slot, lv_has ls 10 [(7, .int (iz ev)), (6, .int (iz mv)), (5, .int (iz av)), (4, .int (iz kd)), (3, .int (iz nv)), (0, .ref mo), (1, .int (iz p0)), (2, .int (iz p1))] → W p l e (headSpec [.code yX6_told cX6_told 10 (some .int)] ({ frames := 5, cells := 0, slots := 0, locals := 120 })).room s m ([.ref mo, .int (iz p0), .int (iz p1)] : List Value).toArray below meth c H locs 0 0 QQ (F0 m 18 ls []) := by
    intro n
    induction n with
    | zero => intro nv kd av mv ev hinv hm; exact absurd hm (Nat.not_lt_zero _)
    | succ n ih18 =>
      intro nv kd av mv ev hinv hm H locs hP hD hS ls hl
      obtain ⟨hnv, hkd, hav, hmv, hev⟩ := hinv
      refine lv_iload hx hb dX6_told_18 (lv_at hl 0 rfl) ?_
      refine lv_aload_n hx hb dX6_told_20 rfl (lv_at hl 5 rfl) ?_
      refine va_get (D := (dC, dI)) (ci := 6) (v := .int (iz (I_3 1))) (C := RX6) (T := TX6) (N := 44) hx hb hts kt_X6 hown hK hP 0 rfl rfl 1 (by decide) (kx_word hG kq_04_msmall_1 rfl) (fun _ h9 => h9) rfl dX6_told_21 ?_
      have hbd_7 := hI6.hB.1 1
      refine ki_icmp_ge (tgt := 224) hx hb dX6_told_24 (by decide) (by omega) (by omega) (by omega) (by omega) (fun c_8 => ?_) (fun c_8 => ?_)
      · skip
        refine lv_aload_n hx hb dX6_told_224 rfl (lv_at hl 5 rfl) ?_
        refine lv_iload_n hx hb dX6_told_225 rfl (lv_at hl 6 rfl) ?_
        refine lv_iconst (v := iz (-1)) hx hb dX6_told_226 (by decide) ?_
        refine ki_icmp_eq (tgt := 248) hx hb dX6_told_227 (by decide) (by omega) (by omega) (by omega) (by omega) (fun c_9 => ?_) (fun c_9 => ?_)
        · skip
          refine lv_iconst (v := iz 0) hx hb dX6_told_248 (by decide) ?_
          refine lv_iconst (v := iz 0) hx hb dX6_told_249 (by decide) ?_
          refine lv_iconst (v := iz 0) hx hb dX6_told_250 (by decide) ?_
          refine mk_calli (As := [.int (iz 0), .int (iz 0), .int (iz 0)]) (rest := []) ⟨hx, hb, hml, hown, hts⟩ (k_refused0 l dC dI mo ma cs I_3 F_4  H.size ) (cwV 3 hts (kx_gV kq_04_msmall_8 kq_04_msmall_9 kq_04_msmall_10 kq_04_msmall_6 kq_04_msmall_11 rfl) rfl rfl rfl (by decide +kernel) ⟨Nat.le_of_ble_eq_true rfl, Nat.le_of_ble_eq_true rfl⟩) hP hD hK hG hZ hS hA rfl hl.1 rfl (Nat.le_of_ble_eq_true rfl) dX6_told_251 ⟨Nat.le_of_ble_eq_true rfl, Nat.le_of_ble_eq_true rfl⟩ (fun z_10 I_12 F_13 H locs hq_11 hP hD hS => ?_)
          try dsimp only at hq_11
          obtain ⟨rfl, rfl, rfl⟩ := hq_11
          refine ki_if_eq (tgt := 259) hx hb dX6_told_254 (by decide) (by omega) (by omega) (fun c_14 => ?_) (fun c_14 => ?_)
          · skip
            refine lv_iload_n hx hb dX6_told_259 rfl (lv_at hl 6 rfl) ?_
            refine lv_iconst (v := iz (-1)) hx hb dX6_told_260 (by decide) ?_
            refine ki_icmp_ne (tgt := 268) hx hb dX6_told_261 (by decide) (by omega) (by omega) (by omega) (by omega) (fun c_15 => ?_) (fun c_15 => ?_)
            · omega
            · skip
              refine lv_iload_n hx hb dX6_told_264 rfl (lv_at hl 4 rfl) ?_
              refine lv_goto (tgt := 289) hx hb dX6_told_265 (by decide) ?_
              have hk16 : mWk _ _ (va_up I_3 0 0) F_4 ∧ _ := mWk.thr hI6 (v := 0) (by omega)
              have hI16 : mIv (va_up I_3 0 0) F_4 := hI6.go hk16.1
              have hw16 : mWk _ _ (va_up I_3 0 0) F_4 := hw6.tr hk16.1
              have e1616 : (va_up I_3 0 0) 16 = _ := hk16.2.1
              have e1916 : (va_up I_3 0 0) 19 = _ := hk16.2.2
              have e116 : (va_up I_3 0 0) 1 = _ := hk16.1.2.1.1 1 (by decide)
              have hkb17 : mKb (va_up I_3 0 0) F_4 := hkb5.ui 0 (by decide) _
              rw [← hQe]
              exact mk_ireti hx hb hr hlocks hP hD hK hS dX6_told_289 (⟨hw16, hkb17⟩)
          · omega
        · skip
          refine lv_iload hx hb dX6_told_230 (lv_at hl 3 rfl) ?_
          refine ki_if_eq (tgt := 244) hx hb dX6_told_232 (by decide) (by omega) (by omega) (fun c_18 => ?_) (fun c_18 => ?_)
          · skip
            refine lv_iconst (v := iz 1) hx hb dX6_told_244 (by decide) ?_
            refine lv_goto (tgt := 249) hx hb dX6_told_245 (by decide) ?_
            refine lv_iconst (v := iz 0) hx hb dX6_told_249 (by decide) ?_
            refine lv_iconst (v := iz 0) hx hb dX6_told_250 (by decide) ?_
            refine mk_calli (As := [.int (iz 1), .int (iz 0), .int (iz 0)]) (rest := []) ⟨hx, hb, hml, hown, hts⟩ (k_refused1 l dC dI mo ma cs I_3 F_4 0 0 H.size (by omega) (by omega) (by omega) (by omega)) (cwV 3 hts (kx_gV kq_04_msmall_8 kq_04_msmall_9 kq_04_msmall_10 kq_04_msmall_6 kq_04_msmall_11 rfl) rfl rfl rfl (by decide +kernel) ⟨Nat.le_of_ble_eq_true rfl, Nat.le_of_ble_eq_true rfl⟩) hP hD hK hG hZ hS hA rfl hl.1 rfl (Nat.le_of_ble_eq_true rfl) dX6_told_251 ⟨Nat.le_of_ble_eq_true rfl, Nat.le_of_ble_eq_true rfl⟩ (fun z_19 I_21 F_22 H locs hq_20 hP hD hS => ?_)
            try dsimp only at hq_20
            obtain ⟨rfl, rfl, rfl⟩ := hq_20
            refine ki_if_eq (tgt := 259) hx hb dX6_told_254 (by decide) (by omega) (by omega) (fun c_23 => ?_) (fun c_23 => ?_)
            · omega
            · skip
              refine lv_iconst (v := iz 0) hx hb dX6_told_257 (by decide) ?_
              have hk24 : mWk _ _ (va_up I_3 0 1) F_4 ∧ _ := mWk.thr hI6 (v := 1) (by omega)
              have hI24 : mIv (va_up I_3 0 1) F_4 := hI6.go hk24.1
              have hw24 : mWk _ _ (va_up I_3 0 1) F_4 := hw6.tr hk24.1
              have e1624 : (va_up I_3 0 1) 16 = _ := hk24.2.1
              have e1924 : (va_up I_3 0 1) 19 = _ := hk24.2.2
              have e124 : (va_up I_3 0 1) 1 = _ := hk24.1.2.1.1 1 (by decide)
              have hkb25 : mKb (va_up I_3 0 1) F_4 := hkb5.ui 0 (by decide) _
              rw [← hQe]
              exact mk_ireti hx hb hr hlocks hP hD hK hS dX6_told_258 (⟨hw24, hkb25⟩)
          · skip
            refine lv_iload_n hx hb dX6_told_235 rfl (lv_at hl 7 rfl) ?_
            refine ki_if_lt (tgt := 244) hx hb dX6_told_236 (by decide) (by omega) (by omega) (fun c_26 => ?_) (fun c_26 => ?_)
            · skip
              refine lv_iconst (v := iz 1) hx hb dX6_told_244 (by decide) ?_
              refine lv_goto (tgt := 249) hx hb dX6_told_245 (by decide) ?_
              refine lv_iconst (v := iz 0) hx hb dX6_told_249 (by decide) ?_
              refine lv_iconst (v := iz 0) hx hb dX6_told_250 (by decide) ?_
              refine mk_calli (As := [.int (iz 1), .int (iz 0), .int (iz 0)]) (rest := []) ⟨hx, hb, hml, hown, hts⟩ (k_refused1 l dC dI mo ma cs I_3 F_4 0 0 H.size (by omega) (by omega) (by omega) (by omega)) (cwV 3 hts (kx_gV kq_04_msmall_8 kq_04_msmall_9 kq_04_msmall_10 kq_04_msmall_6 kq_04_msmall_11 rfl) rfl rfl rfl (by decide +kernel) ⟨Nat.le_of_ble_eq_true rfl, Nat.le_of_ble_eq_true rfl⟩) hP hD hK hG hZ hS hA rfl hl.1 rfl (Nat.le_of_ble_eq_true rfl) dX6_told_251 ⟨Nat.le_of_ble_eq_true rfl, Nat.le_of_ble_eq_true rfl⟩ (fun z_27 I_29 F_30 H locs hq_28 hP hD hS => ?_)
              try dsimp only at hq_28
              obtain ⟨rfl, rfl, rfl⟩ := hq_28
              refine ki_if_eq (tgt := 259) hx hb dX6_told_254 (by decide) (by omega) (by omega) (fun c_31 => ?_) (fun c_31 => ?_)
              · omega
              · skip
                refine lv_iconst (v := iz 0) hx hb dX6_told_257 (by decide) ?_
                have hk32 : mWk _ _ (va_up I_3 0 1) F_4 ∧ _ := mWk.thr hI6 (v := 1) (by omega)
                have hI32 : mIv (va_up I_3 0 1) F_4 := hI6.go hk32.1
                have hw32 : mWk _ _ (va_up I_3 0 1) F_4 := hw6.tr hk32.1
                have e1632 : (va_up I_3 0 1) 16 = _ := hk32.2.1
                have e1932 : (va_up I_3 0 1) 19 = _ := hk32.2.2
                have e132 : (va_up I_3 0 1) 1 = _ := hk32.1.2.1.1 1 (by decide)
                have hkb33 : mKb (va_up I_3 0 1) F_4 := hkb5.ui 0 (by decide) _
                rw [← hQe]
                exact mk_ireti hx hb hr hlocks hP hD hK hS dX6_told_258 (⟨hw32, hkb33⟩)
            · skip
              refine lv_iload_n hx hb dX6_told_239 rfl (lv_at hl 7 rfl) ?_
              refine lv_iconst (v := iz 2) hx hb dX6_told_240 (by decide) ?_
              refine ki_icmp_le (tgt := 248) hx hb dX6_told_241 (by decide) (by omega) (by omega) (by omega) (by omega) (fun c_34 => ?_) (fun c_34 => ?_)
              · skip
                refine lv_iconst (v := iz 0) hx hb dX6_told_248 (by decide) ?_
                refine lv_iconst (v := iz 0) hx hb dX6_told_249 (by decide) ?_
                refine lv_iconst (v := iz 0) hx hb dX6_told_250 (by decide) ?_
                refine mk_calli (As := [.int (iz 0), .int (iz 0), .int (iz 0)]) (rest := []) ⟨hx, hb, hml, hown, hts⟩ (k_refused0 l dC dI mo ma cs I_3 F_4  H.size ) (cwV 3 hts (kx_gV kq_04_msmall_8 kq_04_msmall_9 kq_04_msmall_10 kq_04_msmall_6 kq_04_msmall_11 rfl) rfl rfl rfl (by decide +kernel) ⟨Nat.le_of_ble_eq_true rfl, Nat.le_of_ble_eq_true rfl⟩) hP hD hK hG hZ hS hA rfl hl.1 rfl (Nat.le_of_ble_eq_true rfl) dX6_told_251 ⟨Nat.le_of_ble_eq_true rfl, Nat.le_of_ble_eq_true rfl⟩ (fun z_35 I_37 F_38 H locs hq_36 hP hD hS => ?_)
                try dsimp only at hq_36
                obtain ⟨rfl, rfl, rfl⟩ := hq_36
                refine ki_if_eq (tgt := 259) hx hb dX6_told_254 (by decide) (by omega) (by omega) (fun c_39 => ?_) (fun c_39 => ?_)
                · skip
                  refine lv_iload_n hx hb dX6_told_259 rfl (lv_at hl 6 rfl) ?_
                  refine lv_iconst (v := iz (-1)) hx hb dX6_told_260 (by decide) ?_
                  refine ki_icmp_ne (tgt := 268) hx hb dX6_told_261 (by decide) (by omega) (by omega) (by omega) (by omega) (fun c_40 => ?_) (fun c_40 => ?_)
                  · skip
                    refine lv_iload_n hx hb dX6_told_268 rfl (lv_at hl 7 rfl) ?_
                    refine ki_if_ne (tgt := 277) hx hb dX6_told_269 (by decide) (by omega) (by omega) (fun c_41 => ?_) (fun c_41 => ?_)
                    · skip
                      refine lv_iload_n hx hb dX6_told_277 rfl (lv_at hl 7 rfl) ?_
                      refine lv_iconst (v := iz 1) hx hb dX6_told_278 (by decide) ?_
                      refine ki_icmp_ne (tgt := 287) hx hb dX6_told_279 (by decide) (by omega) (by omega) (by omega) (by omega) (fun c_42 => ?_) (fun c_42 => ?_)
                      · skip
                        refine lv_iload hx hb dX6_told_287 (lv_at hl 1 rfl) ?_
                        have hk43 : mWk _ _ (va_up I_3 0 0) F_4 ∧ _ := mWk.thr hI6 (v := 0) (by omega)
                        have hI43 : mIv (va_up I_3 0 0) F_4 := hI6.go hk43.1
                        have hw43 : mWk _ _ (va_up I_3 0 0) F_4 := hw6.tr hk43.1
                        have e1643 : (va_up I_3 0 0) 16 = _ := hk43.2.1
                        have e1943 : (va_up I_3 0 0) 19 = _ := hk43.2.2
                        have e143 : (va_up I_3 0 0) 1 = _ := hk43.1.2.1.1 1 (by decide)
                        have hkb44 : mKb (va_up I_3 0 0) F_4 := hkb5.ui 0 (by decide) _
                        rw [← hQe]
                        exact mk_ireti hx hb hr hlocks hP hD hK hS dX6_told_289 (⟨hw43, hkb44⟩)
                      · skip
                        refine lv_iload hx hb dX6_told_282 (lv_at hl 2 rfl) ?_
                        refine lv_goto (tgt := 289) hx hb dX6_told_284 (by decide) ?_
                        have hk45 : mWk _ _ (va_up I_3 0 0) F_4 ∧ _ := mWk.thr hI6 (v := 0) (by omega)
                        have hI45 : mIv (va_up I_3 0 0) F_4 := hI6.go hk45.1
                        have hw45 : mWk _ _ (va_up I_3 0 0) F_4 := hw6.tr hk45.1
                        have e1645 : (va_up I_3 0 0) 16 = _ := hk45.2.1
                        have e1945 : (va_up I_3 0 0) 19 = _ := hk45.2.2
                        have e145 : (va_up I_3 0 0) 1 = _ := hk45.1.2.1.1 1 (by decide)
                        have hkb46 : mKb (va_up I_3 0 0) F_4 := hkb5.ui 0 (by decide) _
                        rw [← hQe]
                        exact mk_ireti hx hb hr hlocks hP hD hK hS dX6_told_289 (⟨hw45, hkb46⟩)
                    · skip
                      refine lv_iload hx hb dX6_told_272 (lv_at hl 3 rfl) ?_
                      refine lv_goto (tgt := 289) hx hb dX6_told_274 (by decide) ?_
                      have hk47 : mWk _ _ (va_up I_3 0 0) F_4 ∧ _ := mWk.thr hI6 (v := 0) (by omega)
                      have hI47 : mIv (va_up I_3 0 0) F_4 := hI6.go hk47.1
                      have hw47 : mWk _ _ (va_up I_3 0 0) F_4 := hw6.tr hk47.1
                      have e1647 : (va_up I_3 0 0) 16 = _ := hk47.2.1
                      have e1947 : (va_up I_3 0 0) 19 = _ := hk47.2.2
                      have e147 : (va_up I_3 0 0) 1 = _ := hk47.1.2.1.1 1 (by decide)
                      have hkb48 : mKb (va_up I_3 0 0) F_4 := hkb5.ui 0 (by decide) _
                      rw [← hQe]
                      exact mk_ireti hx hb hr hlocks hP hD hK hS dX6_told_289 (⟨hw47, hkb48⟩)
                  · omega
                · omega
              · skip
                refine lv_iconst (v := iz 1) hx hb dX6_told_244 (by decide) ?_
                refine lv_goto (tgt := 249) hx hb dX6_told_245 (by decide) ?_
                refine lv_iconst (v := iz 0) hx hb dX6_told_249 (by decide) ?_
                refine lv_iconst (v := iz 0) hx hb dX6_told_250 (by decide) ?_
                refine mk_calli (As := [.int (iz 1), .int (iz 0), .int (iz 0)]) (rest := []) ⟨hx, hb, hml, hown, hts⟩ (k_refused1 l dC dI mo ma cs I_3 F_4 0 0 H.size (by omega) (by omega) (by omega) (by omega)) (cwV 3 hts (kx_gV kq_04_msmall_8 kq_04_msmall_9 kq_04_msmall_10 kq_04_msmall_6 kq_04_msmall_11 rfl) rfl rfl rfl (by decide +kernel) ⟨Nat.le_of_ble_eq_true rfl, Nat.le_of_ble_eq_true rfl⟩) hP hD hK hG hZ hS hA rfl hl.1 rfl (Nat.le_of_ble_eq_true rfl) dX6_told_251 ⟨Nat.le_of_ble_eq_true rfl, Nat.le_of_ble_eq_true rfl⟩ (fun z_49 I_51 F_52 H locs hq_50 hP hD hS => ?_)
                try dsimp only at hq_50
                obtain ⟨rfl, rfl, rfl⟩ := hq_50
                refine ki_if_eq (tgt := 259) hx hb dX6_told_254 (by decide) (by omega) (by omega) (fun c_53 => ?_) (fun c_53 => ?_)
                · omega
                · skip
                  refine lv_iconst (v := iz 0) hx hb dX6_told_257 (by decide) ?_
                  have hk54 : mWk _ _ (va_up I_3 0 1) F_4 ∧ _ := mWk.thr hI6 (v := 1) (by omega)
                  have hI54 : mIv (va_up I_3 0 1) F_4 := hI6.go hk54.1
                  have hw54 : mWk _ _ (va_up I_3 0 1) F_4 := hw6.tr hk54.1
                  have e1654 : (va_up I_3 0 1) 16 = _ := hk54.2.1
                  have e1954 : (va_up I_3 0 1) 19 = _ := hk54.2.2
                  have e154 : (va_up I_3 0 1) 1 = _ := hk54.1.2.1.1 1 (by decide)
                  have hkb55 : mKb (va_up I_3 0 1) F_4 := hkb5.ui 0 (by decide) _
                  rw [← hQe]
                  exact mk_ireti hx hb hr hlocks hP hD hK hS dX6_told_258 (⟨hw54, hkb55⟩)
      · skip
        have hmy9 := hI6.hmy ev
        refine lv_aload_n hx hb dX6_told_27 rfl (lv_at hl 5 rfl) ?_
        refine va_get (D := (dC, dI)) (ci := 6) (v := .ref (ma 11)) (C := RX6) (T := TX6) (N := 44) hx hb hts kt_X6 hown hK hP 0 rfl rfl 11 (by decide) (kx_word hG kq_04_msmall_21 rfl) (fun _ h9 => h9) rfl dX6_told_28 ?_
        refine lv_iload hx hb dX6_told_31 (lv_at hl 0 rfl) ?_
        refine ki_iald (F := F_4 11) hx hb hK hP 10 9 rfl rfl (by omega) (by omega) (by decide) dX6_told_33 ?_
        have hbd_56 := hI6.hB.2 11 ev
        refine ki_if_le (tgt := 86) hx hb dX6_told_34 (by decide) (by omega) (by omega) (fun c_57 => ?_) (fun c_57 => ?_)
        · skip
          refine lv_iconst (v := iz 0) hx hb dX6_told_86 (by decide) ?_
          refine lv_istore (lv' := [(8, .int (iz 0)), (7, .int (iz ev)), (6, .int (iz mv)), (5, .int (iz av)), (4, .int (iz kd)), (3, .int (iz nv)), (0, .ref mo), (1, .int (iz p0)), (2, .int (iz p1))]) hx hb dX6_told_87 hl (by decide) rfl (fun ls hl => ?_)
          have lp89 : ∀ (n : Nat) (nw kw aw mw kv : Int), ((0 ≤ nw ∧ nw ≤ 7 * ev + 1 + kv) ∧ (0 ≤ kw ∧ kw ≤ 3) ∧ (-2147483648 ≤ aw ∧ aw < 2147483648) ∧ (-2147483648 ≤ mw ∧ mw < 2147483648) ∧ (0 ≤ kv ∧ kv ≤ 5)) → (F_4 13 ev - kv).toNat < n → ∀ (H : Heap) (locs : List Loc), va_P (dC, dI) kxCl (mW mo ma cs I_3 F_4) H → va_D A (mW mo ma cs I_3 F_4) → va_S A s.heap H locs → ∀ ls : Array Slot, lv_has ls 10 [(8, .int (iz kv)), (7, .int (iz ev)), (6, .int (iz mw)), (5, .int (iz aw)), (4, .int (iz kw)), (3, .int (iz nw)), (0, .ref mo), (1, .int (iz p0)), (2, .int (iz p1))] → W p l e (headSpec [.code yX6_told cX6_told 10 (some .int)] ({ frames := 5, cells := 0, slots := 0, locals := 120 })).room s m ([.ref mo, .int (iz p0), .int (iz p1)] : List Value).toArray below meth c H locs 0 0 QQ (F0 m 89 ls []) := by
            intro n
            induction n with
            | zero => intro nw kw aw mw kv hinv hm; exact absurd hm (Nat.not_lt_zero _)
            | succ n ih89 =>
              intro nw kw aw mw kv hinv hm H locs hP hD hS ls hl
              obtain ⟨hnw, hkw, haw, hmw, hkv⟩ := hinv
              refine lv_iload hx hb dX6_told_89 (lv_at hl 0 rfl) ?_
              refine lv_aload_n hx hb dX6_told_91 rfl (lv_at hl 6 rfl) ?_
              refine va_get (D := (dC, dI)) (ci := 6) (v := .ref (ma 13)) (C := RX6) (T := TX6) (N := 44) hx hb hts kt_X6 hown hK hP 0 rfl rfl 13 (by decide) (kx_word hG kq_04_msmall_38 rfl) (fun _ h9 => h9) rfl dX6_told_92 ?_
              refine lv_iload hx hb dX6_told_95 (lv_at hl 1 rfl) ?_
              refine ki_iald (F := F_4 13) hx hb hK hP 12 11 rfl rfl (by omega) (by omega) (by decide) dX6_told_97 ?_
              have hbd_58 := hI6.hB.2 13 ev
              refine ki_icmp_ge (tgt := 179) hx hb dX6_told_98 (by decide) (by omega) (by omega) (by omega) (by omega) (fun c_59 => ?_) (fun c_59 => ?_)
              · skip
                refine lv_aload_n hx hb dX6_told_179 rfl (lv_at hl 6 rfl) ?_
                refine lv_iload hx hb dX6_told_180 (lv_at hl 1 rfl) ?_
                refine mk_calli (As := [.int (iz ev)]) (rest := []) ⟨hx, hb, hml, hown, hts⟩ (k_isBare l dC dI mo ma cs I_3 F_4 ev H.size hI6.hB hI6.hc hI6.hln hI6.hlv (by omega)) (cwV 1 hts (kx_gV kq_11_mask_4 kq_11_mask_5 kq_11_mask_6 kq_04_msmall_6 kq_11_mask_7 rfl) rfl rfl rfl (by decide +kernel) ⟨Nat.le_of_ble_eq_true rfl, Nat.le_of_ble_eq_true rfl⟩) hP hD hK hG hZ hS hA rfl hl.1 rfl (Nat.le_of_ble_eq_true rfl) dX6_told_182 ⟨Nat.le_of_ble_eq_true rfl, Nat.le_of_ble_eq_true rfl⟩ (fun z_60 I_62 F_63 H locs hq_61 hP hD hS => ?_)
                try dsimp only at hq_61
                obtain ⟨rfl, rfl, hq_61⟩ := hq_61
                refine ki_if_eq (tgt := 218) hx hb dX6_told_185 (by decide) (by omega) (by omega) (fun c_64 => ?_) (fun c_64 => ?_)
                · skip
                  refine lv_iinc (v := iz (ev + 1)) (lv' := [(7, .int (iz (ev + 1))), (8, .int (iz kv)), (6, .int (iz mw)), (5, .int (iz aw)), (4, .int (iz kw)), (3, .int (iz nw)), (0, .ref mo), (1, .int (iz p0)), (2, .int (iz p1))]) hx hb dX6_told_218 hl (k := 1) rfl (iz_add ev 1) (by decide) rfl (fun ls hl => ?_)
                  refine lv_goto (tgt := 18) hx hb dX6_told_221 (by decide) ?_
                  exact ih18 nw kw aw mw (ev + 1) ⟨by omega, by omega, by omega, by omega, by omega⟩ (by omega) _ _ hP hD hS ls (lv_sub hl [0, 2, 3, 4, 5, 6, 7, 8] rfl)
                · skip
                  refine lv_iload_n hx hb dX6_told_188 rfl (lv_at hl 5 rfl) ?_
                  refine lv_iload_n hx hb dX6_told_189 rfl (lv_at hl 7 rfl) ?_
                  refine ki_icmp_ne (tgt := 197) hx hb dX6_told_190 (by decide) (by omega) (by omega) (by omega) (by omega) (fun c_65 => ?_) (fun c_65 => ?_)
                  · skip
                    refine lv_iload hx hb dX6_told_197 (lv_at hl 4 rfl) ?_
                    refine lv_istore (lv' := [(4, .int (iz kw)), (8, .int (iz kv)), (7, .int (iz ev)), (6, .int (iz mw)), (5, .int (iz aw)), (3, .int (iz nw)), (0, .ref mo), (1, .int (iz p0)), (2, .int (iz p1))]) hx hb dX6_told_199 hl (by decide) rfl (fun ls hl => ?_)
                    refine lv_iload_n hx hb dX6_told_201 rfl (lv_at hl 5 rfl) ?_
                    refine lv_iload_n hx hb dX6_told_202 rfl (lv_at hl 7 rfl) ?_
                    refine ki_icmp_ne (tgt := 211) hx hb dX6_told_203 (by decide) (by omega) (by omega) (by omega) (by omega) (fun c_66 => ?_) (fun c_66 => ?_)
                    · skip
                      refine lv_iload hx hb dX6_told_211 (lv_at hl 4 rfl) ?_
                      refine lv_istore (lv' := [(5, .int (iz aw)), (4, .int (iz kw)), (8, .int (iz kv)), (7, .int (iz ev)), (6, .int (iz mw)), (3, .int (iz nw)), (0, .ref mo), (1, .int (iz p0)), (2, .int (iz p1))]) hx hb dX6_told_213 hl (by decide) rfl (fun ls hl => ?_)
                      refine lv_iinc (v := iz (nw + 1)) (lv' := [(3, .int (iz (nw + 1))), (5, .int (iz aw)), (4, .int (iz kw)), (8, .int (iz kv)), (7, .int (iz ev)), (6, .int (iz mw)), (0, .ref mo), (1, .int (iz p0)), (2, .int (iz p1))]) hx hb dX6_told_215 hl (k := 5) rfl (iz_add nw 1) (by decide) rfl (fun ls hl => ?_)
                      refine lv_iinc (v := iz (ev + 1)) (lv' := [(7, .int (iz (ev + 1))), (3, .int (iz (nw + 1))), (5, .int (iz aw)), (4, .int (iz kw)), (8, .int (iz kv)), (6, .int (iz mw)), (0, .ref mo), (1, .int (iz p0)), (2, .int (iz p1))]) hx hb dX6_told_218 hl (k := 4) rfl (iz_add ev 1) (by decide) rfl (fun ls hl => ?_)
                      refine lv_goto (tgt := 18) hx hb dX6_told_221 (by decide) ?_
                      exact ih18 (nw + 1) kw aw mw (ev + 1) ⟨by omega, by omega, by omega, by omega, by omega⟩ (by omega) _ _ hP hD hS ls (lv_sub hl [0, 5, 2, 3, 1, 6, 7, 8] rfl)
                    · omega
                  · skip
                    refine lv_iconst (v := iz 3) hx hb dX6_told_193 (by decide) ?_
                    refine lv_goto (tgt := 199) hx hb dX6_told_194 (by decide) ?_
                    refine lv_istore (lv' := [(4, .int (iz 3)), (8, .int (iz kv)), (7, .int (iz ev)), (6, .int (iz mw)), (5, .int (iz aw)), (3, .int (iz nw)), (0, .ref mo), (1, .int (iz p0)), (2, .int (iz p1))]) hx hb dX6_told_199 hl (by decide) rfl (fun ls hl => ?_)
                    refine lv_iload_n hx hb dX6_told_201 rfl (lv_at hl 5 rfl) ?_
                    refine lv_iload_n hx hb dX6_told_202 rfl (lv_at hl 7 rfl) ?_
                    refine ki_icmp_ne (tgt := 211) hx hb dX6_told_203 (by decide) (by omega) (by omega) (by omega) (by omega) (fun c_67 => ?_) (fun c_67 => ?_)
                    · omega
                    · skip
                      refine lv_iload hx hb dX6_told_206 (lv_at hl 2 rfl) ?_
                      refine lv_goto (tgt := 213) hx hb dX6_told_208 (by decide) ?_
                      refine lv_istore (lv' := [(5, .int (iz ev)), (4, .int (iz 3)), (8, .int (iz kv)), (7, .int (iz ev)), (6, .int (iz mw)), (3, .int (iz nw)), (0, .ref mo), (1, .int (iz p0)), (2, .int (iz p1))]) hx hb dX6_told_213 hl (by decide) rfl (fun ls hl => ?_)
                      refine lv_iinc (v := iz (nw + 1)) (lv' := [(3, .int (iz (nw + 1))), (5, .int (iz ev)), (4, .int (iz 3)), (8, .int (iz kv)), (7, .int (iz ev)), (6, .int (iz mw)), (0, .ref mo), (1, .int (iz p0)), (2, .int (iz p1))]) hx hb dX6_told_215 hl (k := 5) rfl (iz_add nw 1) (by decide) rfl (fun ls hl => ?_)
                      refine lv_iinc (v := iz (ev + 1)) (lv' := [(7, .int (iz (ev + 1))), (3, .int (iz (nw + 1))), (5, .int (iz ev)), (4, .int (iz 3)), (8, .int (iz kv)), (6, .int (iz mw)), (0, .ref mo), (1, .int (iz p0)), (2, .int (iz p1))]) hx hb dX6_told_218 hl (k := 4) rfl (iz_add ev 1) (by decide) rfl (fun ls hl => ?_)
                      refine lv_goto (tgt := 18) hx hb dX6_told_221 (by decide) ?_
                      exact ih18 (nw + 1) 3 ev mw (ev + 1) ⟨by omega, by omega, by omega, by omega, by omega⟩ (by omega) _ _ hP hD hS ls (lv_sub hl [0, 5, 2, 3, 1, 6, 7, 8] rfl)
              · skip
                have hse9 := hI6.hse ev kv (by omega) (by omega) (by omega) (by omega)
                refine lv_aload_n hx hb dX6_told_101 rfl (lv_at hl 6 rfl) ?_
                refine va_get (D := (dC, dI)) (ci := 6) (v := .ref (ma 12)) (C := RX6) (T := TX6) (N := 44) hx hb hts kt_X6 hown hK hP 0 rfl rfl 12 (by decide) (kx_word hG kq_04_msmall_39 rfl) (fun _ h9 => h9) rfl dX6_told_102 ?_
                refine lv_iconst (v := iz 5) hx hb dX6_told_105 (by decide) ?_
                refine lv_iload hx hb dX6_told_106 (lv_at hl 1 rfl) ?_
                refine ki_imul hx hb dX6_told_108 ?_
                refine lv_iload hx hb dX6_told_109 (lv_at hl 0 rfl) ?_
                refine ki_iadd hx hb dX6_told_111 ?_
                refine ki_iald (F := F_4 12) hx hb hK hP 11 10 rfl rfl (by omega) (by omega) (by decide) dX6_told_112 ?_
                have hbd_68 := hI6.hB.2 12 ((5 * ev) + kv)
                refine lv_istore (lv' := [(9, .int (iz (F_4 12 ((5 * ev) + kv)))), (8, .int (iz kv)), (7, .int (iz ev)), (6, .int (iz mw)), (5, .int (iz aw)), (4, .int (iz kw)), (3, .int (iz nw)), (0, .ref mo), (1, .int (iz p0)), (2, .int (iz p1))]) hx hb dX6_told_113 hl (by decide) rfl (fun ls hl => ?_)
                refine lv_aload_n hx hb dX6_told_115 rfl (lv_at hl 7 rfl) ?_
                refine lv_aload_n hx hb dX6_told_116 rfl (lv_at hl 7 rfl) ?_
                refine va_get (D := (dC, dI)) (ci := 6) (v := .ref (ma 17)) (C := RX6) (T := TX6) (N := 44) hx hb hts kt_X6 hown hK hP 0 rfl rfl 17 (by decide) (kx_word hG kq_06_mway_15 rfl) (fun _ h9 => h9) rfl dX6_told_117 ?_
                have hsm9 := hsmL (F_4 12 ((5 * ev) + kv)) (by omega) (by omega)
                refine lv_iload hx hb dX6_told_120 (lv_at hl 0 rfl) ?_
                refine ki_iald (F := F_4 17) hx hb hK hP 13 12 rfl rfl (by omega) (by omega) (by decide) dX6_told_122 ?_
                have hbd_69 := hI6.hB.2 17 (F_4 12 ((5 * ev) + kv))
                refine mk_calli (As := [.int (iz (F_4 17 (F_4 12 ((5 * ev) + kv))))]) (rest := []) ⟨hx, hb, hml, hown, hts⟩ (k_hasPage l dC dI mo ma cs I_3 F_4 (F_4 17 (F_4 12 ((5 * ev) + kv))) H.size hI6.hB hI6.hc hI6.hln (by omega) (by omega)) (cwV 1 hts (kx_gV kq_08_mgather_9 kq_08_mgather_10 kq_08_mgather_11 kq_04_msmall_6 kq_08_mgather_12 rfl) rfl rfl rfl (by decide +kernel) ⟨Nat.le_of_ble_eq_true rfl, Nat.le_of_ble_eq_true rfl⟩) hP hD hK hG hZ hS hA rfl hl.1 rfl (Nat.le_of_ble_eq_true rfl) dX6_told_123 ⟨Nat.le_of_ble_eq_true rfl, Nat.le_of_ble_eq_true rfl⟩ (fun z_70 I_72 F_73 H locs hq_71 hP hD hS => ?_)
                try dsimp only at hq_71
                obtain ⟨rfl, rfl, hq_71⟩ := hq_71
                refine ki_if_ne (tgt := 173) hx hb dX6_told_126 (by decide) (by omega) (by omega) (fun c_74 => ?_) (fun c_74 => ?_)
                · skip
                  refine lv_iinc (v := iz (kv + 1)) (lv' := [(8, .int (iz (kv + 1))), (9, .int (iz (F_4 12 ((5 * ev) + kv)))), (7, .int (iz ev)), (6, .int (iz mw)), (5, .int (iz aw)), (4, .int (iz kw)), (3, .int (iz nw)), (0, .ref mo), (1, .int (iz p0)), (2, .int (iz p1))]) hx hb dX6_told_173 hl (k := 1) rfl (iz_add kv 1) (by decide) rfl (fun ls hl => ?_)
                  refine lv_goto (tgt := 89) hx hb dX6_told_176 (by decide) ?_
                  exact ih89 nw kw aw mw (kv + 1) ⟨by omega, by omega, by omega, by omega, by omega⟩ (by omega) _ _ hP hD hS ls (lv_sub hl [0, 2, 3, 4, 5, 6, 7, 8, 9] rfl)
                · skip
                  refine lv_iload_n hx hb dX6_told_129 rfl (lv_at hl 6 rfl) ?_
                  refine lv_iload_n hx hb dX6_told_130 rfl (lv_at hl 8 rfl) ?_
                  refine ki_icmp_ne (tgt := 138) hx hb dX6_told_131 (by decide) (by omega) (by omega) (by omega) (by omega) (fun c_75 => ?_) (fun c_75 => ?_)
                  · skip
                    refine lv_iload hx hb dX6_told_138 (lv_at hl 5 rfl) ?_
                    refine lv_istore (lv' := [(4, .int (iz kw)), (9, .int (iz (F_4 12 ((5 * ev) + kv)))), (8, .int (iz kv)), (7, .int (iz ev)), (6, .int (iz mw)), (5, .int (iz aw)), (3, .int (iz nw)), (0, .ref mo), (1, .int (iz p0)), (2, .int (iz p1))]) hx hb dX6_told_140 hl (by decide) rfl (fun ls hl => ?_)
                    refine lv_iload_n hx hb dX6_told_142 rfl (lv_at hl 6 rfl) ?_
                    refine lv_iload_n hx hb dX6_told_143 rfl (lv_at hl 8 rfl) ?_
                    refine ki_icmp_ne (tgt := 152) hx hb dX6_told_144 (by decide) (by omega) (by omega) (by omega) (by omega) (fun c_76 => ?_) (fun c_76 => ?_)
                    · skip
                      refine lv_iload hx hb dX6_told_152 (lv_at hl 5 rfl) ?_
                      refine lv_istore (lv' := [(5, .int (iz aw)), (4, .int (iz kw)), (9, .int (iz (F_4 12 ((5 * ev) + kv)))), (8, .int (iz kv)), (7, .int (iz ev)), (6, .int (iz mw)), (3, .int (iz nw)), (0, .ref mo), (1, .int (iz p0)), (2, .int (iz p1))]) hx hb dX6_told_154 hl (by decide) rfl (fun ls hl => ?_)
                      refine lv_iload_n hx hb dX6_told_156 rfl (lv_at hl 6 rfl) ?_
                      refine lv_iload_n hx hb dX6_told_157 rfl (lv_at hl 8 rfl) ?_
                      refine ki_icmp_ne (tgt := 166) hx hb dX6_told_158 (by decide) (by omega) (by omega) (by omega) (by omega) (fun c_77 => ?_) (fun c_77 => ?_)
                      · skip
                        refine lv_iload hx hb dX6_told_166 (lv_at hl 5 rfl) ?_
                        refine lv_istore (lv' := [(6, .int (iz mw)), (5, .int (iz aw)), (4, .int (iz kw)), (9, .int (iz (F_4 12 ((5 * ev) + kv)))), (8, .int (iz kv)), (7, .int (iz ev)), (3, .int (iz nw)), (0, .ref mo), (1, .int (iz p0)), (2, .int (iz p1))]) hx hb dX6_told_168 hl (by decide) rfl (fun ls hl => ?_)
                        refine lv_iinc (v := iz (nw + 1)) (lv' := [(3, .int (iz (nw + 1))), (6, .int (iz mw)), (5, .int (iz aw)), (4, .int (iz kw)), (9, .int (iz (F_4 12 ((5 * ev) + kv)))), (8, .int (iz kv)), (7, .int (iz ev)), (0, .ref mo), (1, .int (iz p0)), (2, .int (iz p1))]) hx hb dX6_told_170 hl (k := 6) rfl (iz_add nw 1) (by decide) rfl (fun ls hl => ?_)
                        refine lv_iinc (v := iz (kv + 1)) (lv' := [(8, .int (iz (kv + 1))), (3, .int (iz (nw + 1))), (6, .int (iz mw)), (5, .int (iz aw)), (4, .int (iz kw)), (9, .int (iz (F_4 12 ((5 * ev) + kv)))), (7, .int (iz ev)), (0, .ref mo), (1, .int (iz p0)), (2, .int (iz p1))]) hx hb dX6_told_173 hl (k := 5) rfl (iz_add kv 1) (by decide) rfl (fun ls hl => ?_)
                        refine lv_goto (tgt := 89) hx hb dX6_told_176 (by decide) ?_
                        exact ih89 (nw + 1) kw aw mw (kv + 1) ⟨by omega, by omega, by omega, by omega, by omega⟩ (by omega) _ _ hP hD hS ls (lv_sub hl [0, 6, 2, 3, 4, 1, 7, 8, 9] rfl)
                      · omega
                    · omega
                  · skip
                    refine lv_iconst (v := iz 2) hx hb dX6_told_134 (by decide) ?_
                    refine lv_goto (tgt := 140) hx hb dX6_told_135 (by decide) ?_
                    refine lv_istore (lv' := [(4, .int (iz 2)), (9, .int (iz (F_4 12 ((5 * ev) + kv)))), (8, .int (iz kv)), (7, .int (iz ev)), (6, .int (iz mw)), (5, .int (iz aw)), (3, .int (iz nw)), (0, .ref mo), (1, .int (iz p0)), (2, .int (iz p1))]) hx hb dX6_told_140 hl (by decide) rfl (fun ls hl => ?_)
                    refine lv_iload_n hx hb dX6_told_142 rfl (lv_at hl 6 rfl) ?_
                    refine lv_iload_n hx hb dX6_told_143 rfl (lv_at hl 8 rfl) ?_
                    refine ki_icmp_ne (tgt := 152) hx hb dX6_told_144 (by decide) (by omega) (by omega) (by omega) (by omega) (fun c_78 => ?_) (fun c_78 => ?_)
                    · omega
                    · skip
                      refine lv_iload hx hb dX6_told_147 (lv_at hl 3 rfl) ?_
                      refine lv_goto (tgt := 154) hx hb dX6_told_149 (by decide) ?_
                      refine lv_istore (lv' := [(5, .int (iz ev)), (4, .int (iz 2)), (9, .int (iz (F_4 12 ((5 * ev) + kv)))), (8, .int (iz kv)), (7, .int (iz ev)), (6, .int (iz mw)), (3, .int (iz nw)), (0, .ref mo), (1, .int (iz p0)), (2, .int (iz p1))]) hx hb dX6_told_154 hl (by decide) rfl (fun ls hl => ?_)
                      refine lv_iload_n hx hb dX6_told_156 rfl (lv_at hl 6 rfl) ?_
                      refine lv_iload_n hx hb dX6_told_157 rfl (lv_at hl 8 rfl) ?_
                      refine ki_icmp_ne (tgt := 166) hx hb dX6_told_158 (by decide) (by omega) (by omega) (by omega) (by omega) (fun c_79 => ?_) (fun c_79 => ?_)
                      · omega
                      · skip
                        refine lv_iload hx hb dX6_told_161 (lv_at hl 2 rfl) ?_
                        refine lv_goto (tgt := 168) hx hb dX6_told_163 (by decide) ?_
                        refine lv_istore (lv' := [(6, .int (iz (F_4 12 ((5 * ev) + kv)))), (5, .int (iz ev)), (4, .int (iz 2)), (9, .int (iz (F_4 12 ((5 * ev) + kv)))), (8, .int (iz kv)), (7, .int (iz ev)), (3, .int (iz nw)), (0, .ref mo), (1, .int (iz p0)), (2, .int (iz p1))]) hx hb dX6_told_168 hl (by decide) rfl (fun ls hl => ?_)
                        refine lv_iinc (v := iz (nw + 1)) (lv' := [(3, .int (iz (nw + 1))), (6, .int (iz (F_4 12 ((5 * ev) + kv)))), (5, .int (iz ev)), (4, .int (iz 2)), (9, .int (iz (F_4 12 ((5 * ev) + kv)))), (8, .int (iz kv)), (7, .int (iz ev)), (0, .ref mo), (1, .int (iz p0)), (2, .int (iz p1))]) hx hb dX6_told_170 hl (k := 6) rfl (iz_add nw 1) (by decide) rfl (fun ls hl => ?_)
                        refine lv_iinc (v := iz (kv + 1)) (lv' := [(8, .int (iz (kv + 1))), (3, .int (iz (nw + 1))), (6, .int (iz (F_4 12 ((5 * ev) + kv)))), (5, .int (iz ev)), (4, .int (iz 2)), (9, .int (iz (F_4 12 ((5 * ev) + kv)))), (7, .int (iz ev)), (0, .ref mo), (1, .int (iz p0)), (2, .int (iz p1))]) hx hb dX6_told_173 hl (k := 5) rfl (iz_add kv 1) (by decide) rfl (fun ls hl => ?_)
                        refine lv_goto (tgt := 89) hx hb dX6_told_176 (by decide) ?_
                        exact ih89 (nw + 1) 2 ev (F_4 12 ((5 * ev) + kv)) (kv + 1) ⟨by omega, by omega, by omega, by omega, by omega⟩ (by omega) _ _ hP hD hS ls (lv_sub hl [0, 6, 2, 3, 4, 1, 7, 8, 9] rfl)
          exact lp89 _ nv kd av mv 0 ⟨by omega, by omega, by omega, by omega, by omega⟩ (Nat.lt_succ_self _) _ _ hP hD hS ls (lv_sub hl [0, 1, 2, 3, 4, 5, 6, 7, 8] rfl)
        · skip
          refine lv_iload_n hx hb dX6_told_37 rfl (lv_at hl 4 rfl) ?_
          refine lv_iload_n hx hb dX6_told_38 rfl (lv_at hl 6 rfl) ?_
          refine ki_icmp_ne (tgt := 46) hx hb dX6_told_39 (by decide) (by omega) (by omega) (by omega) (by omega) (fun c_80 => ?_) (fun c_80 => ?_)
          · skip
            refine lv_iload hx hb dX6_told_46 (lv_at hl 3 rfl) ?_
            refine lv_istore (lv' := [(4, .int (iz kd)), (7, .int (iz ev)), (6, .int (iz mv)), (5, .int (iz av)), (3, .int (iz nv)), (0, .ref mo), (1, .int (iz p0)), (2, .int (iz p1))]) hx hb dX6_told_48 hl (by decide) rfl (fun ls hl => ?_)
            refine lv_iload_n hx hb dX6_told_50 rfl (lv_at hl 4 rfl) ?_
            refine lv_iload_n hx hb dX6_told_51 rfl (lv_at hl 6 rfl) ?_
            refine ki_icmp_ne (tgt := 60) hx hb dX6_told_52 (by decide) (by omega) (by omega) (by omega) (by omega) (fun c_81 => ?_) (fun c_81 => ?_)
            · skip
              refine lv_iload hx hb dX6_told_60 (lv_at hl 3 rfl) ?_
              refine lv_istore (lv' := [(5, .int (iz av)), (4, .int (iz kd)), (7, .int (iz ev)), (6, .int (iz mv)), (3, .int (iz nv)), (0, .ref mo), (1, .int (iz p0)), (2, .int (iz p1))]) hx hb dX6_told_62 hl (by decide) rfl (fun ls hl => ?_)
              refine lv_iload_n hx hb dX6_told_64 rfl (lv_at hl 4 rfl) ?_
              refine lv_iload_n hx hb dX6_told_65 rfl (lv_at hl 6 rfl) ?_
              refine ki_icmp_ne (tgt := 79) hx hb dX6_told_66 (by decide) (by omega) (by omega) (by omega) (by omega) (fun c_82 => ?_) (fun c_82 => ?_)
              · skip
                refine lv_iload hx hb dX6_told_79 (lv_at hl 3 rfl) ?_
                refine lv_istore (lv' := [(6, .int (iz mv)), (5, .int (iz av)), (4, .int (iz kd)), (7, .int (iz ev)), (3, .int (iz nv)), (0, .ref mo), (1, .int (iz p0)), (2, .int (iz p1))]) hx hb dX6_told_81 hl (by decide) rfl (fun ls hl => ?_)
                refine lv_iinc (v := iz (nv + 1)) (lv' := [(3, .int (iz (nv + 1))), (6, .int (iz mv)), (5, .int (iz av)), (4, .int (iz kd)), (7, .int (iz ev)), (0, .ref mo), (1, .int (iz p0)), (2, .int (iz p1))]) hx hb dX6_told_83 hl (k := 4) rfl (iz_add nv 1) (by decide) rfl (fun ls hl => ?_)
                refine lv_iconst (v := iz 0) hx hb dX6_told_86 (by decide) ?_
                refine lv_istore (lv' := [(8, .int (iz 0)), (3, .int (iz (nv + 1))), (6, .int (iz mv)), (5, .int (iz av)), (4, .int (iz kd)), (7, .int (iz ev)), (0, .ref mo), (1, .int (iz p0)), (2, .int (iz p1))]) hx hb dX6_told_87 hl (by decide) rfl (fun ls hl => ?_)
                have lp89 : ∀ (n : Nat) (nw kw aw mw kv : Int), ((0 ≤ nw ∧ nw ≤ 7 * ev + 1 + kv) ∧ (0 ≤ kw ∧ kw ≤ 3) ∧ (-2147483648 ≤ aw ∧ aw < 2147483648) ∧ (-2147483648 ≤ mw ∧ mw < 2147483648) ∧ (0 ≤ kv ∧ kv ≤ 5)) → (F_4 13 ev - kv).toNat < n → ∀ (H : Heap) (locs : List Loc), va_P (dC, dI) kxCl (mW mo ma cs I_3 F_4) H → va_D A (mW mo ma cs I_3 F_4) → va_S A s.heap H locs → ∀ ls : Array Slot, lv_has ls 10 [(8, .int (iz kv)), (3, .int (iz nw)), (6, .int (iz mw)), (5, .int (iz aw)), (4, .int (iz kw)), (7, .int (iz ev)), (0, .ref mo), (1, .int (iz p0)), (2, .int (iz p1))] → W p l e (headSpec [.code yX6_told cX6_told 10 (some .int)] ({ frames := 5, cells := 0, slots := 0, locals := 120 })).room s m ([.ref mo, .int (iz p0), .int (iz p1)] : List Value).toArray below meth c H locs 0 0 QQ (F0 m 89 ls []) := by
                  intro n
                  induction n with
                  | zero => intro nw kw aw mw kv hinv hm; exact absurd hm (Nat.not_lt_zero _)
                  | succ n ih89 =>
                    intro nw kw aw mw kv hinv hm H locs hP hD hS ls hl
                    obtain ⟨hnw, hkw, haw, hmw, hkv⟩ := hinv
                    refine lv_iload hx hb dX6_told_89 (lv_at hl 0 rfl) ?_
                    refine lv_aload_n hx hb dX6_told_91 rfl (lv_at hl 6 rfl) ?_
                    refine va_get (D := (dC, dI)) (ci := 6) (v := .ref (ma 13)) (C := RX6) (T := TX6) (N := 44) hx hb hts kt_X6 hown hK hP 0 rfl rfl 13 (by decide) (kx_word hG kq_04_msmall_38 rfl) (fun _ h9 => h9) rfl dX6_told_92 ?_
                    refine lv_iload hx hb dX6_told_95 (lv_at hl 5 rfl) ?_
                    refine ki_iald (F := F_4 13) hx hb hK hP 12 11 rfl rfl (by omega) (by omega) (by decide) dX6_told_97 ?_
                    have hbd_83 := hI6.hB.2 13 ev
                    refine ki_icmp_ge (tgt := 179) hx hb dX6_told_98 (by decide) (by omega) (by omega) (by omega) (by omega) (fun c_84 => ?_) (fun c_84 => ?_)
                    · skip
                      refine lv_aload_n hx hb dX6_told_179 rfl (lv_at hl 6 rfl) ?_
                      refine lv_iload hx hb dX6_told_180 (lv_at hl 5 rfl) ?_
                      refine mk_calli (As := [.int (iz ev)]) (rest := []) ⟨hx, hb, hml, hown, hts⟩ (k_isBare l dC dI mo ma cs I_3 F_4 ev H.size hI6.hB hI6.hc hI6.hln hI6.hlv (by omega)) (cwV 1 hts (kx_gV kq_11_mask_4 kq_11_mask_5 kq_11_mask_6 kq_04_msmall_6 kq_11_mask_7 rfl) rfl rfl rfl (by decide +kernel) ⟨Nat.le_of_ble_eq_true rfl, Nat.le_of_ble_eq_true rfl⟩) hP hD hK hG hZ hS hA rfl hl.1 rfl (Nat.le_of_ble_eq_true rfl) dX6_told_182 ⟨Nat.le_of_ble_eq_true rfl, Nat.le_of_ble_eq_true rfl⟩ (fun z_85 I_87 F_88 H locs hq_86 hP hD hS => ?_)
                      try dsimp only at hq_86
                      obtain ⟨rfl, rfl, hq_86⟩ := hq_86
                      refine ki_if_eq (tgt := 218) hx hb dX6_told_185 (by decide) (by omega) (by omega) (fun c_89 => ?_) (fun c_89 => ?_)
                      · skip
                        refine lv_iinc (v := iz (ev + 1)) (lv' := [(7, .int (iz (ev + 1))), (8, .int (iz kv)), (3, .int (iz nw)), (6, .int (iz mw)), (5, .int (iz aw)), (4, .int (iz kw)), (0, .ref mo), (1, .int (iz p0)), (2, .int (iz p1))]) hx hb dX6_told_218 hl (k := 5) rfl (iz_add ev 1) (by decide) rfl (fun ls hl => ?_)
                        refine lv_goto (tgt := 18) hx hb dX6_told_221 (by decide) ?_
                        exact ih18 nw kw aw mw (ev + 1) ⟨by omega, by omega, by omega, by omega, by omega⟩ (by omega) _ _ hP hD hS ls (lv_sub hl [0, 3, 4, 5, 2, 6, 7, 8] rfl)
                      · skip
                        refine lv_iload_n hx hb dX6_told_188 rfl (lv_at hl 1 rfl) ?_
                        refine lv_iload_n hx hb dX6_told_189 rfl (lv_at hl 7 rfl) ?_
                        refine ki_icmp_ne (tgt := 197) hx hb dX6_told_190 (by decide) (by omega) (by omega) (by omega) (by omega) (fun c_90 => ?_) (fun c_90 => ?_)
                        · skip
                          refine lv_iload hx hb dX6_told_197 (lv_at hl 4 rfl) ?_
                          refine lv_istore (lv' := [(4, .int (iz kw)), (8, .int (iz kv)), (3, .int (iz nw)), (6, .int (iz mw)), (5, .int (iz aw)), (7, .int (iz ev)), (0, .ref mo), (1, .int (iz p0)), (2, .int (iz p1))]) hx hb dX6_told_199 hl (by decide) rfl (fun ls hl => ?_)
                          refine lv_iload_n hx hb dX6_told_201 rfl (lv_at hl 2 rfl) ?_
                          refine lv_iload_n hx hb dX6_told_202 rfl (lv_at hl 7 rfl) ?_
                          refine ki_icmp_ne (tgt := 211) hx hb dX6_told_203 (by decide) (by omega) (by omega) (by omega) (by omega) (fun c_91 => ?_) (fun c_91 => ?_)
                          · skip
                            refine lv_iload hx hb dX6_told_211 (lv_at hl 4 rfl) ?_
                            refine lv_istore (lv' := [(5, .int (iz aw)), (4, .int (iz kw)), (8, .int (iz kv)), (3, .int (iz nw)), (6, .int (iz mw)), (7, .int (iz ev)), (0, .ref mo), (1, .int (iz p0)), (2, .int (iz p1))]) hx hb dX6_told_213 hl (by decide) rfl (fun ls hl => ?_)
                            refine lv_iinc (v := iz (nw + 1)) (lv' := [(3, .int (iz (nw + 1))), (5, .int (iz aw)), (4, .int (iz kw)), (8, .int (iz kv)), (6, .int (iz mw)), (7, .int (iz ev)), (0, .ref mo), (1, .int (iz p0)), (2, .int (iz p1))]) hx hb dX6_told_215 hl (k := 3) rfl (iz_add nw 1) (by decide) rfl (fun ls hl => ?_)
                            refine lv_iinc (v := iz (ev + 1)) (lv' := [(7, .int (iz (ev + 1))), (3, .int (iz (nw + 1))), (5, .int (iz aw)), (4, .int (iz kw)), (8, .int (iz kv)), (6, .int (iz mw)), (0, .ref mo), (1, .int (iz p0)), (2, .int (iz p1))]) hx hb dX6_told_218 hl (k := 5) rfl (iz_add ev 1) (by decide) rfl (fun ls hl => ?_)
                            refine lv_goto (tgt := 18) hx hb dX6_told_221 (by decide) ?_
                            exact ih18 (nw + 1) kw aw mw (ev + 1) ⟨by omega, by omega, by omega, by omega, by omega⟩ (by omega) _ _ hP hD hS ls (lv_sub hl [0, 5, 2, 3, 1, 6, 7, 8] rfl)
                          · omega
                        · skip
                          refine lv_iconst (v := iz 3) hx hb dX6_told_193 (by decide) ?_
                          refine lv_goto (tgt := 199) hx hb dX6_told_194 (by decide) ?_
                          refine lv_istore (lv' := [(4, .int (iz 3)), (8, .int (iz kv)), (3, .int (iz nw)), (6, .int (iz mw)), (5, .int (iz aw)), (7, .int (iz ev)), (0, .ref mo), (1, .int (iz p0)), (2, .int (iz p1))]) hx hb dX6_told_199 hl (by decide) rfl (fun ls hl => ?_)
                          refine lv_iload_n hx hb dX6_told_201 rfl (lv_at hl 2 rfl) ?_
                          refine lv_iload_n hx hb dX6_told_202 rfl (lv_at hl 7 rfl) ?_
                          refine ki_icmp_ne (tgt := 211) hx hb dX6_told_203 (by decide) (by omega) (by omega) (by omega) (by omega) (fun c_92 => ?_) (fun c_92 => ?_)
                          · omega
                          · skip
                            refine lv_iload hx hb dX6_told_206 (lv_at hl 5 rfl) ?_
                            refine lv_goto (tgt := 213) hx hb dX6_told_208 (by decide) ?_
                            refine lv_istore (lv' := [(5, .int (iz ev)), (4, .int (iz 3)), (8, .int (iz kv)), (3, .int (iz nw)), (6, .int (iz mw)), (7, .int (iz ev)), (0, .ref mo), (1, .int (iz p0)), (2, .int (iz p1))]) hx hb dX6_told_213 hl (by decide) rfl (fun ls hl => ?_)
                            refine lv_iinc (v := iz (nw + 1)) (lv' := [(3, .int (iz (nw + 1))), (5, .int (iz ev)), (4, .int (iz 3)), (8, .int (iz kv)), (6, .int (iz mw)), (7, .int (iz ev)), (0, .ref mo), (1, .int (iz p0)), (2, .int (iz p1))]) hx hb dX6_told_215 hl (k := 3) rfl (iz_add nw 1) (by decide) rfl (fun ls hl => ?_)
                            refine lv_iinc (v := iz (ev + 1)) (lv' := [(7, .int (iz (ev + 1))), (3, .int (iz (nw + 1))), (5, .int (iz ev)), (4, .int (iz 3)), (8, .int (iz kv)), (6, .int (iz mw)), (0, .ref mo), (1, .int (iz p0)), (2, .int (iz p1))]) hx hb dX6_told_218 hl (k := 5) rfl (iz_add ev 1) (by decide) rfl (fun ls hl => ?_)
                            refine lv_goto (tgt := 18) hx hb dX6_told_221 (by decide) ?_
                            exact ih18 (nw + 1) 3 ev mw (ev + 1) ⟨by omega, by omega, by omega, by omega, by omega⟩ (by omega) _ _ hP hD hS ls (lv_sub hl [0, 5, 2, 3, 1, 6, 7, 8] rfl)
                    · skip
                      have hse9 := hI6.hse ev kv (by omega) (by omega) (by omega) (by omega)
                      refine lv_aload_n hx hb dX6_told_101 rfl (lv_at hl 6 rfl) ?_
                      refine va_get (D := (dC, dI)) (ci := 6) (v := .ref (ma 12)) (C := RX6) (T := TX6) (N := 44) hx hb hts kt_X6 hown hK hP 0 rfl rfl 12 (by decide) (kx_word hG kq_04_msmall_39 rfl) (fun _ h9 => h9) rfl dX6_told_102 ?_
                      refine lv_iconst (v := iz 5) hx hb dX6_told_105 (by decide) ?_
                      refine lv_iload hx hb dX6_told_106 (lv_at hl 5 rfl) ?_
                      refine ki_imul hx hb dX6_told_108 ?_
                      refine lv_iload hx hb dX6_told_109 (lv_at hl 0 rfl) ?_
                      refine ki_iadd hx hb dX6_told_111 ?_
                      refine ki_iald (F := F_4 12) hx hb hK hP 11 10 rfl rfl (by omega) (by omega) (by decide) dX6_told_112 ?_
                      have hbd_93 := hI6.hB.2 12 ((5 * ev) + kv)
                      refine lv_istore (lv' := [(9, .int (iz (F_4 12 ((5 * ev) + kv)))), (8, .int (iz kv)), (3, .int (iz nw)), (6, .int (iz mw)), (5, .int (iz aw)), (4, .int (iz kw)), (7, .int (iz ev)), (0, .ref mo), (1, .int (iz p0)), (2, .int (iz p1))]) hx hb dX6_told_113 hl (by decide) rfl (fun ls hl => ?_)
                      refine lv_aload_n hx hb dX6_told_115 rfl (lv_at hl 7 rfl) ?_
                      refine lv_aload_n hx hb dX6_told_116 rfl (lv_at hl 7 rfl) ?_
                      refine va_get (D := (dC, dI)) (ci := 6) (v := .ref (ma 17)) (C := RX6) (T := TX6) (N := 44) hx hb hts kt_X6 hown hK hP 0 rfl rfl 17 (by decide) (kx_word hG kq_06_mway_15 rfl) (fun _ h9 => h9) rfl dX6_told_117 ?_
                      have hsm9 := hsmL (F_4 12 ((5 * ev) + kv)) (by omega) (by omega)
                      refine lv_iload hx hb dX6_told_120 (lv_at hl 0 rfl) ?_
                      refine ki_iald (F := F_4 17) hx hb hK hP 13 12 rfl rfl (by omega) (by omega) (by decide) dX6_told_122 ?_
                      have hbd_94 := hI6.hB.2 17 (F_4 12 ((5 * ev) + kv))
                      refine mk_calli (As := [.int (iz (F_4 17 (F_4 12 ((5 * ev) + kv))))]) (rest := []) ⟨hx, hb, hml, hown, hts⟩ (k_hasPage l dC dI mo ma cs I_3 F_4 (F_4 17 (F_4 12 ((5 * ev) + kv))) H.size hI6.hB hI6.hc hI6.hln (by omega) (by omega)) (cwV 1 hts (kx_gV kq_08_mgather_9 kq_08_mgather_10 kq_08_mgather_11 kq_04_msmall_6 kq_08_mgather_12 rfl) rfl rfl rfl (by decide +kernel) ⟨Nat.le_of_ble_eq_true rfl, Nat.le_of_ble_eq_true rfl⟩) hP hD hK hG hZ hS hA rfl hl.1 rfl (Nat.le_of_ble_eq_true rfl) dX6_told_123 ⟨Nat.le_of_ble_eq_true rfl, Nat.le_of_ble_eq_true rfl⟩ (fun z_95 I_97 F_98 H locs hq_96 hP hD hS => ?_)
                      try dsimp only at hq_96
                      obtain ⟨rfl, rfl, hq_96⟩ := hq_96
                      refine ki_if_ne (tgt := 173) hx hb dX6_told_126 (by decide) (by omega) (by omega) (fun c_99 => ?_) (fun c_99 => ?_)
                      · skip
                        refine lv_iinc (v := iz (kv + 1)) (lv' := [(8, .int (iz (kv + 1))), (9, .int (iz (F_4 12 ((5 * ev) + kv)))), (3, .int (iz nw)), (6, .int (iz mw)), (5, .int (iz aw)), (4, .int (iz kw)), (7, .int (iz ev)), (0, .ref mo), (1, .int (iz p0)), (2, .int (iz p1))]) hx hb dX6_told_173 hl (k := 1) rfl (iz_add kv 1) (by decide) rfl (fun ls hl => ?_)
                        refine lv_goto (tgt := 89) hx hb dX6_told_176 (by decide) ?_
                        exact ih89 nw kw aw mw (kv + 1) ⟨by omega, by omega, by omega, by omega, by omega⟩ (by omega) _ _ hP hD hS ls (lv_sub hl [0, 2, 3, 4, 5, 6, 7, 8, 9] rfl)
                      · skip
                        refine lv_iload_n hx hb dX6_told_129 rfl (lv_at hl 2 rfl) ?_
                        refine lv_iload_n hx hb dX6_told_130 rfl (lv_at hl 8 rfl) ?_
                        refine ki_icmp_ne (tgt := 138) hx hb dX6_told_131 (by decide) (by omega) (by omega) (by omega) (by omega) (fun c_100 => ?_) (fun c_100 => ?_)
                        · skip
                          refine lv_iload hx hb dX6_told_138 (lv_at hl 5 rfl) ?_
                          refine lv_istore (lv' := [(4, .int (iz kw)), (9, .int (iz (F_4 12 ((5 * ev) + kv)))), (8, .int (iz kv)), (3, .int (iz nw)), (6, .int (iz mw)), (5, .int (iz aw)), (7, .int (iz ev)), (0, .ref mo), (1, .int (iz p0)), (2, .int (iz p1))]) hx hb dX6_told_140 hl (by decide) rfl (fun ls hl => ?_)
                          refine lv_iload_n hx hb dX6_told_142 rfl (lv_at hl 3 rfl) ?_
                          refine lv_iload_n hx hb dX6_told_143 rfl (lv_at hl 8 rfl) ?_
                          refine ki_icmp_ne (tgt := 152) hx hb dX6_told_144 (by decide) (by omega) (by omega) (by omega) (by omega) (fun c_101 => ?_) (fun c_101 => ?_)
                          · skip
                            refine lv_iload hx hb dX6_told_152 (lv_at hl 5 rfl) ?_
                            refine lv_istore (lv' := [(5, .int (iz aw)), (4, .int (iz kw)), (9, .int (iz (F_4 12 ((5 * ev) + kv)))), (8, .int (iz kv)), (3, .int (iz nw)), (6, .int (iz mw)), (7, .int (iz ev)), (0, .ref mo), (1, .int (iz p0)), (2, .int (iz p1))]) hx hb dX6_told_154 hl (by decide) rfl (fun ls hl => ?_)
                            refine lv_iload_n hx hb dX6_told_156 rfl (lv_at hl 4 rfl) ?_
                            refine lv_iload_n hx hb dX6_told_157 rfl (lv_at hl 8 rfl) ?_
                            refine ki_icmp_ne (tgt := 166) hx hb dX6_told_158 (by decide) (by omega) (by omega) (by omega) (by omega) (fun c_102 => ?_) (fun c_102 => ?_)
                            · skip
                              refine lv_iload hx hb dX6_told_166 (lv_at hl 5 rfl) ?_
                              refine lv_istore (lv' := [(6, .int (iz mw)), (5, .int (iz aw)), (4, .int (iz kw)), (9, .int (iz (F_4 12 ((5 * ev) + kv)))), (8, .int (iz kv)), (3, .int (iz nw)), (7, .int (iz ev)), (0, .ref mo), (1, .int (iz p0)), (2, .int (iz p1))]) hx hb dX6_told_168 hl (by decide) rfl (fun ls hl => ?_)
                              refine lv_iinc (v := iz (nw + 1)) (lv' := [(3, .int (iz (nw + 1))), (6, .int (iz mw)), (5, .int (iz aw)), (4, .int (iz kw)), (9, .int (iz (F_4 12 ((5 * ev) + kv)))), (8, .int (iz kv)), (7, .int (iz ev)), (0, .ref mo), (1, .int (iz p0)), (2, .int (iz p1))]) hx hb dX6_told_170 hl (k := 5) rfl (iz_add nw 1) (by decide) rfl (fun ls hl => ?_)
                              refine lv_iinc (v := iz (kv + 1)) (lv' := [(8, .int (iz (kv + 1))), (3, .int (iz (nw + 1))), (6, .int (iz mw)), (5, .int (iz aw)), (4, .int (iz kw)), (9, .int (iz (F_4 12 ((5 * ev) + kv)))), (7, .int (iz ev)), (0, .ref mo), (1, .int (iz p0)), (2, .int (iz p1))]) hx hb dX6_told_173 hl (k := 5) rfl (iz_add kv 1) (by decide) rfl (fun ls hl => ?_)
                              refine lv_goto (tgt := 89) hx hb dX6_told_176 (by decide) ?_
                              exact ih89 (nw + 1) kw aw mw (kv + 1) ⟨by omega, by omega, by omega, by omega, by omega⟩ (by omega) _ _ hP hD hS ls (lv_sub hl [0, 1, 2, 3, 4, 6, 7, 8, 9] rfl)
                            · omega
                          · omega
                        · skip
                          refine lv_iconst (v := iz 2) hx hb dX6_told_134 (by decide) ?_
                          refine lv_goto (tgt := 140) hx hb dX6_told_135 (by decide) ?_
                          refine lv_istore (lv' := [(4, .int (iz 2)), (9, .int (iz (F_4 12 ((5 * ev) + kv)))), (8, .int (iz kv)), (3, .int (iz nw)), (6, .int (iz mw)), (5, .int (iz aw)), (7, .int (iz ev)), (0, .ref mo), (1, .int (iz p0)), (2, .int (iz p1))]) hx hb dX6_told_140 hl (by decide) rfl (fun ls hl => ?_)
                          refine lv_iload_n hx hb dX6_told_142 rfl (lv_at hl 3 rfl) ?_
                          refine lv_iload_n hx hb dX6_told_143 rfl (lv_at hl 8 rfl) ?_
                          refine ki_icmp_ne (tgt := 152) hx hb dX6_told_144 (by decide) (by omega) (by omega) (by omega) (by omega) (fun c_103 => ?_) (fun c_103 => ?_)
                          · omega
                          · skip
                            refine lv_iload hx hb dX6_told_147 (lv_at hl 6 rfl) ?_
                            refine lv_goto (tgt := 154) hx hb dX6_told_149 (by decide) ?_
                            refine lv_istore (lv' := [(5, .int (iz ev)), (4, .int (iz 2)), (9, .int (iz (F_4 12 ((5 * ev) + kv)))), (8, .int (iz kv)), (3, .int (iz nw)), (6, .int (iz mw)), (7, .int (iz ev)), (0, .ref mo), (1, .int (iz p0)), (2, .int (iz p1))]) hx hb dX6_told_154 hl (by decide) rfl (fun ls hl => ?_)
                            refine lv_iload_n hx hb dX6_told_156 rfl (lv_at hl 4 rfl) ?_
                            refine lv_iload_n hx hb dX6_told_157 rfl (lv_at hl 8 rfl) ?_
                            refine ki_icmp_ne (tgt := 166) hx hb dX6_told_158 (by decide) (by omega) (by omega) (by omega) (by omega) (fun c_104 => ?_) (fun c_104 => ?_)
                            · omega
                            · skip
                              refine lv_iload hx hb dX6_told_161 (lv_at hl 2 rfl) ?_
                              refine lv_goto (tgt := 168) hx hb dX6_told_163 (by decide) ?_
                              refine lv_istore (lv' := [(6, .int (iz (F_4 12 ((5 * ev) + kv)))), (5, .int (iz ev)), (4, .int (iz 2)), (9, .int (iz (F_4 12 ((5 * ev) + kv)))), (8, .int (iz kv)), (3, .int (iz nw)), (7, .int (iz ev)), (0, .ref mo), (1, .int (iz p0)), (2, .int (iz p1))]) hx hb dX6_told_168 hl (by decide) rfl (fun ls hl => ?_)
                              refine lv_iinc (v := iz (nw + 1)) (lv' := [(3, .int (iz (nw + 1))), (6, .int (iz (F_4 12 ((5 * ev) + kv)))), (5, .int (iz ev)), (4, .int (iz 2)), (9, .int (iz (F_4 12 ((5 * ev) + kv)))), (8, .int (iz kv)), (7, .int (iz ev)), (0, .ref mo), (1, .int (iz p0)), (2, .int (iz p1))]) hx hb dX6_told_170 hl (k := 5) rfl (iz_add nw 1) (by decide) rfl (fun ls hl => ?_)
                              refine lv_iinc (v := iz (kv + 1)) (lv' := [(8, .int (iz (kv + 1))), (3, .int (iz (nw + 1))), (6, .int (iz (F_4 12 ((5 * ev) + kv)))), (5, .int (iz ev)), (4, .int (iz 2)), (9, .int (iz (F_4 12 ((5 * ev) + kv)))), (7, .int (iz ev)), (0, .ref mo), (1, .int (iz p0)), (2, .int (iz p1))]) hx hb dX6_told_173 hl (k := 5) rfl (iz_add kv 1) (by decide) rfl (fun ls hl => ?_)
                              refine lv_goto (tgt := 89) hx hb dX6_told_176 (by decide) ?_
                              exact ih89 (nw + 1) 2 ev (F_4 12 ((5 * ev) + kv)) (kv + 1) ⟨by omega, by omega, by omega, by omega, by omega⟩ (by omega) _ _ hP hD hS ls (lv_sub hl [0, 1, 2, 3, 4, 6, 7, 8, 9] rfl)
                exact lp89 _ (nv + 1) kd av mv 0 ⟨by omega, by omega, by omega, by omega, by omega⟩ (Nat.lt_succ_self _) _ _ hP hD hS ls (lv_sub hl [0, 1, 2, 3, 4, 5, 6, 7, 8] rfl)
              · omega
            · omega
          · skip
            refine lv_iconst (v := iz 1) hx hb dX6_told_42 (by decide) ?_
            refine lv_goto (tgt := 48) hx hb dX6_told_43 (by decide) ?_
            refine lv_istore (lv' := [(4, .int (iz 1)), (7, .int (iz ev)), (6, .int (iz mv)), (5, .int (iz av)), (3, .int (iz nv)), (0, .ref mo), (1, .int (iz p0)), (2, .int (iz p1))]) hx hb dX6_told_48 hl (by decide) rfl (fun ls hl => ?_)
            refine lv_iload_n hx hb dX6_told_50 rfl (lv_at hl 4 rfl) ?_
            refine lv_iload_n hx hb dX6_told_51 rfl (lv_at hl 6 rfl) ?_
            refine ki_icmp_ne (tgt := 60) hx hb dX6_told_52 (by decide) (by omega) (by omega) (by omega) (by omega) (fun c_105 => ?_) (fun c_105 => ?_)
            · omega
            · skip
              refine lv_iload hx hb dX6_told_55 (lv_at hl 1 rfl) ?_
              refine lv_goto (tgt := 62) hx hb dX6_told_57 (by decide) ?_
              refine lv_istore (lv' := [(5, .int (iz ev)), (4, .int (iz 1)), (7, .int (iz ev)), (6, .int (iz mv)), (3, .int (iz nv)), (0, .ref mo), (1, .int (iz p0)), (2, .int (iz p1))]) hx hb dX6_told_62 hl (by decide) rfl (fun ls hl => ?_)
              refine lv_iload_n hx hb dX6_told_64 rfl (lv_at hl 4 rfl) ?_
              refine lv_iload_n hx hb dX6_told_65 rfl (lv_at hl 6 rfl) ?_
              refine ki_icmp_ne (tgt := 79) hx hb dX6_told_66 (by decide) (by omega) (by omega) (by omega) (by omega) (fun c_106 => ?_) (fun c_106 => ?_)
              · omega
              · skip
                refine lv_aload_n hx hb dX6_told_69 rfl (lv_at hl 5 rfl) ?_
                refine va_get (D := (dC, dI)) (ci := 6) (v := .ref (ma 11)) (C := RX6) (T := TX6) (N := 44) hx hb hts kt_X6 hown hK hP 0 rfl rfl 11 (by decide) (kx_word hG kq_04_msmall_21 rfl) (fun _ h9 => h9) rfl dX6_told_70 ?_
                refine lv_iload hx hb dX6_told_73 (lv_at hl 2 rfl) ?_
                refine ki_iald (F := F_4 11) hx hb hK hP 10 9 rfl rfl (by omega) (by omega) (by decide) dX6_told_75 ?_
                refine lv_goto (tgt := 81) hx hb dX6_told_76 (by decide) ?_
                refine lv_istore (lv' := [(6, .int (iz (F_4 11 ev))), (5, .int (iz ev)), (4, .int (iz 1)), (7, .int (iz ev)), (3, .int (iz nv)), (0, .ref mo), (1, .int (iz p0)), (2, .int (iz p1))]) hx hb dX6_told_81 hl (by decide) rfl (fun ls hl => ?_)
                refine lv_iinc (v := iz (nv + 1)) (lv' := [(3, .int (iz (nv + 1))), (6, .int (iz (F_4 11 ev))), (5, .int (iz ev)), (4, .int (iz 1)), (7, .int (iz ev)), (0, .ref mo), (1, .int (iz p0)), (2, .int (iz p1))]) hx hb dX6_told_83 hl (k := 4) rfl (iz_add nv 1) (by decide) rfl (fun ls hl => ?_)
                refine lv_iconst (v := iz 0) hx hb dX6_told_86 (by decide) ?_
                refine lv_istore (lv' := [(8, .int (iz 0)), (3, .int (iz (nv + 1))), (6, .int (iz (F_4 11 ev))), (5, .int (iz ev)), (4, .int (iz 1)), (7, .int (iz ev)), (0, .ref mo), (1, .int (iz p0)), (2, .int (iz p1))]) hx hb dX6_told_87 hl (by decide) rfl (fun ls hl => ?_)
                have lp89 : ∀ (n : Nat) (nw kw aw mw kv : Int), ((0 ≤ nw ∧ nw ≤ 7 * ev + 1 + kv) ∧ (0 ≤ kw ∧ kw ≤ 3) ∧ (-2147483648 ≤ aw ∧ aw < 2147483648) ∧ (-2147483648 ≤ mw ∧ mw < 2147483648) ∧ (0 ≤ kv ∧ kv ≤ 5)) → (F_4 13 ev - kv).toNat < n → ∀ (H : Heap) (locs : List Loc), va_P (dC, dI) kxCl (mW mo ma cs I_3 F_4) H → va_D A (mW mo ma cs I_3 F_4) → va_S A s.heap H locs → ∀ ls : Array Slot, lv_has ls 10 [(8, .int (iz kv)), (3, .int (iz nw)), (6, .int (iz mw)), (5, .int (iz aw)), (4, .int (iz kw)), (7, .int (iz ev)), (0, .ref mo), (1, .int (iz p0)), (2, .int (iz p1))] → W p l e (headSpec [.code yX6_told cX6_told 10 (some .int)] ({ frames := 5, cells := 0, slots := 0, locals := 120 })).room s m ([.ref mo, .int (iz p0), .int (iz p1)] : List Value).toArray below meth c H locs 0 0 QQ (F0 m 89 ls []) := by
                  intro n
                  induction n with
                  | zero => intro nw kw aw mw kv hinv hm; exact absurd hm (Nat.not_lt_zero _)
                  | succ n ih89 =>
                    intro nw kw aw mw kv hinv hm H locs hP hD hS ls hl
                    obtain ⟨hnw, hkw, haw, hmw, hkv⟩ := hinv
                    refine lv_iload hx hb dX6_told_89 (lv_at hl 0 rfl) ?_
                    refine lv_aload_n hx hb dX6_told_91 rfl (lv_at hl 6 rfl) ?_
                    refine va_get (D := (dC, dI)) (ci := 6) (v := .ref (ma 13)) (C := RX6) (T := TX6) (N := 44) hx hb hts kt_X6 hown hK hP 0 rfl rfl 13 (by decide) (kx_word hG kq_04_msmall_38 rfl) (fun _ h9 => h9) rfl dX6_told_92 ?_
                    refine lv_iload hx hb dX6_told_95 (lv_at hl 5 rfl) ?_
                    refine ki_iald (F := F_4 13) hx hb hK hP 12 11 rfl rfl (by omega) (by omega) (by decide) dX6_told_97 ?_
                    have hbd_107 := hI6.hB.2 13 ev
                    refine ki_icmp_ge (tgt := 179) hx hb dX6_told_98 (by decide) (by omega) (by omega) (by omega) (by omega) (fun c_108 => ?_) (fun c_108 => ?_)
                    · skip
                      refine lv_aload_n hx hb dX6_told_179 rfl (lv_at hl 6 rfl) ?_
                      refine lv_iload hx hb dX6_told_180 (lv_at hl 5 rfl) ?_
                      refine mk_calli (As := [.int (iz ev)]) (rest := []) ⟨hx, hb, hml, hown, hts⟩ (k_isBare l dC dI mo ma cs I_3 F_4 ev H.size hI6.hB hI6.hc hI6.hln hI6.hlv (by omega)) (cwV 1 hts (kx_gV kq_11_mask_4 kq_11_mask_5 kq_11_mask_6 kq_04_msmall_6 kq_11_mask_7 rfl) rfl rfl rfl (by decide +kernel) ⟨Nat.le_of_ble_eq_true rfl, Nat.le_of_ble_eq_true rfl⟩) hP hD hK hG hZ hS hA rfl hl.1 rfl (Nat.le_of_ble_eq_true rfl) dX6_told_182 ⟨Nat.le_of_ble_eq_true rfl, Nat.le_of_ble_eq_true rfl⟩ (fun z_109 I_111 F_112 H locs hq_110 hP hD hS => ?_)
                      try dsimp only at hq_110
                      obtain ⟨rfl, rfl, hq_110⟩ := hq_110
                      refine ki_if_eq (tgt := 218) hx hb dX6_told_185 (by decide) (by omega) (by omega) (fun c_113 => ?_) (fun c_113 => ?_)
                      · skip
                        refine lv_iinc (v := iz (ev + 1)) (lv' := [(7, .int (iz (ev + 1))), (8, .int (iz kv)), (3, .int (iz nw)), (6, .int (iz mw)), (5, .int (iz aw)), (4, .int (iz kw)), (0, .ref mo), (1, .int (iz p0)), (2, .int (iz p1))]) hx hb dX6_told_218 hl (k := 5) rfl (iz_add ev 1) (by decide) rfl (fun ls hl => ?_)
                        refine lv_goto (tgt := 18) hx hb dX6_told_221 (by decide) ?_
                        exact ih18 nw kw aw mw (ev + 1) ⟨by omega, by omega, by omega, by omega, by omega⟩ (by omega) _ _ hP hD hS ls (lv_sub hl [0, 3, 4, 5, 2, 6, 7, 8] rfl)
                      · skip
                        refine lv_iload_n hx hb dX6_told_188 rfl (lv_at hl 1 rfl) ?_
                        refine lv_iload_n hx hb dX6_told_189 rfl (lv_at hl 7 rfl) ?_
                        refine ki_icmp_ne (tgt := 197) hx hb dX6_told_190 (by decide) (by omega) (by omega) (by omega) (by omega) (fun c_114 => ?_) (fun c_114 => ?_)
                        · skip
                          refine lv_iload hx hb dX6_told_197 (lv_at hl 4 rfl) ?_
                          refine lv_istore (lv' := [(4, .int (iz kw)), (8, .int (iz kv)), (3, .int (iz nw)), (6, .int (iz mw)), (5, .int (iz aw)), (7, .int (iz ev)), (0, .ref mo), (1, .int (iz p0)), (2, .int (iz p1))]) hx hb dX6_told_199 hl (by decide) rfl (fun ls hl => ?_)
                          refine lv_iload_n hx hb dX6_told_201 rfl (lv_at hl 2 rfl) ?_
                          refine lv_iload_n hx hb dX6_told_202 rfl (lv_at hl 7 rfl) ?_
                          refine ki_icmp_ne (tgt := 211) hx hb dX6_told_203 (by decide) (by omega) (by omega) (by omega) (by omega) (fun c_115 => ?_) (fun c_115 => ?_)
                          · skip
                            refine lv_iload hx hb dX6_told_211 (lv_at hl 4 rfl) ?_
                            refine lv_istore (lv' := [(5, .int (iz aw)), (4, .int (iz kw)), (8, .int (iz kv)), (3, .int (iz nw)), (6, .int (iz mw)), (7, .int (iz ev)), (0, .ref mo), (1, .int (iz p0)), (2, .int (iz p1))]) hx hb dX6_told_213 hl (by decide) rfl (fun ls hl => ?_)
                            refine lv_iinc (v := iz (nw + 1)) (lv' := [(3, .int (iz (nw + 1))), (5, .int (iz aw)), (4, .int (iz kw)), (8, .int (iz kv)), (6, .int (iz mw)), (7, .int (iz ev)), (0, .ref mo), (1, .int (iz p0)), (2, .int (iz p1))]) hx hb dX6_told_215 hl (k := 3) rfl (iz_add nw 1) (by decide) rfl (fun ls hl => ?_)
                            refine lv_iinc (v := iz (ev + 1)) (lv' := [(7, .int (iz (ev + 1))), (3, .int (iz (nw + 1))), (5, .int (iz aw)), (4, .int (iz kw)), (8, .int (iz kv)), (6, .int (iz mw)), (0, .ref mo), (1, .int (iz p0)), (2, .int (iz p1))]) hx hb dX6_told_218 hl (k := 5) rfl (iz_add ev 1) (by decide) rfl (fun ls hl => ?_)
                            refine lv_goto (tgt := 18) hx hb dX6_told_221 (by decide) ?_
                            exact ih18 (nw + 1) kw aw mw (ev + 1) ⟨by omega, by omega, by omega, by omega, by omega⟩ (by omega) _ _ hP hD hS ls (lv_sub hl [0, 5, 2, 3, 1, 6, 7, 8] rfl)
                          · omega
                        · skip
                          refine lv_iconst (v := iz 3) hx hb dX6_told_193 (by decide) ?_
                          refine lv_goto (tgt := 199) hx hb dX6_told_194 (by decide) ?_
                          refine lv_istore (lv' := [(4, .int (iz 3)), (8, .int (iz kv)), (3, .int (iz nw)), (6, .int (iz mw)), (5, .int (iz aw)), (7, .int (iz ev)), (0, .ref mo), (1, .int (iz p0)), (2, .int (iz p1))]) hx hb dX6_told_199 hl (by decide) rfl (fun ls hl => ?_)
                          refine lv_iload_n hx hb dX6_told_201 rfl (lv_at hl 2 rfl) ?_
                          refine lv_iload_n hx hb dX6_told_202 rfl (lv_at hl 7 rfl) ?_
                          refine ki_icmp_ne (tgt := 211) hx hb dX6_told_203 (by decide) (by omega) (by omega) (by omega) (by omega) (fun c_116 => ?_) (fun c_116 => ?_)
                          · omega
                          · skip
                            refine lv_iload hx hb dX6_told_206 (lv_at hl 5 rfl) ?_
                            refine lv_goto (tgt := 213) hx hb dX6_told_208 (by decide) ?_
                            refine lv_istore (lv' := [(5, .int (iz ev)), (4, .int (iz 3)), (8, .int (iz kv)), (3, .int (iz nw)), (6, .int (iz mw)), (7, .int (iz ev)), (0, .ref mo), (1, .int (iz p0)), (2, .int (iz p1))]) hx hb dX6_told_213 hl (by decide) rfl (fun ls hl => ?_)
                            refine lv_iinc (v := iz (nw + 1)) (lv' := [(3, .int (iz (nw + 1))), (5, .int (iz ev)), (4, .int (iz 3)), (8, .int (iz kv)), (6, .int (iz mw)), (7, .int (iz ev)), (0, .ref mo), (1, .int (iz p0)), (2, .int (iz p1))]) hx hb dX6_told_215 hl (k := 3) rfl (iz_add nw 1) (by decide) rfl (fun ls hl => ?_)
                            refine lv_iinc (v := iz (ev + 1)) (lv' := [(7, .int (iz (ev + 1))), (3, .int (iz (nw + 1))), (5, .int (iz ev)), (4, .int (iz 3)), (8, .int (iz kv)), (6, .int (iz mw)), (0, .ref mo), (1, .int (iz p0)), (2, .int (iz p1))]) hx hb dX6_told_218 hl (k := 5) rfl (iz_add ev 1) (by decide) rfl (fun ls hl => ?_)
                            refine lv_goto (tgt := 18) hx hb dX6_told_221 (by decide) ?_
                            exact ih18 (nw + 1) 3 ev mw (ev + 1) ⟨by omega, by omega, by omega, by omega, by omega⟩ (by omega) _ _ hP hD hS ls (lv_sub hl [0, 5, 2, 3, 1, 6, 7, 8] rfl)
                    · skip
                      have hse9 := hI6.hse ev kv (by omega) (by omega) (by omega) (by omega)
                      refine lv_aload_n hx hb dX6_told_101 rfl (lv_at hl 6 rfl) ?_
                      refine va_get (D := (dC, dI)) (ci := 6) (v := .ref (ma 12)) (C := RX6) (T := TX6) (N := 44) hx hb hts kt_X6 hown hK hP 0 rfl rfl 12 (by decide) (kx_word hG kq_04_msmall_39 rfl) (fun _ h9 => h9) rfl dX6_told_102 ?_
                      refine lv_iconst (v := iz 5) hx hb dX6_told_105 (by decide) ?_
                      refine lv_iload hx hb dX6_told_106 (lv_at hl 5 rfl) ?_
                      refine ki_imul hx hb dX6_told_108 ?_
                      refine lv_iload hx hb dX6_told_109 (lv_at hl 0 rfl) ?_
                      refine ki_iadd hx hb dX6_told_111 ?_
                      refine ki_iald (F := F_4 12) hx hb hK hP 11 10 rfl rfl (by omega) (by omega) (by decide) dX6_told_112 ?_
                      have hbd_117 := hI6.hB.2 12 ((5 * ev) + kv)
                      refine lv_istore (lv' := [(9, .int (iz (F_4 12 ((5 * ev) + kv)))), (8, .int (iz kv)), (3, .int (iz nw)), (6, .int (iz mw)), (5, .int (iz aw)), (4, .int (iz kw)), (7, .int (iz ev)), (0, .ref mo), (1, .int (iz p0)), (2, .int (iz p1))]) hx hb dX6_told_113 hl (by decide) rfl (fun ls hl => ?_)
                      refine lv_aload_n hx hb dX6_told_115 rfl (lv_at hl 7 rfl) ?_
                      refine lv_aload_n hx hb dX6_told_116 rfl (lv_at hl 7 rfl) ?_
                      refine va_get (D := (dC, dI)) (ci := 6) (v := .ref (ma 17)) (C := RX6) (T := TX6) (N := 44) hx hb hts kt_X6 hown hK hP 0 rfl rfl 17 (by decide) (kx_word hG kq_06_mway_15 rfl) (fun _ h9 => h9) rfl dX6_told_117 ?_
                      have hsm9 := hsmL (F_4 12 ((5 * ev) + kv)) (by omega) (by omega)
                      refine lv_iload hx hb dX6_told_120 (lv_at hl 0 rfl) ?_
                      refine ki_iald (F := F_4 17) hx hb hK hP 13 12 rfl rfl (by omega) (by omega) (by decide) dX6_told_122 ?_
                      have hbd_118 := hI6.hB.2 17 (F_4 12 ((5 * ev) + kv))
                      refine mk_calli (As := [.int (iz (F_4 17 (F_4 12 ((5 * ev) + kv))))]) (rest := []) ⟨hx, hb, hml, hown, hts⟩ (k_hasPage l dC dI mo ma cs I_3 F_4 (F_4 17 (F_4 12 ((5 * ev) + kv))) H.size hI6.hB hI6.hc hI6.hln (by omega) (by omega)) (cwV 1 hts (kx_gV kq_08_mgather_9 kq_08_mgather_10 kq_08_mgather_11 kq_04_msmall_6 kq_08_mgather_12 rfl) rfl rfl rfl (by decide +kernel) ⟨Nat.le_of_ble_eq_true rfl, Nat.le_of_ble_eq_true rfl⟩) hP hD hK hG hZ hS hA rfl hl.1 rfl (Nat.le_of_ble_eq_true rfl) dX6_told_123 ⟨Nat.le_of_ble_eq_true rfl, Nat.le_of_ble_eq_true rfl⟩ (fun z_119 I_121 F_122 H locs hq_120 hP hD hS => ?_)
                      try dsimp only at hq_120
                      obtain ⟨rfl, rfl, hq_120⟩ := hq_120
                      refine ki_if_ne (tgt := 173) hx hb dX6_told_126 (by decide) (by omega) (by omega) (fun c_123 => ?_) (fun c_123 => ?_)
                      · skip
                        refine lv_iinc (v := iz (kv + 1)) (lv' := [(8, .int (iz (kv + 1))), (9, .int (iz (F_4 12 ((5 * ev) + kv)))), (3, .int (iz nw)), (6, .int (iz mw)), (5, .int (iz aw)), (4, .int (iz kw)), (7, .int (iz ev)), (0, .ref mo), (1, .int (iz p0)), (2, .int (iz p1))]) hx hb dX6_told_173 hl (k := 1) rfl (iz_add kv 1) (by decide) rfl (fun ls hl => ?_)
                        refine lv_goto (tgt := 89) hx hb dX6_told_176 (by decide) ?_
                        exact ih89 nw kw aw mw (kv + 1) ⟨by omega, by omega, by omega, by omega, by omega⟩ (by omega) _ _ hP hD hS ls (lv_sub hl [0, 2, 3, 4, 5, 6, 7, 8, 9] rfl)
                      · skip
                        refine lv_iload_n hx hb dX6_told_129 rfl (lv_at hl 2 rfl) ?_
                        refine lv_iload_n hx hb dX6_told_130 rfl (lv_at hl 8 rfl) ?_
                        refine ki_icmp_ne (tgt := 138) hx hb dX6_told_131 (by decide) (by omega) (by omega) (by omega) (by omega) (fun c_124 => ?_) (fun c_124 => ?_)
                        · skip
                          refine lv_iload hx hb dX6_told_138 (lv_at hl 5 rfl) ?_
                          refine lv_istore (lv' := [(4, .int (iz kw)), (9, .int (iz (F_4 12 ((5 * ev) + kv)))), (8, .int (iz kv)), (3, .int (iz nw)), (6, .int (iz mw)), (5, .int (iz aw)), (7, .int (iz ev)), (0, .ref mo), (1, .int (iz p0)), (2, .int (iz p1))]) hx hb dX6_told_140 hl (by decide) rfl (fun ls hl => ?_)
                          refine lv_iload_n hx hb dX6_told_142 rfl (lv_at hl 3 rfl) ?_
                          refine lv_iload_n hx hb dX6_told_143 rfl (lv_at hl 8 rfl) ?_
                          refine ki_icmp_ne (tgt := 152) hx hb dX6_told_144 (by decide) (by omega) (by omega) (by omega) (by omega) (fun c_125 => ?_) (fun c_125 => ?_)
                          · skip
                            refine lv_iload hx hb dX6_told_152 (lv_at hl 5 rfl) ?_
                            refine lv_istore (lv' := [(5, .int (iz aw)), (4, .int (iz kw)), (9, .int (iz (F_4 12 ((5 * ev) + kv)))), (8, .int (iz kv)), (3, .int (iz nw)), (6, .int (iz mw)), (7, .int (iz ev)), (0, .ref mo), (1, .int (iz p0)), (2, .int (iz p1))]) hx hb dX6_told_154 hl (by decide) rfl (fun ls hl => ?_)
                            refine lv_iload_n hx hb dX6_told_156 rfl (lv_at hl 4 rfl) ?_
                            refine lv_iload_n hx hb dX6_told_157 rfl (lv_at hl 8 rfl) ?_
                            refine ki_icmp_ne (tgt := 166) hx hb dX6_told_158 (by decide) (by omega) (by omega) (by omega) (by omega) (fun c_126 => ?_) (fun c_126 => ?_)
                            · skip
                              refine lv_iload hx hb dX6_told_166 (lv_at hl 5 rfl) ?_
                              refine lv_istore (lv' := [(6, .int (iz mw)), (5, .int (iz aw)), (4, .int (iz kw)), (9, .int (iz (F_4 12 ((5 * ev) + kv)))), (8, .int (iz kv)), (3, .int (iz nw)), (7, .int (iz ev)), (0, .ref mo), (1, .int (iz p0)), (2, .int (iz p1))]) hx hb dX6_told_168 hl (by decide) rfl (fun ls hl => ?_)
                              refine lv_iinc (v := iz (nw + 1)) (lv' := [(3, .int (iz (nw + 1))), (6, .int (iz mw)), (5, .int (iz aw)), (4, .int (iz kw)), (9, .int (iz (F_4 12 ((5 * ev) + kv)))), (8, .int (iz kv)), (7, .int (iz ev)), (0, .ref mo), (1, .int (iz p0)), (2, .int (iz p1))]) hx hb dX6_told_170 hl (k := 5) rfl (iz_add nw 1) (by decide) rfl (fun ls hl => ?_)
                              refine lv_iinc (v := iz (kv + 1)) (lv' := [(8, .int (iz (kv + 1))), (3, .int (iz (nw + 1))), (6, .int (iz mw)), (5, .int (iz aw)), (4, .int (iz kw)), (9, .int (iz (F_4 12 ((5 * ev) + kv)))), (7, .int (iz ev)), (0, .ref mo), (1, .int (iz p0)), (2, .int (iz p1))]) hx hb dX6_told_173 hl (k := 5) rfl (iz_add kv 1) (by decide) rfl (fun ls hl => ?_)
                              refine lv_goto (tgt := 89) hx hb dX6_told_176 (by decide) ?_
                              exact ih89 (nw + 1) kw aw mw (kv + 1) ⟨by omega, by omega, by omega, by omega, by omega⟩ (by omega) _ _ hP hD hS ls (lv_sub hl [0, 1, 2, 3, 4, 6, 7, 8, 9] rfl)
                            · omega
                          · omega
                        · skip
                          refine lv_iconst (v := iz 2) hx hb dX6_told_134 (by decide) ?_
                          refine lv_goto (tgt := 140) hx hb dX6_told_135 (by decide) ?_
                          refine lv_istore (lv' := [(4, .int (iz 2)), (9, .int (iz (F_4 12 ((5 * ev) + kv)))), (8, .int (iz kv)), (3, .int (iz nw)), (6, .int (iz mw)), (5, .int (iz aw)), (7, .int (iz ev)), (0, .ref mo), (1, .int (iz p0)), (2, .int (iz p1))]) hx hb dX6_told_140 hl (by decide) rfl (fun ls hl => ?_)
                          refine lv_iload_n hx hb dX6_told_142 rfl (lv_at hl 3 rfl) ?_
                          refine lv_iload_n hx hb dX6_told_143 rfl (lv_at hl 8 rfl) ?_
                          refine ki_icmp_ne (tgt := 152) hx hb dX6_told_144 (by decide) (by omega) (by omega) (by omega) (by omega) (fun c_127 => ?_) (fun c_127 => ?_)
                          · omega
                          · skip
                            refine lv_iload hx hb dX6_told_147 (lv_at hl 6 rfl) ?_
                            refine lv_goto (tgt := 154) hx hb dX6_told_149 (by decide) ?_
                            refine lv_istore (lv' := [(5, .int (iz ev)), (4, .int (iz 2)), (9, .int (iz (F_4 12 ((5 * ev) + kv)))), (8, .int (iz kv)), (3, .int (iz nw)), (6, .int (iz mw)), (7, .int (iz ev)), (0, .ref mo), (1, .int (iz p0)), (2, .int (iz p1))]) hx hb dX6_told_154 hl (by decide) rfl (fun ls hl => ?_)
                            refine lv_iload_n hx hb dX6_told_156 rfl (lv_at hl 4 rfl) ?_
                            refine lv_iload_n hx hb dX6_told_157 rfl (lv_at hl 8 rfl) ?_
                            refine ki_icmp_ne (tgt := 166) hx hb dX6_told_158 (by decide) (by omega) (by omega) (by omega) (by omega) (fun c_128 => ?_) (fun c_128 => ?_)
                            · omega
                            · skip
                              refine lv_iload hx hb dX6_told_161 (lv_at hl 2 rfl) ?_
                              refine lv_goto (tgt := 168) hx hb dX6_told_163 (by decide) ?_
                              refine lv_istore (lv' := [(6, .int (iz (F_4 12 ((5 * ev) + kv)))), (5, .int (iz ev)), (4, .int (iz 2)), (9, .int (iz (F_4 12 ((5 * ev) + kv)))), (8, .int (iz kv)), (3, .int (iz nw)), (7, .int (iz ev)), (0, .ref mo), (1, .int (iz p0)), (2, .int (iz p1))]) hx hb dX6_told_168 hl (by decide) rfl (fun ls hl => ?_)
                              refine lv_iinc (v := iz (nw + 1)) (lv' := [(3, .int (iz (nw + 1))), (6, .int (iz (F_4 12 ((5 * ev) + kv)))), (5, .int (iz ev)), (4, .int (iz 2)), (9, .int (iz (F_4 12 ((5 * ev) + kv)))), (8, .int (iz kv)), (7, .int (iz ev)), (0, .ref mo), (1, .int (iz p0)), (2, .int (iz p1))]) hx hb dX6_told_170 hl (k := 5) rfl (iz_add nw 1) (by decide) rfl (fun ls hl => ?_)
                              refine lv_iinc (v := iz (kv + 1)) (lv' := [(8, .int (iz (kv + 1))), (3, .int (iz (nw + 1))), (6, .int (iz (F_4 12 ((5 * ev) + kv)))), (5, .int (iz ev)), (4, .int (iz 2)), (9, .int (iz (F_4 12 ((5 * ev) + kv)))), (7, .int (iz ev)), (0, .ref mo), (1, .int (iz p0)), (2, .int (iz p1))]) hx hb dX6_told_173 hl (k := 5) rfl (iz_add kv 1) (by decide) rfl (fun ls hl => ?_)
                              refine lv_goto (tgt := 89) hx hb dX6_told_176 (by decide) ?_
                              exact ih89 (nw + 1) 2 ev (F_4 12 ((5 * ev) + kv)) (kv + 1) ⟨by omega, by omega, by omega, by omega, by omega⟩ (by omega) _ _ hP hD hS ls (lv_sub hl [0, 1, 2, 3, 4, 6, 7, 8, 9] rfl)
                exact lp89 _ (nv + 1) 1 ev (F_4 11 ev) 0 ⟨by omega, by omega, by omega, by omega, by omega⟩ (Nat.lt_succ_self _) _ _ hP hD hS ls (lv_sub hl [0, 1, 2, 3, 4, 5, 6, 7, 8] rfl)
  exact lp18 _ 0 0 0 0 0 ⟨by omega, by omega, by omega, by omega, by omega⟩ (Nat.lt_succ_self _) _ _ hP hD hS ls (lv_sub hl [0, 1, 2, 3, 4, 5, 6, 7] rfl)
set_option maxHeartbeats 4000000 in
set_option maxRecDepth 100000 in
theorem k_print2 (l : Launch) (dC : Nat → ClassId) (dI : Nat → Nat → Nat) (mo : Nat) (ma : Nat → Nat) (cs : Nat → ClassId) (I : Nat → Int) (F : Nat → Int → Int) (sz : Nat) (hI : mIv I F) (hKb : mKb I F) : mMi l yX6_print (.code yX6_print cX6_print 5 (some .int)) 6 136 dC dI mo ma cs I F [.ref mo] sz (fun (r : Int) (I' : Nat → Int) (F' : Nat → Int → Int) => mWk I F I' F' ∧ mKb I' F') := by
  refine Met.ofW (cc := cX6_print) (maxL := 5) (ret := (some .int)) (by decide) rfl ?_
  intro p e s m args below meth c s₁ B hml hv
  obtain ⟨rfl, hsz, hP, hK, hD0, hG, hZ⟩ := hv
  have hx := B.exec
  have hb := B.bytes
  have hr := B.returns
  have hts := kx_hts (a := ([.ref mo] : List Value).toArray) hG
  have hown : s.vm.findClass RX6 = some m.cls := findClass_of_methodNamed B.named
  have hlocks := B.notSynchronized
  subst hsz
  have hD := hD0.self (sz := s.heap.size)
  generalize hAe : va_A (mW mo ma cs I F) s.heap.size = A at hD hZ ⊢
  have hA : ∀ q : Nat, s.heap.size ≤ q → A q := fun q h => by rw [← hAe]; exact Or.inr h
  have hS : va_S A s.heap s.heap [] := va_S.rf
  have hl := lv_entry ([.ref mo]) (n := 5) (Nat.le_of_ble_eq_true rfl)
  rw [lg_entry_eq]
  generalize (lg_sl ([.ref mo]) ++ List.replicate (5 - (lg_sl ([.ref mo])).length) Slot.unset).toArray = ls at hl ⊢
  have hl : lv_has ls 5 [(0, .ref mo)] := hl
  generalize hQe : MQ below (mQi dC dI mo ma cs A (fun (r : Int) (I' : Nat → Int) (F' : Nat → Int → Int) => mWk I F I' F' ∧ mKb I' F')) ([.ref mo] : List Value).toArray s 0 0 A = QQ
  have hW0 : mWk I F I F := mWk.rf hI
  have hc0 := hI.hc
  refine lv_aload_n hx hb dX6_print_0 rfl (lv_at hl 0 rfl) ?_
  refine mk_calli (As := []) (rest := []) ⟨hx, hb, hml, hown, hts⟩ (k_findFault l dC dI mo ma cs I F  s.heap.size hI.hB hI.hst) (cwV 0 hts (kx_gV kq_11_mask_8 kq_11_mask_9 kq_11_mask_10 kq_04_msmall_6 kq_11_mask_11 rfl) rfl rfl rfl (by decide +kernel) ⟨Nat.le_of_ble_eq_true rfl, Nat.le_of_ble_eq_true rfl⟩) hP hD hK hG hZ hS hA rfl hl.1 rfl (Nat.le_of_ble_eq_true rfl) dX6_print_1 ⟨Nat.le_of_ble_eq_true rfl, Nat.le_of_ble_eq_true rfl⟩ (fun z_1 I_3 F_4 H locs hq_2 hP hD hS => ?_)
  try dsimp only at hq_2
  have hkb5 : mKb I_3 F_4 := (by have h9 := hq_2.2.2.1; rw [← hq_2.1]; exact hKb.fr h9 (by decide) (by decide))
  have hk6 : mWk I F I_3 F_4 ∧ _ := mWk.ff hI hq_2.1 hq_2.2.1 hq_2.2.2.1
  have hI6 : mIv I_3 F_4 := hI.go hk6.1
  have hw6 : mWk _ _ I_3 F_4 := hW0.tr hk6.1
  have e166 := hk6.2.1
  have e196 := hk6.2.2
  have hc6 := hI6.hc
  have hx6a := hk6.1.2.1.1 1 (by decide)
  have hrf := hq_2.2.2.2.1
  have hbr0 : z_1 = -1 → mBr 4 I_3 F_4 := fun h9 => by have h8 := hq_2.2.2.2.2 h9; rw [← hq_2.1]; exact h8
  refine lv_istore_n (lv' := [(1, .int (iz z_1)), (0, .ref mo)]) hx hb dX6_print_4 rfl hl (by decide) rfl (fun ls hl => ?_)
  refine lv_iload_n hx hb dX6_print_5 rfl (lv_at hl 0 rfl) ?_
  refine lv_iconst (v := iz (-1)) hx hb dX6_print_6 (by decide) ?_
  refine ki_icmp_eq (tgt := 19) hx hb dX6_print_7 (by decide) (by omega) (by omega) (by omega) (by omega) (fun c_7 => ?_) (fun c_7 => ?_)
  · skip
    have hbr1 := hbr0 (by omega)
    refine lv_aload_n hx hb dX6_print_19 rfl (lv_at hl 1 rfl) ?_
    refine mk_callv (As := []) (rest := []) ⟨hx, hb, hml, hown, hts⟩ (k_look2 l dC dI mo ma cs I_3 F_4  H.size hI6.hB hI6.hc hI6.hn hI6.hlv hI6.hkn hI6.hk01 hkb5.2 hkb5.1.1 hkb5.1.2.1 hkb5.1.2.2.1 hkb5.1.2.2.2) (cwV 0 hts (kx_gV kq_11_mask_0 kq_11_mask_1 kq_11_mask_2 kq_04_msmall_6 kq_11_mask_3 rfl) rfl rfl rfl (by decide +kernel) ⟨Nat.le_of_ble_eq_true rfl, Nat.le_of_ble_eq_true rfl⟩) hP hD hK hG hZ hS hA rfl hl.1 rfl (Nat.le_of_ble_eq_true rfl) dX6_print_20 ⟨Nat.le_of_ble_eq_true rfl, Nat.le_of_ble_eq_true rfl⟩ (fun I_10 F_11 H locs hq_9 hP hD hS => ?_)
    try dsimp only at hq_9
    obtain ⟨hq_9, hkr12⟩ := hq_9
    have hkb12 : mKb I_10 F_11 := hkb5.look hq_9.2.1 (by decide) hkr12
    have hk13 : mWk I_3 F_4 I_10 F_11 := mWk.look hI6 hq_9
    have hI13 : mIv I_10 F_11 := hI6.go hk13
    have hw13 : mWk _ _ I_10 F_11 := hw6.tr hk13
    have e1613 : I_10 16 = 1 := hq_9.2.2.1
    have hc13 := hI13.hc
    obtain ⟨hsmL, hszL, hrwL⟩ := hI13.hkn (by omega)
    have hbr13 : mBr 4 I_10 F_11 := hbr1.eq (hq_9.2.1.1 37 (by decide)) (hq_9.2.1.2 38 (by decide))
    refine lv_aload_n hx hb dX6_print_23 rfl (lv_at hl 1 rfl) ?_
    refine lv_iconst (v := iz 0) hx hb dX6_print_24 (by decide) ?_
    refine va_put (D := (dC, dI)) (ci := 6) (v := .int (iz 0)) (ty := .int) (C := RX6) (T := TX6) (N := 44) hx hb hts kt_X6 tyX6 tyX6_ok nmX6 hown hK hP hD hS 0 rfl rfl 42 (by decide) (kx_word hG kq_09_mput_9 rfl) (fun _ h9 => h9) rfl (by decide +kernel) rfl rfl (Nat.le_of_ble_eq_true rfl) dX6_print_25 (fun H locs hP hD hS => ?_)
    have hP : va_P (dC, dI) kxCl (mW mo ma cs (va_up I_10 42 0) F_11) H := hP
    have hD : va_D A (mW mo ma cs (va_up I_10 42 0) F_11) := hD
    refine lv_aload_n hx hb dX6_print_28 rfl (lv_at hl 1 rfl) ?_
    refine lv_iconst (v := iz 0) hx hb dX6_print_29 (by decide) ?_
    refine va_put (D := (dC, dI)) (ci := 6) (v := .int (iz 0)) (ty := .boolean) (C := RX6) (T := TX6) (N := 44) hx hb hts kt_X6 tyX6 tyX6_ok nmX6 hown hK hP hD hS 0 rfl rfl 43 (by decide) (kx_word hG kq_09_mput_11 rfl) (fun _ h9 => h9) rfl (by decide +kernel) (mz_bool (Or.inl rfl)).1 (mz_bool (Or.inl rfl)).2 (Nat.le_of_ble_eq_true rfl) dX6_print_30 (fun H locs hP hD hS => ?_)
    have hP : va_P (dC, dI) kxCl (mW mo ma cs (va_up (va_up I_10 42 0) 43 0) F_11) H := hP
    have hD : va_D A (mW mo ma cs (va_up (va_up I_10 42 0) 43 0) F_11) := hD
    refine lv_iconst (v := iz (-1)) hx hb dX6_print_33 (by decide) ?_
    refine lv_istore_n (lv' := [(2, .int (iz (-1))), (1, .int (iz z_1)), (0, .ref mo)]) hx hb dX6_print_34 rfl hl (by decide) rfl (fun ls hl => ?_)
    refine lv_iconst (v := iz 0) hx hb dX6_print_35 (by decide) ?_
    refine lv_istore_n (lv' := [(3, .int (iz 0)), (2, .int (iz (-1))), (1, .int (iz z_1)), (0, .ref mo)]) hx hb dX6_print_36 rfl hl (by decide) rfl (fun ls hl => ?_)
    have hk14 : mWk _ _ (va_up I_10 42 0) F_11 ∧ _ := mWk.u42 hI13
    have hI14 : mIv (va_up I_10 42 0) F_11 := hI13.go hk14.1
    have hw14 : mWk _ _ (va_up I_10 42 0) F_11 := hw13.tr hk14.1
    have e1614 : (va_up I_10 42 0) 16 = _ := hk14.2.1
    have e1914 : (va_up I_10 42 0) 19 = _ := hk14.2.2
    have e114 : (va_up I_10 42 0) 1 = _ := hk14.1.2.1.1 1 (by decide)
    have hbr14 : mBr 4 (va_up I_10 42 0) F_11 := hbr13.eq rfl rfl
    have hk15 : mWk _ _ (va_up (va_up I_10 42 0) 43 0) F_11 ∧ _ := mWk.u43 hI14
    have hI15 : mIv (va_up (va_up I_10 42 0) 43 0) F_11 := hI14.go hk15.1
    have hw15 : mWk _ _ (va_up (va_up I_10 42 0) 43 0) F_11 := hw14.tr hk15.1
    have e1615 : (va_up (va_up I_10 42 0) 43 0) 16 = _ := hk15.2.1
    have e1915 : (va_up (va_up I_10 42 0) 43 0) 19 = _ := hk15.2.2
    have e115 : (va_up (va_up I_10 42 0) 43 0) 1 = _ := hk15.1.2.1.1 1 (by decide)
    have hbr15 : mBr 4 (va_up (va_up I_10 42 0) 43 0) F_11 := hbr14.eq rfl rfl
    have hkb16 : mKb (va_up I_10 42 0) F_11 := hkb12.ui 42 (by decide) _
    have hkb17 : mKb (va_up (va_up I_10 42 0) 43 0) F_11 := hkb16.ui 43 (by decide) _
    have lp37 : ∀ (n : Nat) (gv iv : Int) (J : Nat → Int) (G : Nat → Int → Int), ((mIv J G) ∧ (mWk I F J G) ∧ (J 16 = 1) ∧ (mBr 4 J G) ∧ (-2147483648 ≤ gv ∧ gv < 2147483648) ∧ (0 ≤ iv ∧ iv ≤ 64) ∧ (mKb J G)) → (J 19 - iv).toNat < n → ∀ (H : Heap) (locs : List Loc), va_P (dC, dI) kxCl (mW mo ma cs J G) H → va_D A (mW mo ma cs J G) → va_S A s.heap H locs → ∀ ls : Array Slot, lv_has ls 5 [(3, .int (iz iv)), (2, .int (iz gv)), (1, .int (iz z_1)), (0, .ref mo)] → W p l e (headSpec [.code yX6_print cX6_print 5 (some .int)] ({ frames := 6, cells := 0, slots := 0, locals := 136 })).room s m ([.ref mo] : List Value).toArray below meth c H locs 0 0 QQ (F0 m 37 ls []) := by
      intro n
      induction n with
      | zero => intro gv iv J G hinv hm; exact absurd hm (Nat.not_lt_zero _)
      | succ n ih37 =>
        intro gv iv J G hinv hm H locs hP hD hS ls hl
        obtain ⟨hIJ, hwJ, h16, hbJ, hgv, hiv, hbK⟩ := hinv
        obtain ⟨hsmJ, hszJ, hrwJ⟩ := hIJ.hkn h16
        have hcJ := hIJ.hc
        refine lv_iload_n hx hb dX6_print_37 rfl (lv_at hl 0 rfl) ?_
        refine lv_aload_n hx hb dX6_print_38 rfl (lv_at hl 3 rfl) ?_
        refine va_get (D := (dC, dI)) (ci := 6) (v := .int (iz (J 19))) (C := RX6) (T := TX6) (N := 44) hx hb hts kt_X6 hown hK hP 0 rfl rfl 19 (by decide) (kx_word hG kq_07_mlook_0 rfl) (fun _ h9 => h9) rfl dX6_print_39 ?_
        have hbd_18 := hIJ.hB.1 19
        refine ki_icmp_ge (tgt := 108) hx hb dX6_print_42 (by decide) (by omega) (by omega) (by omega) (by omega) (fun c_19 => ?_) (fun c_19 => ?_)
        · skip
          refine lv_aload_n hx hb dX6_print_108 rfl (lv_at hl 3 rfl) ?_
          refine lv_aload_n hx hb dX6_print_109 rfl (lv_at hl 3 rfl) ?_
          refine va_get (D := (dC, dI)) (ci := 6) (v := .int (iz (J 43))) (C := RX6) (T := TX6) (N := 44) hx hb hts kt_X6 hown hK hP 0 rfl rfl 43 (by decide) (kx_word hG kq_09_mput_11 rfl) (fun _ h9 => h9) rfl dX6_print_110 ?_
          have hbd_20 := hIJ.hB.1 43
          have ho9 : J 43 = 0 ∨ J 43 = 1 := hIJ.hps.1.2.2
          rcases ho9 with ho9 | ho9
          · refine ki_is (show iz (J 43) = iz 0 by rw [ho9]) ?_
            refine lv_iconst (v := iz 0) hx hb dX6_print_113 (by decide) ?_
            refine lv_iconst (v := iz 0) hx hb dX6_print_114 (by decide) ?_
            refine mk_calli (As := [.int (iz 0), .int (iz 0), .int (iz 0)]) (rest := []) ⟨hx, hb, hml, hown, hts⟩ (k_refused0 l dC dI mo ma cs J G  H.size ) (cwV 3 hts (kx_gV kq_04_msmall_8 kq_04_msmall_9 kq_04_msmall_10 kq_04_msmall_6 kq_04_msmall_11 rfl) rfl rfl rfl (by decide +kernel) ⟨Nat.le_of_ble_eq_true rfl, Nat.le_of_ble_eq_true rfl⟩) hP hD hK hG hZ hS hA rfl hl.1 rfl (Nat.le_of_ble_eq_true rfl) dX6_print_115 ⟨Nat.le_of_ble_eq_true rfl, Nat.le_of_ble_eq_true rfl⟩ (fun z_21 I_23 F_24 H locs hq_22 hP hD hS => ?_)
            try dsimp only at hq_22
            obtain ⟨rfl, rfl, rfl⟩ := hq_22
            refine ki_if_eq (tgt := 123) hx hb dX6_print_118 (by decide) (by omega) (by omega) (fun c_25 => ?_) (fun c_25 => ?_)
            · skip
              refine lv_iconst (v := iz 0) hx hb dX6_print_123 (by decide) ?_
              refine lv_istore_n (lv' := [(3, .int (iz 0)), (2, .int (iz gv)), (1, .int (iz z_1)), (0, .ref mo)]) hx hb dX6_print_124 rfl hl (by decide) rfl (fun ls hl => ?_)
              have hk26 : mWk _ _ (va_up J 0 0) G ∧ _ := mWk.thr hIJ (v := 0) (by omega)
              have hI26 : mIv (va_up J 0 0) G := hIJ.go hk26.1
              have hw26 : mWk _ _ (va_up J 0 0) G := hwJ.tr hk26.1
              have e1626 : (va_up J 0 0) 16 = _ := hk26.2.1
              have e1926 : (va_up J 0 0) 19 = _ := hk26.2.2
              have e126 : (va_up J 0 0) 1 = _ := hk26.1.2.1.1 1 (by decide)
              have hbr26 : mBr 4 (va_up J 0 0) G := hbJ.eq rfl rfl
              have hkb27 : mKb (va_up J 0 0) G := hbK.ui 0 (by decide) _
              have lp125 : ∀ (n : Nat) (kv : Int) (G1 : Nat → Int → Int), ((mIv (va_up J 0 0) G1) ∧ (mWk I F (va_up J 0 0) G1) ∧ (0 ≤ kv ∧ kv ≤ 6000) ∧ (mKb (va_up J 0 0) G1)) → ((va_up J 0 0) 42 - kv).toNat < n → ∀ (H : Heap) (locs : List Loc), va_P (dC, dI) kxCl (mW mo ma cs (va_up J 0 0) G1) H → va_D A (mW mo ma cs (va_up J 0 0) G1) → va_S A s.heap H locs → ∀ ls : Array Slot, lv_has ls 5 [(3, .int (iz kv)), (2, .int (iz gv)), (1, .int (iz z_1)), (0, .ref mo)] → W p l e (headSpec [.code yX6_print cX6_print 5 (some .int)] ({ frames := 6, cells := 0, slots := 0, locals := 136 })).room s m ([.ref mo] : List Value).toArray below meth c H locs 0 0 QQ (F0 m 125 ls []) := by
                intro n
                induction n with
                | zero => intro kv G1 hinv hm; exact absurd hm (Nat.not_lt_zero _)
                | succ n ih125 =>
                  intro kv G1 hinv hm H locs hP hD hS ls hl
                  obtain ⟨hIG, hwG, hkv, hbG⟩ := hinv
                  have hd9 := hIG.hps.1
                  have hd9a : 0 ≤ (va_up J 0 0) 42 := hd9.1
                  have hd9b : (va_up J 0 0) 42 ≤ 6000 := hd9.2.1
                  refine lv_iload_n hx hb dX6_print_125 rfl (lv_at hl 0 rfl) ?_
                  refine lv_aload_n hx hb dX6_print_126 rfl (lv_at hl 3 rfl) ?_
                  refine va_get (D := (dC, dI)) (ci := 6) (v := .int (iz ((va_up J 0 0) 42))) (C := RX6) (T := TX6) (N := 44) hx hb hts kt_X6 hown hK hP 0 rfl rfl 42 (by decide) (kx_word hG kq_09_mput_9 rfl) (fun _ h9 => h9) rfl dX6_print_127 ?_
                  have hbd_28 := hIG.hB.1 42
                  refine ki_icmp_ge (tgt := 151) hx hb dX6_print_130 (by decide) (by omega) (by omega) (by omega) (by omega) (fun c_29 => ?_) (fun c_29 => ?_)
                  · skip
                    refine lv_aload_n hx hb dX6_print_151 rfl (lv_at hl 3 rfl) ?_
                    refine lv_aload_n hx hb dX6_print_152 rfl (lv_at hl 3 rfl) ?_
                    refine va_get (D := (dC, dI)) (ci := 6) (v := .int (iz ((va_up J 0 0) 42))) (C := RX6) (T := TX6) (N := 44) hx hb hts kt_X6 hown hK hP 0 rfl rfl 42 (by decide) (kx_word hG kq_09_mput_9 rfl) (fun _ h9 => h9) rfl dX6_print_153 ?_
                    refine va_put (D := (dC, dI)) (ci := 6) (v := .int (iz ((va_up J 0 0) 42))) (ty := .int) (C := RX6) (T := TX6) (N := 44) hx hb hts kt_X6 tyX6 tyX6_ok nmX6 hown hK hP hD hS 0 rfl rfl 40 (by decide) (kx_word hG kq_11_mask_12 rfl) (fun _ h9 => h9) rfl (by decide +kernel) rfl rfl (Nat.le_of_ble_eq_true rfl) dX6_print_156 (fun H locs hP hD hS => ?_)
                    have hP : va_P (dC, dI) kxCl (mW mo ma cs (va_up (va_up J 0 0) 40 ((va_up J 0 0) 42)) G1) H := hP
                    have hD : va_D A (mW mo ma cs (va_up (va_up J 0 0) 40 ((va_up J 0 0) 42)) G1) := hD
                    refine lv_aload_n hx hb dX6_print_159 rfl (lv_at hl 3 rfl) ?_
                    refine va_get (D := (dC, dI)) (ci := 6) (v := .int (iz ((va_up J 0 0) 42))) (C := RX6) (T := TX6) (N := 44) hx hb hts kt_X6 hown hK hP 0 rfl rfl 40 (by decide) (kx_word hG kq_11_mask_12 rfl) (fun _ h9 => h9) rfl dX6_print_160 ?_
                    have hk30 : mWk _ _ (va_up (va_up J 0 0) 40 ((va_up J 0 0) 42)) G1 ∧ _ := mWk.u40 hIG
                    have hI30 : mIv (va_up (va_up J 0 0) 40 ((va_up J 0 0) 42)) G1 := hIG.go hk30.1
                    have hw30 : mWk _ _ (va_up (va_up J 0 0) 40 ((va_up J 0 0) 42)) G1 := hwG.tr hk30.1
                    have e1630 : (va_up (va_up J 0 0) 40 ((va_up J 0 0) 42)) 16 = _ := hk30.2.1
                    have e1930 : (va_up (va_up J 0 0) 40 ((va_up J 0 0) 42)) 19 = _ := hk30.2.2
                    have e130 : (va_up (va_up J 0 0) 40 ((va_up J 0 0) 42)) 1 = _ := hk30.1.2.1.1 1 (by decide)
                    have hkb31 : mKb (va_up (va_up J 0 0) 40 ((va_up J 0 0) 42)) G1 := hbG.ui 40 (by decide) _
                    rw [← hQe]
                    exact mk_ireti hx hb hr hlocks hP hD hK hS dX6_print_163 (⟨hw30, hkb31⟩)
                  · skip
                    refine lv_aload_n hx hb dX6_print_133 rfl (lv_at hl 3 rfl) ?_
                    refine va_get (D := (dC, dI)) (ci := 6) (v := .ref (ma 39)) (C := RX6) (T := TX6) (N := 44) hx hb hts kt_X6 hown hK hP 0 rfl rfl 39 (by decide) (kx_word hG kq_11_mask_13 rfl) (fun _ h9 => h9) rfl dX6_print_134 ?_
                    refine lv_iload_n hx hb dX6_print_137 rfl (lv_at hl 0 rfl) ?_
                    refine lv_aload_n hx hb dX6_print_138 rfl (lv_at hl 3 rfl) ?_
                    refine va_get (D := (dC, dI)) (ci := 6) (v := .ref (ma 41)) (C := RX6) (T := TX6) (N := 44) hx hb hts kt_X6 hown hK hP 0 rfl rfl 41 (by decide) (kx_word hG kq_09_mput_10 rfl) (fun _ h9 => h9) rfl dX6_print_139 ?_
                    refine lv_iload_n hx hb dX6_print_142 rfl (lv_at hl 0 rfl) ?_
                    refine ki_bald (F := G1 41) hx hb hK hP 28 27 rfl rfl (by omega) (by omega) (by decide) dX6_print_143 ?_
                    have hbd_32 := hIG.hB.2 41 kv
                    refine ki_bast (F := G1 39) hx hb hK hP hD hS 27 26 rfl rfl (by omega) (by omega) (by decide) dX6_print_144 (fun H locs hP hD hS => ?_)
                    have hP : va_P (dC, dI) kxCl (mW mo ma cs (va_up J 0 0) (va_up G1 39 (upI (G1 39) kv (vp_nar .byte (iz (G1 41 kv))).toInt))) H := hP
                    have hD : va_D A (mW mo ma cs (va_up J 0 0) (va_up G1 39 (upI (G1 39) kv (vp_nar .byte (iz (G1 41 kv))).toInt))) := hD
                    refine lv_iinc (v := iz (kv + 1)) (lv' := [(3, .int (iz (kv + 1))), (2, .int (iz gv)), (1, .int (iz z_1)), (0, .ref mo)]) hx hb dX6_print_145 hl (k := 0) rfl (iz_add kv 1) (by decide) rfl (fun ls hl => ?_)
                    refine lv_goto (tgt := 125) hx hb dX6_print_148 (by decide) ?_
                    have hk33 : mWk _ _ (va_up J 0 0) (va_up G1 39 (upI (G1 39) kv (vp_nar .byte (iz (G1 41 kv))).toInt)) ∧ _ := mWk.u39 hIG kv (iz_lo _) (iz_hi _)
                    have hI33 : mIv (va_up J 0 0) (va_up G1 39 (upI (G1 39) kv (vp_nar .byte (iz (G1 41 kv))).toInt)) := hIG.go hk33.1
                    have hw33 : mWk _ _ (va_up J 0 0) (va_up G1 39 (upI (G1 39) kv (vp_nar .byte (iz (G1 41 kv))).toInt)) := hwG.tr hk33.1
                    have hkb34 : mKb (va_up J 0 0) (va_up G1 39 (upI (G1 39) kv (vp_nar .byte (iz (G1 41 kv))).toInt)) := hbG.uf 39 (by decide) _
                    exact ih125 (kv + 1) (va_up G1 39 (upI (G1 39) kv (vp_nar .byte (iz (G1 41 kv))).toInt)) ⟨hI33, hw33, by omega, hkb34⟩ (by omega) _ _ hP hD hS ls (lv_sub hl [0, 1, 2, 3] rfl)
              exact lp125 _ 0 G ⟨hI26, hw26, by omega, hkb27⟩ (Nat.lt_succ_self _) _ _ hP hD hS ls (lv_sub hl [0, 1, 2, 3] rfl)
            · omega
          · refine ki_is (show iz (J 43) = iz 1 by rw [ho9]) ?_
            refine lv_iconst (v := iz 0) hx hb dX6_print_113 (by decide) ?_
            refine lv_iconst (v := iz 0) hx hb dX6_print_114 (by decide) ?_
            refine mk_calli (As := [.int (iz 1), .int (iz 0), .int (iz 0)]) (rest := []) ⟨hx, hb, hml, hown, hts⟩ (k_refused1 l dC dI mo ma cs J G 0 0 H.size (by omega) (by omega) (by omega) (by omega)) (cwV 3 hts (kx_gV kq_04_msmall_8 kq_04_msmall_9 kq_04_msmall_10 kq_04_msmall_6 kq_04_msmall_11 rfl) rfl rfl rfl (by decide +kernel) ⟨Nat.le_of_ble_eq_true rfl, Nat.le_of_ble_eq_true rfl⟩) hP hD hK hG hZ hS hA rfl hl.1 rfl (Nat.le_of_ble_eq_true rfl) dX6_print_115 ⟨Nat.le_of_ble_eq_true rfl, Nat.le_of_ble_eq_true rfl⟩ (fun z_35 I_37 F_38 H locs hq_36 hP hD hS => ?_)
            try dsimp only at hq_36
            obtain ⟨rfl, rfl, rfl⟩ := hq_36
            refine ki_if_eq (tgt := 123) hx hb dX6_print_118 (by decide) (by omega) (by omega) (fun c_39 => ?_) (fun c_39 => ?_)
            · omega
            · skip
              refine lv_iconst (v := iz 0) hx hb dX6_print_121 (by decide) ?_
              have hk40 : mWk _ _ (va_up J 0 1) G ∧ _ := mWk.thr hIJ (v := 1) (by omega)
              have hI40 : mIv (va_up J 0 1) G := hIJ.go hk40.1
              have hw40 : mWk _ _ (va_up J 0 1) G := hwJ.tr hk40.1
              have e1640 : (va_up J 0 1) 16 = _ := hk40.2.1
              have e1940 : (va_up J 0 1) 19 = _ := hk40.2.2
              have e140 : (va_up J 0 1) 1 = _ := hk40.1.2.1.1 1 (by decide)
              have hbr40 : mBr 4 (va_up J 0 1) G := hbJ.eq rfl rfl
              have hkb41 : mKb (va_up J 0 1) G := hbK.ui 0 (by decide) _
              rw [← hQe]
              exact mk_ireti hx hb hr hlocks hP hD hK hS dX6_print_122 (⟨hw40, hkb41⟩)
        · skip
          have hrw9 := hrwJ iv (by omega) (by omega)
          refine lv_aload_n hx hb dX6_print_45 rfl (lv_at hl 3 rfl) ?_
          refine va_get (D := (dC, dI)) (ci := 6) (v := .ref (ma 18)) (C := RX6) (T := TX6) (N := 44) hx hb hts kt_X6 hown hK hP 0 rfl rfl 18 (by decide) (kx_word hG kq_07_mlook_1 rfl) (fun _ h9 => h9) rfl dX6_print_46 ?_
          refine lv_iload_n hx hb dX6_print_49 rfl (lv_at hl 0 rfl) ?_
          refine ki_iald (F := G 18) hx hb hK hP 14 13 rfl rfl (by omega) (by omega) (by decide) dX6_print_50 ?_
          have hbd_42 := hIJ.hB.2 18 iv
          refine lv_istore (lv' := [(4, .int (iz (G 18 iv))), (3, .int (iz iv)), (2, .int (iz gv)), (1, .int (iz z_1)), (0, .ref mo)]) hx hb dX6_print_51 hl (by decide) rfl (fun ls hl => ?_)
          have hlv9 := hIJ.hlv (G 18 iv) (by omega) (by omega)
          refine lv_aload_n hx hb dX6_print_53 rfl (lv_at hl 4 rfl) ?_
          refine va_get (D := (dC, dI)) (ci := 6) (v := .ref (ma 2)) (C := RX6) (T := TX6) (N := 44) hx hb hts kt_X6 hown hK hP 0 rfl rfl 2 (by decide) (kx_word hG kq_04_msmall_12 rfl) (fun _ h9 => h9) rfl dX6_print_54 ?_
          refine lv_iload hx hb dX6_print_57 (lv_at hl 0 rfl) ?_
          refine ki_iald (F := G 2) hx hb hK hP 1 0 rfl rfl (by omega) (by omega) (by decide) dX6_print_59 ?_
          have hbd_43 := hIJ.hB.2 2 (G 18 iv)
          refine ki_if_ne (tgt := 87) hx hb dX6_print_60 (by decide) (by omega) (by omega) (fun c_44 => ?_) (fun c_44 => ?_)
          · skip
            refine lv_aload_n hx hb dX6_print_87 rfl (lv_at hl 4 rfl) ?_
            refine lv_iconst (v := iz 1) hx hb dX6_print_88 (by decide) ?_
            refine lv_aload_n hx hb dX6_print_89 rfl (lv_at hl 4 rfl) ?_
            refine va_get (D := (dC, dI)) (ci := 6) (v := .ref (ma 2)) (C := RX6) (T := TX6) (N := 44) hx hb hts kt_X6 hown hK hP 0 rfl rfl 2 (by decide) (kx_word hG kq_04_msmall_12 rfl) (fun _ h9 => h9) rfl dX6_print_90 ?_
            refine lv_iload hx hb dX6_print_93 (lv_at hl 0 rfl) ?_
            refine ki_iald (F := G 2) hx hb hK hP 1 0 rfl rfl (by omega) (by omega) (by decide) dX6_print_95 ?_
            refine ki_iadd hx hb dX6_print_96 ?_
            refine lv_iload hx hb dX6_print_97 (lv_at hl 0 rfl) ?_
            refine mk_callv (As := [.int (iz (1 + (G 2 (G 18 iv)))), .int (iz (G 18 iv))]) (rest := []) ⟨hx, hb, hml, hown, hts⟩ (k_putPart l dC dI mo ma cs J G (1 + (G 2 (G 18 iv))) (G 18 iv) H.size hIJ.hB hIJ.hc hIJ.hn hIJ.hln hIJ.hmy hIJ.hmf hIJ.hlv (hIJ.hkn (by omega)).1 hIJ.hse hIJ.hsu hIJ.hst hbJ hIJ.hps (by omega) (by omega)) (cwV 2 hts (kx_gV kq_11_mask_14 kq_11_mask_15 kq_11_mask_16 kq_04_msmall_6 kq_11_mask_17 rfl) rfl rfl rfl (by decide +kernel) ⟨Nat.le_of_ble_eq_true rfl, Nat.le_of_ble_eq_true rfl⟩) hP hD hK hG hZ hS hA rfl hl.1 rfl (Nat.le_of_ble_eq_true rfl) dX6_print_99 ⟨Nat.le_of_ble_eq_true rfl, Nat.le_of_ble_eq_true rfl⟩ (fun I_47 F_48 H locs hq_46 hP hD hS => ?_)
            try dsimp only at hq_46
            have hkb49 : mKb I_47 F_48 := hbK.fr hq_46.2.1 (by decide) (by decide)
            have hk50 : mWk J G I_47 F_48 ∧ _ := mWk.part hIJ hq_46
            have hI50 : mIv I_47 F_48 := hIJ.go hk50.1
            have hw50 : mWk _ _ I_47 F_48 := hwJ.tr hk50.1
            have e1650 := hk50.2.1
            have e1950 := hk50.2.2
            have f250 := congrFun (hk50.1.2.1.2 2 (by decide)) (G 18 iv)
            have hc50 := hI50.hc
            have hx50a := hk50.1.2.1.1 1 (by decide)
            have hbr51 : mBr 4 I_47 F_48 := hbJ.kp hq_46.2.1 (by decide)
            refine lv_iinc (v := iz (iv + 1)) (lv' := [(3, .int (iz (iv + 1))), (4, .int (iz (G 18 iv))), (2, .int (iz gv)), (1, .int (iz z_1)), (0, .ref mo)]) hx hb dX6_print_102 hl (k := 1) rfl (iz_add iv 1) (by decide) rfl (fun ls hl => ?_)
            refine lv_goto (tgt := 37) hx hb dX6_print_105 (by decide) ?_
            exact ih37 gv (iv + 1) I_47 F_48 ⟨hI50, hw50, by omega, hbr51, by omega, by omega, hkb49⟩ (by omega) _ _ hP hD hS ls (lv_sub hl [0, 2, 3, 4] rfl)
          · skip
            refine lv_aload_n hx hb dX6_print_63 rfl (lv_at hl 4 rfl) ?_
            refine lv_iload hx hb dX6_print_64 (lv_at hl 0 rfl) ?_
            refine mk_calli (As := [.int (iz (G 18 iv))]) (rest := []) ⟨hx, hb, hml, hown, hts⟩ (k_groupOf l dC dI mo ma cs J G (G 18 iv) H.size hIJ.hB hIJ.hc hIJ.hn hIJ.hlv (hIJ.hkn (by omega)).1 (by omega)) (cwV 1 hts (kx_gV kq_10_mprint_28 kq_10_mprint_29 kq_10_mprint_30 kq_04_msmall_6 kq_10_mprint_31 rfl) rfl rfl rfl (by decide +kernel) ⟨Nat.le_of_ble_eq_true rfl, Nat.le_of_ble_eq_true rfl⟩) hP hD hK hG hZ hS hA rfl hl.1 rfl (Nat.le_of_ble_eq_true rfl) dX6_print_66 ⟨Nat.le_of_ble_eq_true rfl, Nat.le_of_ble_eq_true rfl⟩ (fun z_52 I_54 F_55 H locs hq_53 hP hD hS => ?_)
            try dsimp only at hq_53
            have hkb56 : mKb I_54 F_55 := (by have h9 := hq_53.2.2.1; rw [← hq_53.1]; exact hbK.fr h9 (by decide) (by decide))
            have hk57 : mWk J G I_54 F_55 ∧ _ := mWk.scr hIJ hq_53.1 hq_53.2.1 hq_53.2.2.1
            have hI57 : mIv I_54 F_55 := hIJ.go hk57.1
            have hw57 : mWk _ _ I_54 F_55 := hwJ.tr hk57.1
            have e1657 := hk57.2.1
            have e1957 := hk57.2.2
            have f257 := congrFun (hk57.1.2.1.2 2 (by decide)) (G 18 iv)
            have hc57 := hI57.hc
            have hx57a := hk57.1.2.1.1 1 (by decide)
            have hrg_58 := hq_53.2.2.2
            have hbr58x : mBr 4 I_54 F_55 := hbJ.eq (congrFun hq_53.1.symm 37) (hq_53.2.2.1.2 38 (by decide))
            refine lv_iload_n hx hb dX6_print_69 rfl (lv_at hl 2 rfl) ?_
            refine ki_icmp_eq (tgt := 87) hx hb dX6_print_70 (by decide) (by omega) (by omega) (by omega) (by omega) (fun c_59 => ?_) (fun c_59 => ?_)
            · skip
              refine lv_aload_n hx hb dX6_print_87 rfl (lv_at hl 4 rfl) ?_
              refine lv_iconst (v := iz 1) hx hb dX6_print_88 (by decide) ?_
              refine lv_aload_n hx hb dX6_print_89 rfl (lv_at hl 4 rfl) ?_
              refine va_get (D := (dC, dI)) (ci := 6) (v := .ref (ma 2)) (C := RX6) (T := TX6) (N := 44) hx hb hts kt_X6 hown hK hP 0 rfl rfl 2 (by decide) (kx_word hG kq_04_msmall_12 rfl) (fun _ h9 => h9) rfl dX6_print_90 ?_
              refine lv_iload hx hb dX6_print_93 (lv_at hl 0 rfl) ?_
              refine ki_iald (F := F_55 2) hx hb hK hP 1 0 rfl rfl (by omega) (by omega) (by decide) dX6_print_95 ?_
              have hbd_60 := hI57.hB.2 2 (G 18 iv)
              refine ki_iadd hx hb dX6_print_96 ?_
              refine lv_iload hx hb dX6_print_97 (lv_at hl 0 rfl) ?_
              refine mk_callv (As := [.int (iz (1 + (F_55 2 (G 18 iv)))), .int (iz (G 18 iv))]) (rest := []) ⟨hx, hb, hml, hown, hts⟩ (k_putPart l dC dI mo ma cs I_54 F_55 (1 + (F_55 2 (G 18 iv))) (G 18 iv) H.size hI57.hB hI57.hc hI57.hn hI57.hln hI57.hmy hI57.hmf hI57.hlv (hI57.hkn (by omega)).1 hI57.hse hI57.hsu hI57.hst hbr58x hI57.hps (by omega) (by omega)) (cwV 2 hts (kx_gV kq_11_mask_14 kq_11_mask_15 kq_11_mask_16 kq_04_msmall_6 kq_11_mask_17 rfl) rfl rfl rfl (by decide +kernel) ⟨Nat.le_of_ble_eq_true rfl, Nat.le_of_ble_eq_true rfl⟩) hP hD hK hG hZ hS hA rfl hl.1 rfl (Nat.le_of_ble_eq_true rfl) dX6_print_99 ⟨Nat.le_of_ble_eq_true rfl, Nat.le_of_ble_eq_true rfl⟩ (fun I_63 F_64 H locs hq_62 hP hD hS => ?_)
              try dsimp only at hq_62
              have hkb65 : mKb I_63 F_64 := hkb56.fr hq_62.2.1 (by decide) (by decide)
              have hk66 : mWk I_54 F_55 I_63 F_64 ∧ _ := mWk.part hI57 hq_62
              have hI66 : mIv I_63 F_64 := hI57.go hk66.1
              have hw66 : mWk _ _ I_63 F_64 := hw57.tr hk66.1
              have e1666 := hk66.2.1
              have e1966 := hk66.2.2
              have f266 := congrFun (hk66.1.2.1.2 2 (by decide)) (G 18 iv)
              have hc66 := hI66.hc
              have hx66a := hk66.1.2.1.1 1 (by decide)
              have hbr67 : mBr 4 I_63 F_64 := hbr58x.kp hq_62.2.1 (by decide)
              refine lv_iinc (v := iz (iv + 1)) (lv' := [(3, .int (iz (iv + 1))), (4, .int (iz (G 18 iv))), (2, .int (iz gv)), (1, .int (iz z_1)), (0, .ref mo)]) hx hb dX6_print_102 hl (k := 1) rfl (iz_add iv 1) (by decide) rfl (fun ls hl => ?_)
              refine lv_goto (tgt := 37) hx hb dX6_print_105 (by decide) ?_
              exact ih37 gv (iv + 1) I_63 F_64 ⟨hI66, hw66, by omega, hbr67, by omega, by omega, hkb65⟩ (by omega) _ _ hP hD hS ls (lv_sub hl [0, 2, 3, 4] rfl)
            · skip
              refine lv_aload_n hx hb dX6_print_73 rfl (lv_at hl 4 rfl) ?_
              refine lv_iload hx hb dX6_print_74 (lv_at hl 0 rfl) ?_
              refine mk_calli (As := [.int (iz (G 18 iv))]) (rest := []) ⟨hx, hb, hml, hown, hts⟩ (k_groupOf l dC dI mo ma cs I_54 F_55 (G 18 iv) H.size hI57.hB hI57.hc hI57.hn hI57.hlv (hI57.hkn (by omega)).1 (by omega)) (cwV 1 hts (kx_gV kq_10_mprint_28 kq_10_mprint_29 kq_10_mprint_30 kq_04_msmall_6 kq_10_mprint_31 rfl) rfl rfl rfl (by decide +kernel) ⟨Nat.le_of_ble_eq_true rfl, Nat.le_of_ble_eq_true rfl⟩) hP hD hK hG hZ hS hA rfl hl.1 rfl (Nat.le_of_ble_eq_true rfl) dX6_print_76 ⟨Nat.le_of_ble_eq_true rfl, Nat.le_of_ble_eq_true rfl⟩ (fun z_68 I_70 F_71 H locs hq_69 hP hD hS => ?_)
              try dsimp only at hq_69
              have hkb72 : mKb I_70 F_71 := (by have h9 := hq_69.2.2.1; rw [← hq_69.1]; exact hkb56.fr h9 (by decide) (by decide))
              have hk73 : mWk I_54 F_55 I_70 F_71 ∧ _ := mWk.scr hI57 hq_69.1 hq_69.2.1 hq_69.2.2.1
              have hI73 : mIv I_70 F_71 := hI57.go hk73.1
              have hw73 : mWk _ _ I_70 F_71 := hw57.tr hk73.1
              have e1673 := hk73.2.1
              have e1973 := hk73.2.2
              have f273 := congrFun (hk73.1.2.1.2 2 (by decide)) (G 18 iv)
              have hc73 := hI73.hc
              have hx73a := hk73.1.2.1.1 1 (by decide)
              have hrg_74 := hq_69.2.2.2
              have hbr74x : mBr 4 I_70 F_71 := hbr58x.eq (congrFun hq_69.1.symm 37) (hq_69.2.2.1.2 38 (by decide))
              refine lv_istore_n (lv' := [(2, .int (iz z_68)), (4, .int (iz (G 18 iv))), (3, .int (iz iv)), (1, .int (iz z_1)), (0, .ref mo)]) hx hb dX6_print_79 rfl hl (by decide) rfl (fun ls hl => ?_)
              refine lv_aload_n hx hb dX6_print_80 rfl (lv_at hl 4 rfl) ?_
              refine lv_iconst (v := iz 0) hx hb dX6_print_81 (by decide) ?_
              refine lv_iload hx hb dX6_print_82 (lv_at hl 1 rfl) ?_
              refine mk_callv (As := [.int (iz 0), .int (iz (G 18 iv))]) (rest := []) ⟨hx, hb, hml, hown, hts⟩ (k_putPart l dC dI mo ma cs I_70 F_71 0 (G 18 iv) H.size hI73.hB hI73.hc hI73.hn hI73.hln hI73.hmy hI73.hmf hI73.hlv (hI73.hkn (by omega)).1 hI73.hse hI73.hsu hI73.hst hbr74x hI73.hps (by omega) (by omega)) (cwV 2 hts (kx_gV kq_11_mask_14 kq_11_mask_15 kq_11_mask_16 kq_04_msmall_6 kq_11_mask_17 rfl) rfl rfl rfl (by decide +kernel) ⟨Nat.le_of_ble_eq_true rfl, Nat.le_of_ble_eq_true rfl⟩) hP hD hK hG hZ hS hA rfl hl.1 rfl (Nat.le_of_ble_eq_true rfl) dX6_print_84 ⟨Nat.le_of_ble_eq_true rfl, Nat.le_of_ble_eq_true rfl⟩ (fun I_77 F_78 H locs hq_76 hP hD hS => ?_)
              try dsimp only at hq_76
              have hkb79 : mKb I_77 F_78 := hkb72.fr hq_76.2.1 (by decide) (by decide)
              have hk80 : mWk I_70 F_71 I_77 F_78 ∧ _ := mWk.part hI73 hq_76
              have hI80 : mIv I_77 F_78 := hI73.go hk80.1
              have hw80 : mWk _ _ I_77 F_78 := hw73.tr hk80.1
              have e1680 := hk80.2.1
              have e1980 := hk80.2.2
              have f280 := congrFun (hk80.1.2.1.2 2 (by decide)) (G 18 iv)
              have hc80 := hI80.hc
              have hx80a := hk80.1.2.1.1 1 (by decide)
              have hbr81 : mBr 4 I_77 F_78 := hbr74x.kp hq_76.2.1 (by decide)
              refine lv_aload_n hx hb dX6_print_87 rfl (lv_at hl 4 rfl) ?_
              refine lv_iconst (v := iz 1) hx hb dX6_print_88 (by decide) ?_
              refine lv_aload_n hx hb dX6_print_89 rfl (lv_at hl 4 rfl) ?_
              refine va_get (D := (dC, dI)) (ci := 6) (v := .ref (ma 2)) (C := RX6) (T := TX6) (N := 44) hx hb hts kt_X6 hown hK hP 0 rfl rfl 2 (by decide) (kx_word hG kq_04_msmall_12 rfl) (fun _ h9 => h9) rfl dX6_print_90 ?_
              refine lv_iload hx hb dX6_print_93 (lv_at hl 1 rfl) ?_
              refine ki_iald (F := F_78 2) hx hb hK hP 1 0 rfl rfl (by omega) (by omega) (by decide) dX6_print_95 ?_
              have hbd_82 := hI80.hB.2 2 (G 18 iv)
              refine ki_iadd hx hb dX6_print_96 ?_
              refine lv_iload hx hb dX6_print_97 (lv_at hl 1 rfl) ?_
              refine mk_callv (As := [.int (iz (1 + (F_78 2 (G 18 iv)))), .int (iz (G 18 iv))]) (rest := []) ⟨hx, hb, hml, hown, hts⟩ (k_putPart l dC dI mo ma cs I_77 F_78 (1 + (F_78 2 (G 18 iv))) (G 18 iv) H.size hI80.hB hI80.hc hI80.hn hI80.hln hI80.hmy hI80.hmf hI80.hlv (hI80.hkn (by omega)).1 hI80.hse hI80.hsu hI80.hst hbr81 hI80.hps (by omega) (by omega)) (cwV 2 hts (kx_gV kq_11_mask_14 kq_11_mask_15 kq_11_mask_16 kq_04_msmall_6 kq_11_mask_17 rfl) rfl rfl rfl (by decide +kernel) ⟨Nat.le_of_ble_eq_true rfl, Nat.le_of_ble_eq_true rfl⟩) hP hD hK hG hZ hS hA rfl hl.1 rfl (Nat.le_of_ble_eq_true rfl) dX6_print_99 ⟨Nat.le_of_ble_eq_true rfl, Nat.le_of_ble_eq_true rfl⟩ (fun I_85 F_86 H locs hq_84 hP hD hS => ?_)
              try dsimp only at hq_84
              have hkb87 : mKb I_85 F_86 := hkb79.fr hq_84.2.1 (by decide) (by decide)
              have hk88 : mWk I_77 F_78 I_85 F_86 ∧ _ := mWk.part hI80 hq_84
              have hI88 : mIv I_85 F_86 := hI80.go hk88.1
              have hw88 : mWk _ _ I_85 F_86 := hw80.tr hk88.1
              have e1688 := hk88.2.1
              have e1988 := hk88.2.2
              have f288 := congrFun (hk88.1.2.1.2 2 (by decide)) (G 18 iv)
              have hc88 := hI88.hc
              have hx88a := hk88.1.2.1.1 1 (by decide)
              have hbr89 : mBr 4 I_85 F_86 := hbr81.kp hq_84.2.1 (by decide)
              refine lv_iinc (v := iz (iv + 1)) (lv' := [(3, .int (iz (iv + 1))), (2, .int (iz z_68)), (4, .int (iz (G 18 iv))), (1, .int (iz z_1)), (0, .ref mo)]) hx hb dX6_print_102 hl (k := 2) rfl (iz_add iv 1) (by decide) rfl (fun ls hl => ?_)
              refine lv_goto (tgt := 37) hx hb dX6_print_105 (by decide) ?_
              exact ih37 z_68 (iv + 1) I_85 F_86 ⟨hI88, hw88, by omega, hbr89, by omega, by omega, hkb87⟩ (by omega) _ _ hP hD hS ls (lv_sub hl [0, 1, 3, 4] rfl)
    exact lp37 _ (-1) 0 (va_up (va_up I_10 42 0) 43 0) F_11 ⟨hI15, hw15, by omega, hbr15, by omega, by omega, hkb17⟩ (Nat.lt_succ_self _) _ _ hP hD hS ls (lv_sub hl [0, 1, 2, 3] rfl)
  · skip
    refine lv_aload_n hx hb dX6_print_10 rfl (lv_at hl 1 rfl) ?_
    refine lv_iconst (v := iz 0) hx hb dX6_print_11 (by decide) ?_
    refine va_put (D := (dC, dI)) (ci := 6) (v := .int (iz 0)) (ty := .int) (C := RX6) (T := TX6) (N := 44) hx hb hts kt_X6 tyX6 tyX6_ok nmX6 hown hK hP hD hS 0 rfl rfl 0 (by decide) (kx_word hG kq_04_msmall_0 rfl) (fun _ h9 => h9) rfl (by decide +kernel) rfl rfl (Nat.le_of_ble_eq_true rfl) dX6_print_12 (fun H locs hP hD hS => ?_)
    have hP : va_P (dC, dI) kxCl (mW mo ma cs (va_up I_3 0 0) F_4) H := hP
    have hD : va_D A (mW mo ma cs (va_up I_3 0 0) F_4) := hD
    refine lv_iconst (v := iz (-1)) hx hb dX6_print_15 (by decide) ?_
    refine lv_iload_n hx hb dX6_print_16 rfl (lv_at hl 0 rfl) ?_
    refine ki_isub hx hb dX6_print_17 ?_
    have hk90 : mWk _ _ (va_up I_3 0 0) F_4 ∧ _ := mWk.thr hI6 (v := 0) (by omega)
    have hI90 : mIv (va_up I_3 0 0) F_4 := hI6.go hk90.1
    have hw90 : mWk _ _ (va_up I_3 0 0) F_4 := hw6.tr hk90.1
    have e1690 : (va_up I_3 0 0) 16 = _ := hk90.2.1
    have e1990 : (va_up I_3 0 0) 19 = _ := hk90.2.2
    have e190 : (va_up I_3 0 0) 1 = _ := hk90.1.2.1.1 1 (by decide)
    have hkb91 : mKb (va_up I_3 0 0) F_4 := hkb5.ui 0 (by decide) _
    rw [← hQe]
    exact mk_ireti hx hb hr hlocks hP hD hK hS dX6_print_18 (⟨hw90, hkb91⟩)
set_option maxHeartbeats 4000000 in
set_option maxRecDepth 100000 in
theorem k_at2 (l : Launch) (dC : Nat → ClassId) (dI : Nat → Nat → Nat) (mo : Nat) (ma : Nat → Nat) (cs : Nat → ClassId) (I : Nat → Int) (F : Nat → Int → Int) (p0 : Int) (sz : Nat) (hI : mIv I F) (hp01 : -2147483648 ≤ p0) (hp02 : p0 < 2147483648) (hKb : mKb I F) : mMi l yX6_at (.code yX6_at cX6_at 2 (some .int)) 1 23 dC dI mo ma cs I F [.ref mo, .int (iz p0)] sz (fun (r : Int) (I' : Nat → Int) (F' : Nat → Int → Int) => mWk I F I' F' ∧ mKb I' F') := by
  refine Met.ofW (cc := cX6_at) (maxL := 2) (ret := (some .int)) (by decide) rfl ?_
  intro p e s m args below meth c s₁ B hml hv
  obtain ⟨rfl, hsz, hP, hK, hD0, hG, hZ⟩ := hv
  have hx := B.exec
  have hb := B.bytes
  have hr := B.returns
  have hts := kx_hts (a := ([.ref mo, .int (iz p0)] : List Value).toArray) hG
  have hown : s.vm.findClass RX6 = some m.cls := findClass_of_methodNamed B.named
  have hlocks := B.notSynchronized
  subst hsz
  have hD := hD0.self (sz := s.heap.size)
  generalize hAe : va_A (mW mo ma cs I F) s.heap.size = A at hD hZ ⊢
  have hA : ∀ q : Nat, s.heap.size ≤ q → A q := fun q h => by rw [← hAe]; exact Or.inr h
  have hS : va_S A s.heap s.heap [] := va_S.rf
  have hl := lv_entry ([.ref mo, .int (iz p0)]) (n := 2) (Nat.le_of_ble_eq_true rfl)
  rw [lg_entry_eq]
  generalize (lg_sl ([.ref mo, .int (iz p0)]) ++ List.replicate (2 - (lg_sl ([.ref mo, .int (iz p0)])).length) Slot.unset).toArray = ls at hl ⊢
  have hl : lv_has ls 2 [(0, .ref mo), (1, .int (iz p0))] := hl
  have hW0 : mWk I F I F := mWk.rf hI
  have hc0 := hI.hc
  have hm0 := hI.hmd
  refine lv_aload_n hx hb dX6_at_0 rfl (lv_at hl 0 rfl) ?_
  refine lv_iload_n hx hb dX6_at_1 rfl (lv_at hl 1 rfl) ?_
  refine ki_if_lt (tgt := 13) hx hb dX6_at_2 (by decide) (by omega) (by omega) (fun c_1 => ?_) (fun c_1 => ?_)
  · skip
    refine lv_iconst (v := iz 1) hx hb dX6_at_13 (by decide) ?_
    refine lv_goto (tgt := 18) hx hb dX6_at_14 (by decide) ?_
    refine lv_iconst (v := iz 0) hx hb dX6_at_18 (by decide) ?_
    refine lv_iconst (v := iz 0) hx hb dX6_at_19 (by decide) ?_
    refine mk_calli (As := [.int (iz 1), .int (iz 0), .int (iz 0)]) (rest := []) ⟨hx, hb, hml, hown, hts⟩ (k_refused1 l dC dI mo ma cs I F 0 0 s.heap.size (by omega) (by omega) (by omega) (by omega)) (cwV 3 hts (kx_gV kq_04_msmall_8 kq_04_msmall_9 kq_04_msmall_10 kq_04_msmall_6 kq_04_msmall_11 rfl) rfl rfl rfl (by decide +kernel) ⟨Nat.le_of_ble_eq_true rfl, Nat.le_of_ble_eq_true rfl⟩) hP hD hK hG hZ hS hA rfl hl.1 rfl (Nat.le_of_ble_eq_true rfl) dX6_at_20 ⟨Nat.le_of_ble_eq_true rfl, Nat.le_of_ble_eq_true rfl⟩ (fun z_2 I_4 F_5 H locs hq_3 hP hD hS => ?_)
    try dsimp only at hq_3
    obtain ⟨rfl, rfl, rfl⟩ := hq_3
    refine ki_if_eq (tgt := 30) hx hb dX6_at_23 (by decide) (by omega) (by omega) (fun c_6 => ?_) (fun c_6 => ?_)
    · omega
    · skip
      refine lv_iconst (v := iz 0) hx hb dX6_at_26 (by decide) ?_
      refine lv_goto (tgt := 40) hx hb dX6_at_27 (by decide) ?_
      have hk7 : mWk _ _ (va_up I 0 1) F ∧ _ := mWk.thr hI (v := 1) (by omega)
      have hI7 : mIv (va_up I 0 1) F := hI.go hk7.1
      have hw7 : mWk _ _ (va_up I 0 1) F := hW0.tr hk7.1
      have e167 : (va_up I 0 1) 16 = _ := hk7.2.1
      have e197 : (va_up I 0 1) 19 = _ := hk7.2.2
      have e17 : (va_up I 0 1) 1 = _ := hk7.1.2.1.1 1 (by decide)
      have hkb8 : mKb (va_up I 0 1) F := hKb.ui 0 (by decide) _
      exact mk_ireti hx hb hr hlocks hP hD hK hS dX6_at_40 (⟨hw7, hkb8⟩)
  · skip
    refine lv_iload_n hx hb dX6_at_5 rfl (lv_at hl 1 rfl) ?_
    refine lv_aload_n hx hb dX6_at_6 rfl (lv_at hl 0 rfl) ?_
    refine va_get (D := (dC, dI)) (ci := 6) (v := .int (iz (I 40))) (C := RX6) (T := TX6) (N := 44) hx hb hts kt_X6 hown hK hP 0 rfl rfl 40 (by decide) (kx_word hG kq_11_mask_12 rfl) (fun _ h9 => h9) rfl dX6_at_7 ?_
    have hbd_9 := hI.hB.1 40
    refine ki_icmp_lt (tgt := 17) hx hb dX6_at_10 (by decide) (by omega) (by omega) (by omega) (by omega) (fun c_10 => ?_) (fun c_10 => ?_)
    · skip
      refine lv_iconst (v := iz 0) hx hb dX6_at_17 (by decide) ?_
      refine lv_iconst (v := iz 0) hx hb dX6_at_18 (by decide) ?_
      refine lv_iconst (v := iz 0) hx hb dX6_at_19 (by decide) ?_
      refine mk_calli (As := [.int (iz 0), .int (iz 0), .int (iz 0)]) (rest := []) ⟨hx, hb, hml, hown, hts⟩ (k_refused0 l dC dI mo ma cs I F  s.heap.size ) (cwV 3 hts (kx_gV kq_04_msmall_8 kq_04_msmall_9 kq_04_msmall_10 kq_04_msmall_6 kq_04_msmall_11 rfl) rfl rfl rfl (by decide +kernel) ⟨Nat.le_of_ble_eq_true rfl, Nat.le_of_ble_eq_true rfl⟩) hP hD hK hG hZ hS hA rfl hl.1 rfl (Nat.le_of_ble_eq_true rfl) dX6_at_20 ⟨Nat.le_of_ble_eq_true rfl, Nat.le_of_ble_eq_true rfl⟩ (fun z_11 I_13 F_14 H locs hq_12 hP hD hS => ?_)
      try dsimp only at hq_12
      obtain ⟨rfl, rfl, rfl⟩ := hq_12
      refine ki_if_eq (tgt := 30) hx hb dX6_at_23 (by decide) (by omega) (by omega) (fun c_15 => ?_) (fun c_15 => ?_)
      · skip
        refine lv_aload_n hx hb dX6_at_30 rfl (lv_at hl 0 rfl) ?_
        refine va_get (D := (dC, dI)) (ci := 6) (v := .ref (ma 39)) (C := RX6) (T := TX6) (N := 44) hx hb hts kt_X6 hown hK hP 0 rfl rfl 39 (by decide) (kx_word hG kq_11_mask_13 rfl) (fun _ h9 => h9) rfl dX6_at_31 ?_
        refine lv_iload_n hx hb dX6_at_34 rfl (lv_at hl 1 rfl) ?_
        refine ki_bald (F := F 39) hx hb hK hP 27 26 rfl rfl (by omega) (by omega) (by decide) dX6_at_35 ?_
        have hbd_16 := hI.hB.2 39 p0
        refine lv_sipush (v := iz 255) hx hb dX6_at_36 (by decide) ?_
        refine lv_iand hx hb dX6_at_39 ?_
        refine ki_any (fun z_17 hz_17a hz_17b => ?_)
        have hk18 : mWk _ _ (va_up I 0 0) F ∧ _ := mWk.thr hI (v := 0) (by omega)
        have hI18 : mIv (va_up I 0 0) F := hI.go hk18.1
        have hw18 : mWk _ _ (va_up I 0 0) F := hW0.tr hk18.1
        have e1618 : (va_up I 0 0) 16 = _ := hk18.2.1
        have e1918 : (va_up I 0 0) 19 = _ := hk18.2.2
        have e118 : (va_up I 0 0) 1 = _ := hk18.1.2.1.1 1 (by decide)
        have hkb19 : mKb (va_up I 0 0) F := hKb.ui 0 (by decide) _
        exact mk_ireti hx hb hr hlocks hP hD hK hS dX6_at_40 (⟨hw18, hkb19⟩)
      · omega
    · skip
      refine lv_iconst (v := iz 1) hx hb dX6_at_13 (by decide) ?_
      refine lv_goto (tgt := 18) hx hb dX6_at_14 (by decide) ?_
      refine lv_iconst (v := iz 0) hx hb dX6_at_18 (by decide) ?_
      refine lv_iconst (v := iz 0) hx hb dX6_at_19 (by decide) ?_
      refine mk_calli (As := [.int (iz 1), .int (iz 0), .int (iz 0)]) (rest := []) ⟨hx, hb, hml, hown, hts⟩ (k_refused1 l dC dI mo ma cs I F 0 0 s.heap.size (by omega) (by omega) (by omega) (by omega)) (cwV 3 hts (kx_gV kq_04_msmall_8 kq_04_msmall_9 kq_04_msmall_10 kq_04_msmall_6 kq_04_msmall_11 rfl) rfl rfl rfl (by decide +kernel) ⟨Nat.le_of_ble_eq_true rfl, Nat.le_of_ble_eq_true rfl⟩) hP hD hK hG hZ hS hA rfl hl.1 rfl (Nat.le_of_ble_eq_true rfl) dX6_at_20 ⟨Nat.le_of_ble_eq_true rfl, Nat.le_of_ble_eq_true rfl⟩ (fun z_20 I_22 F_23 H locs hq_21 hP hD hS => ?_)
      try dsimp only at hq_21
      obtain ⟨rfl, rfl, rfl⟩ := hq_21
      refine ki_if_eq (tgt := 30) hx hb dX6_at_23 (by decide) (by omega) (by omega) (fun c_24 => ?_) (fun c_24 => ?_)
      · omega
      · skip
        refine lv_iconst (v := iz 0) hx hb dX6_at_26 (by decide) ?_
        refine lv_goto (tgt := 40) hx hb dX6_at_27 (by decide) ?_
        have hk25 : mWk _ _ (va_up I 0 1) F ∧ _ := mWk.thr hI (v := 1) (by omega)
        have hI25 : mIv (va_up I 0 1) F := hI.go hk25.1
        have hw25 : mWk _ _ (va_up I 0 1) F := hW0.tr hk25.1
        have e1625 : (va_up I 0 1) 16 = _ := hk25.2.1
        have e1925 : (va_up I 0 1) 19 = _ := hk25.2.2
        have e125 : (va_up I 0 1) 1 = _ := hk25.1.2.1.1 1 (by decide)
        have hkb26 : mKb (va_up I 0 1) F := hKb.ui 0 (by decide) _
        exact mk_ireti hx hb hr hlocks hP hD hK hS dX6_at_40 (⟨hw25, hkb26⟩)
