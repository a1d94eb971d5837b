/-! the reference's asking calls, with the out that stays -/

set_option maxHeartbeats 4000000 in
set_option maxRecDepth 100000 in
theorem k_run8 (l : Launch) (dC : Nat → ClassId) (dI : Nat → Nat → Nat) (mo : Nat) (ma : Nat → Nat) (cs : Nat → ClassId) (I : Nat → Int) (F : Nat → Int → Int) (sz : Nat) (hI : mIv I F) (hKb : mKb I F) : mMi l yX6_run (.code yX6_run cX6_run 1 (some .int)) 5 120 dC dI mo ma cs I F [.ref mo] sz (fun (r : Int) (I' : Nat → Int) (F' : Nat → Int → Int) => (mWk I F I' F' ∧ mKb I' F' ∧ I' 16 = 1 ∧ r = I' 19) ∧ I' 40 = I 40 ∧ F' 39 = F 39) := by
  refine Met.ofW (cc := cX6_run) (maxL := 1) (ret := (some .int)) (by decide) rfl ?_
  intro p e s m args below meth c s₁ B hml hv
  obtain ⟨rfl, hsz, hP, hK, hD0, hG, hZ⟩ := hv
  have hx := B.exec
  have hb := B.bytes
  have hr := B.returns
  have hts := kx_hts (a := ([.ref mo] : List Value).toArray) hG
  have hown : s.vm.findClass RX6 = some m.cls := findClass_of_methodNamed B.named
  have hlocks := B.notSynchronized
  subst hsz
  have hD := hD0.self (sz := s.heap.size)
  generalize hAe : va_A (mW mo ma cs I F) s.heap.size = A at hD hZ ⊢
  have hA : ∀ q : Nat, s.heap.size ≤ q → A q := fun q h => by rw [← hAe]; exact Or.inr h
  have hS : va_S A s.heap s.heap [] := va_S.rf
  have hl := lv_entry ([.ref mo]) (n := 1) (Nat.le_of_ble_eq_true rfl)
  rw [lg_entry_eq]
  generalize (lg_sl ([.ref mo]) ++ List.replicate (1 - (lg_sl ([.ref mo])).length) Slot.unset).toArray = ls at hl ⊢
  have hl : lv_has ls 1 [(0, .ref mo)] := hl
  have hW0 : mWk I F I F := mWk.rf hI
  have hc0 := hI.hc
  refine lv_aload_n hx hb dX6_run_0 rfl (lv_at hl 0 rfl) ?_
  refine lv_iconst (v := iz 0) hx hb dX6_run_1 (by decide) ?_
  refine va_put (D := (dC, dI)) (ci := 6) (v := .int (iz 0)) (ty := .int) (C := RX6) (T := TX6) (N := 44) hx hb hts kt_X6 tyX6 tyX6_ok nmX6 hown hK hP hD hS 0 rfl rfl 0 (by decide) (kx_word hG kq_04_msmall_0 rfl) (fun _ h9 => h9) rfl (by decide +kernel) rfl rfl (Nat.le_of_ble_eq_true rfl) dX6_run_2 (fun H locs hP hD hS => ?_)
  have hP : va_P (dC, dI) kxCl (mW mo ma cs (va_up I 0 0) F) H := hP
  have hD : va_D A (mW mo ma cs (va_up I 0 0) F) := hD
  refine lv_aload_n hx hb dX6_run_5 rfl (lv_at hl 0 rfl) ?_
  have hk1 : mWk _ _ (va_up I 0 0) F ∧ _ := mWk.thr hI (v := 0) (by omega)
  have hI1 : mIv (va_up I 0 0) F := hI.go hk1.1
  have hw1 : mWk _ _ (va_up I 0 0) F := hW0.tr hk1.1
  have e161 : (va_up I 0 0) 16 = _ := hk1.2.1
  have e191 : (va_up I 0 0) 19 = _ := hk1.2.2
  have e11 : (va_up I 0 0) 1 = _ := hk1.1.2.1.1 1 (by decide)
  have hkb2 : mKb (va_up I 0 0) F := hKb.ui 0 (by decide) _
  refine mk_callv (As := []) (rest := []) ⟨hx, hb, hml, hown, hts⟩ (k_look2 l dC dI mo ma cs (va_up I 0 0) F  H.size hI1.hB hI1.hc hI1.hn hI1.hlv hI1.hkn hI1.hk01 hkb2.2 hkb2.1.1 hkb2.1.2.1 hkb2.1.2.2.1 hkb2.1.2.2.2) (cwV 0 hts (kx_gV kq_11_mask_0 kq_11_mask_1 kq_11_mask_2 kq_04_msmall_6 kq_11_mask_3 rfl) rfl rfl rfl (by decide +kernel) ⟨Nat.le_of_ble_eq_true rfl, Nat.le_of_ble_eq_true rfl⟩) hP hD hK hG hZ hS hA rfl hl.1 rfl (Nat.le_of_ble_eq_true rfl) dX6_run_6 ⟨Nat.le_of_ble_eq_true rfl, Nat.le_of_ble_eq_true rfl⟩ (fun I_5 F_6 H locs hq_4 hP hD hS => ?_)
  try dsimp only at hq_4
  have h40_7 : I_5 40 = I 40 ∧ F_6 39 = F 39 := ⟨((hq_4.1.2.1.1 40 (by decide))).trans (⟨rfl, rfl⟩ : I 40 = I 40 ∧ F 39 = F 39).1, ((hq_4.1.2.1.2 39 (by decide))).trans (⟨rfl, rfl⟩ : I 40 = I 40 ∧ F 39 = F 39).2⟩
  obtain ⟨hq_4, hkr8⟩ := hq_4
  have hkb8 : mKb I_5 F_6 := hkb2.look hq_4.2.1 (by decide) hkr8
  have hk9 : mWk (va_up I 0 0) F I_5 F_6 := mWk.look hI1 hq_4
  have hI9 : mIv I_5 F_6 := hI1.go hk9
  have hw9 : mWk _ _ I_5 F_6 := hw1.tr hk9
  have e169 : I_5 16 = 1 := hq_4.2.2.1
  have hc9 := hI9.hc
  obtain ⟨hsmL, hszL, hrwL⟩ := hI9.hkn (by omega)
  refine lv_aload_n hx hb dX6_run_9 rfl (lv_at hl 0 rfl) ?_
  refine va_get (D := (dC, dI)) (ci := 6) (v := .int (iz (I_5 19))) (C := RX6) (T := TX6) (N := 44) hx hb hts kt_X6 hown hK hP 0 rfl rfl 19 (by decide) (kx_word hG kq_07_mlook_0 rfl) (fun _ h9 => h9) rfl dX6_run_10 ?_
  have hbd_10 := hI9.hB.1 19
  exact mk_ireti hx hb hr hlocks hP hD hK hS dX6_run_13 (⟨⟨hw9, hkb8, by omega, by omega⟩, h40_7⟩)
set_option maxHeartbeats 4000000 in
set_option maxRecDepth 100000 in
theorem k_row8 (l : Launch) (dC : Nat → ClassId) (dI : Nat → Nat → Nat) (mo : Nat) (ma : Nat → Nat) (cs : Nat → ClassId) (I : Nat → Int) (F : Nat → Int → Int) (p0 : Int) (p1 : Int) (sz : Nat) (hI : mIv I F) (hp01 : -2147483648 ≤ p0) (hp02 : p0 < 2147483648) (hp11 : -2147483648 ≤ p1) (hp12 : p1 < 2147483648) (hKb : mKb I F) : mMi l yX6_row (.code yX6_row cX6_row 4 (some .int)) 5 120 dC dI mo ma cs I F [.ref mo, .int (iz p0), .int (iz p1)] sz (fun (r : Int) (I' : Nat → Int) (F' : Nat → Int → Int) => (mWk I F I' F' ∧ mKb I' F') ∧ I' 40 = I 40 ∧ F' 39 = F 39) := by
  refine Met.ofW (cc := cX6_row) (maxL := 4) (ret := (some .int)) (by decide) rfl ?_
  intro p e s m args below meth c s₁ B hml hv
  obtain ⟨rfl, hsz, hP, hK, hD0, hG, hZ⟩ := hv
  have hx := B.exec
  have hb := B.bytes
  have hr := B.returns
  have hts := kx_hts (a := ([.ref mo, .int (iz p0), .int (iz p1)] : List Value).toArray) hG
  have hown : s.vm.findClass RX6 = some m.cls := findClass_of_methodNamed B.named
  have hlocks := B.notSynchronized
  subst hsz
  have hD := hD0.self (sz := s.heap.size)
  generalize hAe : va_A (mW mo ma cs I F) s.heap.size = A at hD hZ ⊢
  have hA : ∀ q : Nat, s.heap.size ≤ q → A q := fun q h => by rw [← hAe]; exact Or.inr h
  have hS : va_S A s.heap s.heap [] := va_S.rf
  have hl := lv_entry ([.ref mo, .int (iz p0), .int (iz p1)]) (n := 4) (Nat.le_of_ble_eq_true rfl)
  rw [lg_entry_eq]
  generalize (lg_sl ([.ref mo, .int (iz p0), .int (iz p1)]) ++ List.replicate (4 - (lg_sl ([.ref mo, .int (iz p0), .int (iz p1)])).length) Slot.unset).toArray = ls at hl ⊢
  have hl : lv_has ls 4 [(0, .ref mo), (1, .int (iz p0)), (2, .int (iz p1))] := hl
  have hW0 : mWk I F I F := mWk.rf hI
  have hc0 := hI.hc
  refine lv_aload_n hx hb dX6_row_0 rfl (lv_at hl 0 rfl) ?_
  refine mk_callv (As := []) (rest := []) ⟨hx, hb, hml, hown, hts⟩ (k_look2 l dC dI mo ma cs I F  s.heap.size hI.hB hI.hc hI.hn hI.hlv hI.hkn hI.hk01 hKb.2 hKb.1.1 hKb.1.2.1 hKb.1.2.2.1 hKb.1.2.2.2) (cwV 0 hts (kx_gV kq_11_mask_0 kq_11_mask_1 kq_11_mask_2 kq_04_msmall_6 kq_11_mask_3 rfl) rfl rfl rfl (by decide +kernel) ⟨Nat.le_of_ble_eq_true rfl, Nat.le_of_ble_eq_true rfl⟩) hP hD hK hG hZ hS hA rfl hl.1 rfl (Nat.le_of_ble_eq_true rfl) dX6_row_1 ⟨Nat.le_of_ble_eq_true rfl, Nat.le_of_ble_eq_true rfl⟩ (fun I_3 F_4 H locs hq_2 hP hD hS => ?_)
  try dsimp only at hq_2
  have h40_5 : I_3 40 = I 40 ∧ F_4 39 = F 39 := ⟨((hq_2.1.2.1.1 40 (by decide))).trans (⟨rfl, rfl⟩ : I 40 = I 40 ∧ F 39 = F 39).1, ((hq_2.1.2.1.2 39 (by decide))).trans (⟨rfl, rfl⟩ : I 40 = I 40 ∧ F 39 = F 39).2⟩
  obtain ⟨hq_2, hkr6⟩ := hq_2
  have hkb6 : mKb I_3 F_4 := hKb.look hq_2.2.1 (by decide) hkr6
  have hk7 : mWk I F I_3 F_4 := mWk.look hI hq_2
  have hI7 : mIv I_3 F_4 := hI.go hk7
  have hw7 : mWk _ _ I_3 F_4 := hW0.tr hk7
  have e167 : I_3 16 = 1 := hq_2.2.2.1
  have hc7 := hI7.hc
  obtain ⟨hsmL, hszL, hrwL⟩ := hI7.hkn (by omega)
  refine lv_aload_n hx hb dX6_row_4 rfl (lv_at hl 0 rfl) ?_
  refine lv_iload_n hx hb dX6_row_5 rfl (lv_at hl 1 rfl) ?_
  refine ki_if_lt (tgt := 26) hx hb dX6_row_6 (by decide) (by omega) (by omega) (fun c_8 => ?_) (fun c_8 => ?_)
  · skip
    refine lv_iconst (v := iz 1) hx hb dX6_row_26 (by decide) ?_
    refine lv_goto (tgt := 31) hx hb dX6_row_27 (by decide) ?_
    refine lv_iconst (v := iz 0) hx hb dX6_row_31 (by decide) ?_
    refine lv_iconst (v := iz 0) hx hb dX6_row_32 (by decide) ?_
    refine mk_calli (As := [.int (iz 1), .int (iz 0), .int (iz 0)]) (rest := []) ⟨hx, hb, hml, hown, hts⟩ (k_refused1 l dC dI mo ma cs I_3 F_4 0 0 H.size (by omega) (by omega) (by omega) (by omega)) (cwV 3 hts (kx_gV kq_04_msmall_8 kq_04_msmall_9 kq_04_msmall_10 kq_04_msmall_6 kq_04_msmall_11 rfl) rfl rfl rfl (by decide +kernel) ⟨Nat.le_of_ble_eq_true rfl, Nat.le_of_ble_eq_true rfl⟩) hP hD hK hG hZ hS hA rfl hl.1 rfl (Nat.le_of_ble_eq_true rfl) dX6_row_33 ⟨Nat.le_of_ble_eq_true rfl, Nat.le_of_ble_eq_true rfl⟩ (fun z_9 I_11 F_12 H locs hq_10 hP hD hS => ?_)
    try dsimp only at hq_10
    obtain ⟨rfl, rfl, rfl⟩ := hq_10
    refine ki_if_eq (tgt := 41) hx hb dX6_row_36 (by decide) (by omega) (by omega) (fun c_13 => ?_) (fun c_13 => ?_)
    · omega
    · skip
      refine lv_iconst (v := iz 0) hx hb dX6_row_39 (by decide) ?_
      have hk14 : mWk _ _ (va_up I_3 0 1) F_4 ∧ _ := mWk.thr hI7 (v := 1) (by omega)
      have hI14 : mIv (va_up I_3 0 1) F_4 := hI7.go hk14.1
      have hw14 : mWk _ _ (va_up I_3 0 1) F_4 := hw7.tr hk14.1
      have e1614 : (va_up I_3 0 1) 16 = _ := hk14.2.1
      have e1914 : (va_up I_3 0 1) 19 = _ := hk14.2.2
      have e114 : (va_up I_3 0 1) 1 = _ := hk14.1.2.1.1 1 (by decide)
      have hkb15 : mKb (va_up I_3 0 1) F_4 := hkb6.ui 0 (by decide) _
      exact mk_ireti hx hb hr hlocks hP hD hK hS dX6_row_40 (⟨⟨hw14, hkb15⟩, h40_5⟩)
  · skip
    refine lv_iload_n hx hb dX6_row_9 rfl (lv_at hl 1 rfl) ?_
    refine lv_aload_n hx hb dX6_row_10 rfl (lv_at hl 0 rfl) ?_
    refine va_get (D := (dC, dI)) (ci := 6) (v := .int (iz (I_3 19))) (C := RX6) (T := TX6) (N := 44) hx hb hts kt_X6 hown hK hP 0 rfl rfl 19 (by decide) (kx_word hG kq_07_mlook_0 rfl) (fun _ h9 => h9) rfl dX6_row_11 ?_
    have hbd_16 := hI7.hB.1 19
    refine ki_icmp_ge (tgt := 26) hx hb dX6_row_14 (by decide) (by omega) (by omega) (by omega) (by omega) (fun c_17 => ?_) (fun c_17 => ?_)
    · skip
      refine lv_iconst (v := iz 1) hx hb dX6_row_26 (by decide) ?_
      refine lv_goto (tgt := 31) hx hb dX6_row_27 (by decide) ?_
      refine lv_iconst (v := iz 0) hx hb dX6_row_31 (by decide) ?_
      refine lv_iconst (v := iz 0) hx hb dX6_row_32 (by decide) ?_
      refine mk_calli (As := [.int (iz 1), .int (iz 0), .int (iz 0)]) (rest := []) ⟨hx, hb, hml, hown, hts⟩ (k_refused1 l dC dI mo ma cs I_3 F_4 0 0 H.size (by omega) (by omega) (by omega) (by omega)) (cwV 3 hts (kx_gV kq_04_msmall_8 kq_04_msmall_9 kq_04_msmall_10 kq_04_msmall_6 kq_04_msmall_11 rfl) rfl rfl rfl (by decide +kernel) ⟨Nat.le_of_ble_eq_true rfl, Nat.le_of_ble_eq_true rfl⟩) hP hD hK hG hZ hS hA rfl hl.1 rfl (Nat.le_of_ble_eq_true rfl) dX6_row_33 ⟨Nat.le_of_ble_eq_true rfl, Nat.le_of_ble_eq_true rfl⟩ (fun z_18 I_20 F_21 H locs hq_19 hP hD hS => ?_)
      try dsimp only at hq_19
      obtain ⟨rfl, rfl, rfl⟩ := hq_19
      refine ki_if_eq (tgt := 41) hx hb dX6_row_36 (by decide) (by omega) (by omega) (fun c_22 => ?_) (fun c_22 => ?_)
      · omega
      · skip
        refine lv_iconst (v := iz 0) hx hb dX6_row_39 (by decide) ?_
        have hk23 : mWk _ _ (va_up I_3 0 1) F_4 ∧ _ := mWk.thr hI7 (v := 1) (by omega)
        have hI23 : mIv (va_up I_3 0 1) F_4 := hI7.go hk23.1
        have hw23 : mWk _ _ (va_up I_3 0 1) F_4 := hw7.tr hk23.1
        have e1623 : (va_up I_3 0 1) 16 = _ := hk23.2.1
        have e1923 : (va_up I_3 0 1) 19 = _ := hk23.2.2
        have e123 : (va_up I_3 0 1) 1 = _ := hk23.1.2.1.1 1 (by decide)
        have hkb24 : mKb (va_up I_3 0 1) F_4 := hkb6.ui 0 (by decide) _
        exact mk_ireti hx hb hr hlocks hP hD hK hS dX6_row_40 (⟨⟨hw23, hkb24⟩, h40_5⟩)
    · skip
      refine lv_iload_n hx hb dX6_row_17 rfl (lv_at hl 2 rfl) ?_
      refine ki_if_lt (tgt := 26) hx hb dX6_row_18 (by decide) (by omega) (by omega) (fun c_25 => ?_) (fun c_25 => ?_)
      · skip
        refine lv_iconst (v := iz 1) hx hb dX6_row_26 (by decide) ?_
        refine lv_goto (tgt := 31) hx hb dX6_row_27 (by decide) ?_
        refine lv_iconst (v := iz 0) hx hb dX6_row_31 (by decide) ?_
        refine lv_iconst (v := iz 0) hx hb dX6_row_32 (by decide) ?_
        refine mk_calli (As := [.int (iz 1), .int (iz 0), .int (iz 0)]) (rest := []) ⟨hx, hb, hml, hown, hts⟩ (k_refused1 l dC dI mo ma cs I_3 F_4 0 0 H.size (by omega) (by omega) (by omega) (by omega)) (cwV 3 hts (kx_gV kq_04_msmall_8 kq_04_msmall_9 kq_04_msmall_10 kq_04_msmall_6 kq_04_msmall_11 rfl) rfl rfl rfl (by decide +kernel) ⟨Nat.le_of_ble_eq_true rfl, Nat.le_of_ble_eq_true rfl⟩) hP hD hK hG hZ hS hA rfl hl.1 rfl (Nat.le_of_ble_eq_true rfl) dX6_row_33 ⟨Nat.le_of_ble_eq_true rfl, Nat.le_of_ble_eq_true rfl⟩ (fun z_26 I_28 F_29 H locs hq_27 hP hD hS => ?_)
        try dsimp only at hq_27
        obtain ⟨rfl, rfl, rfl⟩ := hq_27
        refine ki_if_eq (tgt := 41) hx hb dX6_row_36 (by decide) (by omega) (by omega) (fun c_30 => ?_) (fun c_30 => ?_)
        · omega
        · skip
          refine lv_iconst (v := iz 0) hx hb dX6_row_39 (by decide) ?_
          have hk31 : mWk _ _ (va_up I_3 0 1) F_4 ∧ _ := mWk.thr hI7 (v := 1) (by omega)
          have hI31 : mIv (va_up I_3 0 1) F_4 := hI7.go hk31.1
          have hw31 : mWk _ _ (va_up I_3 0 1) F_4 := hw7.tr hk31.1
          have e1631 : (va_up I_3 0 1) 16 = _ := hk31.2.1
          have e1931 : (va_up I_3 0 1) 19 = _ := hk31.2.2
          have e131 : (va_up I_3 0 1) 1 = _ := hk31.1.2.1.1 1 (by decide)
          have hkb32 : mKb (va_up I_3 0 1) F_4 := hkb6.ui 0 (by decide) _
          exact mk_ireti hx hb hr hlocks hP hD hK hS dX6_row_40 (⟨⟨hw31, hkb32⟩, h40_5⟩)
      · skip
        refine lv_iload_n hx hb dX6_row_21 rfl (lv_at hl 2 rfl) ?_
        refine lv_iconst (v := iz 4) hx hb dX6_row_22 (by decide) ?_
        refine ki_icmp_le (tgt := 30) hx hb dX6_row_23 (by decide) (by omega) (by omega) (by omega) (by omega) (fun c_33 => ?_) (fun c_33 => ?_)
        · skip
          refine lv_iconst (v := iz 0) hx hb dX6_row_30 (by decide) ?_
          refine lv_iconst (v := iz 0) hx hb dX6_row_31 (by decide) ?_
          refine lv_iconst (v := iz 0) hx hb dX6_row_32 (by decide) ?_
          refine mk_calli (As := [.int (iz 0), .int (iz 0), .int (iz 0)]) (rest := []) ⟨hx, hb, hml, hown, hts⟩ (k_refused0 l dC dI mo ma cs I_3 F_4  H.size ) (cwV 3 hts (kx_gV kq_04_msmall_8 kq_04_msmall_9 kq_04_msmall_10 kq_04_msmall_6 kq_04_msmall_11 rfl) rfl rfl rfl (by decide +kernel) ⟨Nat.le_of_ble_eq_true rfl, Nat.le_of_ble_eq_true rfl⟩) hP hD hK hG hZ hS hA rfl hl.1 rfl (Nat.le_of_ble_eq_true rfl) dX6_row_33 ⟨Nat.le_of_ble_eq_true rfl, Nat.le_of_ble_eq_true rfl⟩ (fun z_34 I_36 F_37 H locs hq_35 hP hD hS => ?_)
          try dsimp only at hq_35
          obtain ⟨rfl, rfl, rfl⟩ := hq_35
          refine ki_if_eq (tgt := 41) hx hb dX6_row_36 (by decide) (by omega) (by omega) (fun c_38 => ?_) (fun c_38 => ?_)
          · skip
            have hrw9 := hrwL p0 (by omega) (by omega)
            refine lv_aload_n hx hb dX6_row_41 rfl (lv_at hl 0 rfl) ?_
            refine va_get (D := (dC, dI)) (ci := 6) (v := .ref (ma 18)) (C := RX6) (T := TX6) (N := 44) hx hb hts kt_X6 hown hK hP 0 rfl rfl 18 (by decide) (kx_word hG kq_07_mlook_1 rfl) (fun _ h9 => h9) rfl dX6_row_42 ?_
            refine lv_iload_n hx hb dX6_row_45 rfl (lv_at hl 1 rfl) ?_
            refine ki_iald (F := F_4 18) hx hb hK hP 14 13 rfl rfl (by omega) (by omega) (by decide) dX6_row_46 ?_
            have hbd_39 := hI7.hB.2 18 p0
            refine lv_istore_n (lv' := [(3, .int (iz (F_4 18 p0))), (0, .ref mo), (1, .int (iz p0)), (2, .int (iz p1))]) hx hb dX6_row_47 rfl hl (by decide) rfl (fun ls hl => ?_)
            refine lv_iload_n hx hb dX6_row_48 rfl (lv_at hl 3 rfl) ?_
            refine lv_iconst (v := iz 2) hx hb dX6_row_49 (by decide) ?_
            refine ki_icmp_ne (tgt := 64) hx hb dX6_row_50 (by decide) (by omega) (by omega) (by omega) (by omega) (fun c_40 => ?_) (fun c_40 => ?_)
            · skip
              refine lv_iload_n hx hb dX6_row_64 rfl (lv_at hl 3 rfl) ?_
              refine lv_iconst (v := iz 3) hx hb dX6_row_65 (by decide) ?_
              refine ki_icmp_ne (tgt := 79) hx hb dX6_row_66 (by decide) (by omega) (by omega) (by omega) (by omega) (fun c_41 => ?_) (fun c_41 => ?_)
              · skip
                refine lv_iload_n hx hb dX6_row_79 rfl (lv_at hl 3 rfl) ?_
                refine ki_if_ne (tgt := 87) hx hb dX6_row_80 (by decide) (by omega) (by omega) (fun c_42 => ?_) (fun c_42 => ?_)
                · skip
                  refine lv_iload_n hx hb dX6_row_87 rfl (lv_at hl 3 rfl) ?_
                  refine lv_iconst (v := iz 1) hx hb dX6_row_88 (by decide) ?_
                  refine ki_icmp_ne (tgt := 101) hx hb dX6_row_89 (by decide) (by omega) (by omega) (by omega) (by omega) (fun c_43 => ?_) (fun c_43 => ?_)
                  · skip
                    refine lv_aload_n hx hb dX6_row_101 rfl (lv_at hl 1 rfl) ?_
                    refine lv_iload_n hx hb dX6_row_102 rfl (lv_at hl 0 rfl) ?_
                    have hk44 : mWk _ _ (va_up I_3 0 0) F_4 ∧ _ := mWk.thr hI7 (v := 0) (by omega)
                    have hI44 : mIv (va_up I_3 0 0) F_4 := hI7.go hk44.1
                    have hw44 : mWk _ _ (va_up I_3 0 0) F_4 := hw7.tr hk44.1
                    have e1644 : (va_up I_3 0 0) 16 = _ := hk44.2.1
                    have e1944 : (va_up I_3 0 0) 19 = _ := hk44.2.2
                    have e144 : (va_up I_3 0 0) 1 = _ := hk44.1.2.1.1 1 (by decide)
                    have hkb45 : mKb (va_up I_3 0 0) F_4 := hkb6.ui 0 (by decide) _
                    refine mk_calli (As := [.int (iz (F_4 18 p0))]) (rest := []) ⟨hx, hb, hml, hown, hts⟩ (k_groupOf l dC dI mo ma cs (va_up I_3 0 0) F_4 (F_4 18 p0) H.size hI44.hB hI44.hc hI44.hn hI44.hlv (hI44.hkn (by omega)).1 (by omega)) (cwV 1 hts (kx_gV kq_10_mprint_28 kq_10_mprint_29 kq_10_mprint_30 kq_04_msmall_6 kq_10_mprint_31 rfl) rfl rfl rfl (by decide +kernel) ⟨Nat.le_of_ble_eq_true rfl, Nat.le_of_ble_eq_true rfl⟩) hP hD hK hG hZ hS hA rfl hl.1 rfl (Nat.le_of_ble_eq_true rfl) dX6_row_103 ⟨Nat.le_of_ble_eq_true rfl, Nat.le_of_ble_eq_true rfl⟩ (fun z_46 I_48 F_49 H locs hq_47 hP hD hS => ?_)
                    try dsimp only at hq_47
                    have h40_50 : I_48 40 = I 40 ∧ F_49 39 = F 39 := ⟨((congrFun hq_47.1 40).symm).trans h40_5.1, ((hq_47.2.2.1.2 39 (by decide))).trans h40_5.2⟩
                    have hkb51 : mKb I_48 F_49 := (by have h9 := hq_47.2.2.1; rw [← hq_47.1]; exact hkb45.fr h9 (by decide) (by decide))
                    have hk52 : mWk (va_up I_3 0 0) F_4 I_48 F_49 ∧ _ := mWk.scr hI44 hq_47.1 hq_47.2.1 hq_47.2.2.1
                    have hI52 : mIv I_48 F_49 := hI44.go hk52.1
                    have hw52 : mWk _ _ I_48 F_49 := hw44.tr hk52.1
                    have e1652 := hk52.2.1
                    have e1952 := hk52.2.2
                    have hc52 := hI52.hc
                    have hx52a := hk52.1.2.1.1 1 (by decide)
                    have hrg_53 := hq_47.2.2.2
                    exact mk_ireti hx hb hr hlocks hP hD hK hS dX6_row_106 (⟨⟨hw52, hkb51⟩, h40_50⟩)
                  · skip
                    refine lv_aload_n hx hb dX6_row_92 rfl (lv_at hl 1 rfl) ?_
                    refine va_get (D := (dC, dI)) (ci := 6) (v := .ref (ma 2)) (C := RX6) (T := TX6) (N := 44) hx hb hts kt_X6 hown hK hP 0 rfl rfl 2 (by decide) (kx_word hG kq_04_msmall_12 rfl) (fun _ h9 => h9) rfl dX6_row_93 ?_
                    refine lv_iload_n hx hb dX6_row_96 rfl (lv_at hl 0 rfl) ?_
                    refine ki_iald (F := F_4 2) hx hb hK hP 1 0 rfl rfl (by omega) (by omega) (by decide) dX6_row_97 ?_
                    have hbd_54 := hI7.hB.2 2 (F_4 18 p0)
                    refine lv_goto (tgt := 106) hx hb dX6_row_98 (by decide) ?_
                    have hk55 : mWk _ _ (va_up I_3 0 0) F_4 ∧ _ := mWk.thr hI7 (v := 0) (by omega)
                    have hI55 : mIv (va_up I_3 0 0) F_4 := hI7.go hk55.1
                    have hw55 : mWk _ _ (va_up I_3 0 0) F_4 := hw7.tr hk55.1
                    have e1655 : (va_up I_3 0 0) 16 = _ := hk55.2.1
                    have e1955 : (va_up I_3 0 0) 19 = _ := hk55.2.2
                    have e155 : (va_up I_3 0 0) 1 = _ := hk55.1.2.1.1 1 (by decide)
                    have hkb56 : mKb (va_up I_3 0 0) F_4 := hkb6.ui 0 (by decide) _
                    exact mk_ireti hx hb hr hlocks hP hD hK hS dX6_row_106 (⟨⟨hw55, hkb56⟩, h40_5⟩)
                · skip
                  refine lv_iload_n hx hb dX6_row_83 rfl (lv_at hl 0 rfl) ?_
                  refine lv_goto (tgt := 106) hx hb dX6_row_84 (by decide) ?_
                  have hk57 : mWk _ _ (va_up I_3 0 0) F_4 ∧ _ := mWk.thr hI7 (v := 0) (by omega)
                  have hI57 : mIv (va_up I_3 0 0) F_4 := hI7.go hk57.1
                  have hw57 : mWk _ _ (va_up I_3 0 0) F_4 := hw7.tr hk57.1
                  have e1657 : (va_up I_3 0 0) 16 = _ := hk57.2.1
                  have e1957 : (va_up I_3 0 0) 19 = _ := hk57.2.2
                  have e157 : (va_up I_3 0 0) 1 = _ := hk57.1.2.1.1 1 (by decide)
                  have hkb58 : mKb (va_up I_3 0 0) F_4 := hkb6.ui 0 (by decide) _
                  exact mk_ireti hx hb hr hlocks hP hD hK hS dX6_row_106 (⟨⟨hw57, hkb58⟩, h40_5⟩)
              · skip
                refine lv_aload_n hx hb dX6_row_69 rfl (lv_at hl 1 rfl) ?_
                refine lv_iload_n hx hb dX6_row_70 rfl (lv_at hl 0 rfl) ?_
                have hk59 : mWk _ _ (va_up I_3 0 0) F_4 ∧ _ := mWk.thr hI7 (v := 0) (by omega)
                have hI59 : mIv (va_up I_3 0 0) F_4 := hI7.go hk59.1
                have hw59 : mWk _ _ (va_up I_3 0 0) F_4 := hw7.tr hk59.1
                have e1659 : (va_up I_3 0 0) 16 = _ := hk59.2.1
                have e1959 : (va_up I_3 0 0) 19 = _ := hk59.2.2
                have e159 : (va_up I_3 0 0) 1 = _ := hk59.1.2.1.1 1 (by decide)
                have hkb60 : mKb (va_up I_3 0 0) F_4 := hkb6.ui 0 (by decide) _
                refine mk_callv (As := [.int (iz (F_4 18 p0))]) (rest := []) ⟨hx, hb, hml, hown, hts⟩ (k_gatherShown l dC dI mo ma cs (va_up I_3 0 0) F_4 (F_4 18 p0) H.size hI59.hB hI59.hc hI59.hmy (hI59.hkn (by omega)).1 hI59.hse hI59.hsu (by omega) (by omega)) (cwV 1 hts (kx_gV kq_10_mprint_12 kq_10_mprint_13 kq_10_mprint_14 kq_04_msmall_6 kq_10_mprint_15 rfl) rfl rfl rfl (by decide +kernel) ⟨Nat.le_of_ble_eq_true rfl, Nat.le_of_ble_eq_true rfl⟩) hP hD hK hG hZ hS hA rfl hl.1 rfl (Nat.le_of_ble_eq_true rfl) dX6_row_71 ⟨Nat.le_of_ble_eq_true rfl, Nat.le_of_ble_eq_true rfl⟩ (fun I_63 F_64 H locs hq_62 hP hD hS => ?_)
                try dsimp only at hq_62
                have h40_65 : I_63 40 = I 40 ∧ F_64 39 = F 39 := ⟨((hq_62.2.1.1 40 (by decide))).trans h40_5.1, ((hq_62.2.1.2 39 (by decide))).trans h40_5.2⟩
                have hkb66 : mKb I_63 F_64 := hkb60.fr hq_62.2.1 (by decide) (by decide)
                have hk67 : mWk (va_up I_3 0 0) F_4 I_63 F_64 ∧ _ := mWk.shw hI59 hq_62
                have hI67 : mIv I_63 F_64 := hI59.go hk67.1
                have hw67 : mWk _ _ I_63 F_64 := hw59.tr hk67.1
                have e1667 := hk67.2.1
                have e1967 := hk67.2.2
                have hc67 := hI67.hc
                have hx67a := hk67.1.2.1.1 1 (by decide)
                refine lv_aload_n hx hb dX6_row_74 rfl (lv_at hl 1 rfl) ?_
                refine va_get (D := (dC, dI)) (ci := 6) (v := .int (iz (I_63 35))) (C := RX6) (T := TX6) (N := 44) hx hb hts kt_X6 hown hK hP 0 rfl rfl 35 (by decide) (kx_word hG kq_09_mput_3 rfl) (fun _ h9 => h9) rfl dX6_row_75 ?_
                have hbd_68 := hI67.hB.1 35
                exact mk_ireti hx hb hr hlocks hP hD hK hS dX6_row_78 (⟨⟨hw67, hkb66⟩, h40_65⟩)
            · skip
              refine lv_aload_n hx hb dX6_row_53 rfl (lv_at hl 1 rfl) ?_
              refine lv_iload_n hx hb dX6_row_54 rfl (lv_at hl 0 rfl) ?_
              have hk69 : mWk _ _ (va_up I_3 0 0) F_4 ∧ _ := mWk.thr hI7 (v := 0) (by omega)
              have hI69 : mIv (va_up I_3 0 0) F_4 := hI7.go hk69.1
              have hw69 : mWk _ _ (va_up I_3 0 0) F_4 := hw7.tr hk69.1
              have e1669 : (va_up I_3 0 0) 16 = _ := hk69.2.1
              have e1969 : (va_up I_3 0 0) 19 = _ := hk69.2.2
              have e169 : (va_up I_3 0 0) 1 = _ := hk69.1.2.1.1 1 (by decide)
              have hkb70 : mKb (va_up I_3 0 0) F_4 := hkb6.ui 0 (by decide) _
              refine mk_callv (As := [.int (iz (F_4 18 p0))]) (rest := []) ⟨hx, hb, hml, hown, hts⟩ (k_gather l dC dI mo ma cs (va_up I_3 0 0) F_4 (F_4 18 p0) H.size hI69.hB hI69.hc hI69.hln hI69.hmf (by omega) (by omega)) (cwV 1 hts (kx_gV kq_10_mprint_0 kq_10_mprint_1 kq_10_mprint_2 kq_04_msmall_6 kq_10_mprint_3 rfl) rfl rfl rfl (by decide +kernel) ⟨Nat.le_of_ble_eq_true rfl, Nat.le_of_ble_eq_true rfl⟩) hP hD hK hG hZ hS hA rfl hl.1 rfl (Nat.le_of_ble_eq_true rfl) dX6_row_55 ⟨Nat.le_of_ble_eq_true rfl, Nat.le_of_ble_eq_true rfl⟩ (fun I_73 F_74 H locs hq_72 hP hD hS => ?_)
              try dsimp only at hq_72
              have h40_75 : I_73 40 = I 40 ∧ F_74 39 = F 39 := ⟨((hq_72.2.1.1 40 (by decide))).trans h40_5.1, ((hq_72.2.1.2 39 (by decide))).trans h40_5.2⟩
              have hkb76 : mKb I_73 F_74 := hkb70.fr hq_72.2.1 (by decide) (by decide)
              have hk77 : mWk (va_up I_3 0 0) F_4 I_73 F_74 ∧ _ := mWk.gat hI69 hq_72
              have hI77 : mIv I_73 F_74 := hI69.go hk77.1
              have hw77 : mWk _ _ I_73 F_74 := hw69.tr hk77.1
              have e1677 := hk77.2.1
              have e1977 := hk77.2.2
              have hc77 := hI77.hc
              have hx77a := hk77.1.2.1.1 1 (by decide)
              refine lv_aload_n hx hb dX6_row_58 rfl (lv_at hl 1 rfl) ?_
              refine lv_iconst (v := iz (-1)) hx hb dX6_row_59 (by decide) ?_
              refine mk_calli (As := [.int (iz (-1))]) (rest := []) ⟨hx, hb, hml, hown, hts⟩ (k_locate l dC dI mo ma cs I_73 F_74 (-1) H.size hI77.hB (by have h9 := hI77.hps.2.2.1; omega) hI77.hps.2.2.2 hI77.hps.2.1 (by omega) (by omega)) (cwV 1 hts (kx_gV kq_10_mprint_4 kq_10_mprint_5 kq_10_mprint_6 kq_04_msmall_6 kq_10_mprint_7 rfl) rfl rfl rfl (by decide +kernel) ⟨Nat.le_of_ble_eq_true rfl, Nat.le_of_ble_eq_true rfl⟩) hP hD hK hG hZ hS hA rfl hl.1 rfl (Nat.le_of_ble_eq_true rfl) dX6_row_60 ⟨Nat.le_of_ble_eq_true rfl, Nat.le_of_ble_eq_true rfl⟩ (fun z_78 I_80 F_81 H locs hq_79 hP hD hS => ?_)
              try dsimp only at hq_79
              have h40_82 : I_80 40 = I 40 ∧ F_81 39 = F 39 := ⟨((hq_79.2.2.1.1 40 (by decide))).trans h40_75.1, ((congrFun hq_79.1 39).symm).trans h40_75.2⟩
              have hkb83 : mKb I_80 F_81 := (by have h9 := hq_79.2.2.1; rw [← hq_79.1]; exact hkb76.fr h9 (by decide) (by decide))
              have hk84 : mWk I_73 F_74 I_80 F_81 ∧ _ := mWk.loc hI77 hq_79
              have hI84 : mIv I_80 F_81 := hI77.go hk84.1
              have hw84 : mWk _ _ I_80 F_81 := hw77.tr hk84.1
              have e1684 := hk84.2.1
              have e1984 := hk84.2.2
              have hc84 := hI84.hc
              have hx84a := hk84.1.2.1.1 1 (by decide)
              have hr9 := hq_79.2.2.2.2
              exact mk_ireti hx hb hr hlocks hP hD hK hS dX6_row_63 (⟨⟨hw84, hkb83⟩, h40_82⟩)
          · omega
        · skip
          refine lv_iconst (v := iz 1) hx hb dX6_row_26 (by decide) ?_
          refine lv_goto (tgt := 31) hx hb dX6_row_27 (by decide) ?_
          refine lv_iconst (v := iz 0) hx hb dX6_row_31 (by decide) ?_
          refine lv_iconst (v := iz 0) hx hb dX6_row_32 (by decide) ?_
          refine mk_calli (As := [.int (iz 1), .int (iz 0), .int (iz 0)]) (rest := []) ⟨hx, hb, hml, hown, hts⟩ (k_refused1 l dC dI mo ma cs I_3 F_4 0 0 H.size (by omega) (by omega) (by omega) (by omega)) (cwV 3 hts (kx_gV kq_04_msmall_8 kq_04_msmall_9 kq_04_msmall_10 kq_04_msmall_6 kq_04_msmall_11 rfl) rfl rfl rfl (by decide +kernel) ⟨Nat.le_of_ble_eq_true rfl, Nat.le_of_ble_eq_true rfl⟩) hP hD hK hG hZ hS hA rfl hl.1 rfl (Nat.le_of_ble_eq_true rfl) dX6_row_33 ⟨Nat.le_of_ble_eq_true rfl, Nat.le_of_ble_eq_true rfl⟩ (fun z_85 I_87 F_88 H locs hq_86 hP hD hS => ?_)
          try dsimp only at hq_86
          obtain ⟨rfl, rfl, rfl⟩ := hq_86
          refine ki_if_eq (tgt := 41) hx hb dX6_row_36 (by decide) (by omega) (by omega) (fun c_89 => ?_) (fun c_89 => ?_)
          · omega
          · skip
            refine lv_iconst (v := iz 0) hx hb dX6_row_39 (by decide) ?_
            have hk90 : mWk _ _ (va_up I_3 0 1) F_4 ∧ _ := mWk.thr hI7 (v := 1) (by omega)
            have hI90 : mIv (va_up I_3 0 1) F_4 := hI7.go hk90.1
            have hw90 : mWk _ _ (va_up I_3 0 1) F_4 := hw7.tr hk90.1
            have e1690 : (va_up I_3 0 1) 16 = _ := hk90.2.1
            have e1990 : (va_up I_3 0 1) 19 = _ := hk90.2.2
            have e190 : (va_up I_3 0 1) 1 = _ := hk90.1.2.1.1 1 (by decide)
            have hkb91 : mKb (va_up I_3 0 1) F_4 := hkb6.ui 0 (by decide) _
            exact mk_ireti hx hb hr hlocks hP hD hK hS dX6_row_40 (⟨⟨hw90, hkb91⟩, h40_5⟩)
set_option maxHeartbeats 4000000 in
set_option maxRecDepth 100000 in
theorem k_locator8 (l : Launch) (dC : Nat → ClassId) (dI : Nat → Nat → Nat) (mo : Nat) (ma : Nat → Nat) (cs : Nat → ClassId) (I : Nat → Int) (F : Nat → Int → Int) (p0 : Int) (p1 : Int) (p2 : Int) (sz : Nat) (hI : mIv I F) (hp01 : -2147483648 ≤ p0) (hp02 : p0 < 2147483648) (hp11 : -2147483648 ≤ p1) (hp12 : p1 < 2147483648) (hp21 : -2147483648 ≤ p2) (hp22 : p2 < 2147483648) (hKb : mKb I F) : mMi l yX6_locator (.code yX6_locator cX6_locator 5 (some .int)) 5 120 dC dI mo ma cs I F [.ref mo, .int (iz p0), .int (iz p1), .int (iz p2)] sz (fun (r : Int) (I' : Nat → Int) (F' : Nat → Int → Int) => (mWk I F I' F' ∧ mKb I' F') ∧ I' 40 = I 40 ∧ F' 39 = F 39) := by
  refine Met.ofW (cc := cX6_locator) (maxL := 5) (ret := (some .int)) (by decide) rfl ?_
  intro p e s m args below meth c s₁ B hml hv
  obtain ⟨rfl, hsz, hP, hK, hD0, hG, hZ⟩ := hv
  have hx := B.exec
  have hb := B.bytes
  have hr := B.returns
  have hts := kx_hts (a := ([.ref mo, .int (iz p0), .int (iz p1), .int (iz p2)] : List Value).toArray) hG
  have hown : s.vm.findClass RX6 = some m.cls := findClass_of_methodNamed B.named
  have hlocks := B.notSynchronized
  subst hsz
  have hD := hD0.self (sz := s.heap.size)
  generalize hAe : va_A (mW mo ma cs I F) s.heap.size = A at hD hZ ⊢
  have hA : ∀ q : Nat, s.heap.size ≤ q → A q := fun q h => by rw [← hAe]; exact Or.inr h
  have hS : va_S A s.heap s.heap [] := va_S.rf
  have hl := lv_entry ([.ref mo, .int (iz p0), .int (iz p1), .int (iz p2)]) (n := 5) (Nat.le_of_ble_eq_true rfl)
  rw [lg_entry_eq]
  generalize (lg_sl ([.ref mo, .int (iz p0), .int (iz p1), .int (iz p2)]) ++ List.replicate (5 - (lg_sl ([.ref mo, .int (iz p0), .int (iz p1), .int (iz p2)])).length) Slot.unset).toArray = ls at hl ⊢
  have hl : lv_has ls 5 [(0, .ref mo), (1, .int (iz p0)), (2, .int (iz p1)), (3, .int (iz p2))] := hl
  have hW0 : mWk I F I F := mWk.rf hI
  have hc0 := hI.hc
  refine lv_aload_n hx hb dX6_locator_0 rfl (lv_at hl 0 rfl) ?_
  refine mk_callv (As := []) (rest := []) ⟨hx, hb, hml, hown, hts⟩ (k_look2 l dC dI mo ma cs I F  s.heap.size hI.hB hI.hc hI.hn hI.hlv hI.hkn hI.hk01 hKb.2 hKb.1.1 hKb.1.2.1 hKb.1.2.2.1 hKb.1.2.2.2) (cwV 0 hts (kx_gV kq_11_mask_0 kq_11_mask_1 kq_11_mask_2 kq_04_msmall_6 kq_11_mask_3 rfl) rfl rfl rfl (by decide +kernel) ⟨Nat.le_of_ble_eq_true rfl, Nat.le_of_ble_eq_true rfl⟩) hP hD hK hG hZ hS hA rfl hl.1 rfl (Nat.le_of_ble_eq_true rfl) dX6_locator_1 ⟨Nat.le_of_ble_eq_true rfl, Nat.le_of_ble_eq_true rfl⟩ (fun I_3 F_4 H locs hq_2 hP hD hS => ?_)
  try dsimp only at hq_2
  have h40_5 : I_3 40 = I 40 ∧ F_4 39 = F 39 := ⟨((hq_2.1.2.1.1 40 (by decide))).trans (⟨rfl, rfl⟩ : I 40 = I 40 ∧ F 39 = F 39).1, ((hq_2.1.2.1.2 39 (by decide))).trans (⟨rfl, rfl⟩ : I 40 = I 40 ∧ F 39 = F 39).2⟩
  obtain ⟨hq_2, hkr6⟩ := hq_2
  have hkb6 : mKb I_3 F_4 := hKb.look hq_2.2.1 (by decide) hkr6
  have hk7 : mWk I F I_3 F_4 := mWk.look hI hq_2
  have hI7 : mIv I_3 F_4 := hI.go hk7
  have hw7 : mWk _ _ I_3 F_4 := hW0.tr hk7
  have e167 : I_3 16 = 1 := hq_2.2.2.1
  have hc7 := hI7.hc
  obtain ⟨hsmL, hszL, hrwL⟩ := hI7.hkn (by omega)
  refine lv_aload_n hx hb dX6_locator_4 rfl (lv_at hl 0 rfl) ?_
  refine lv_iload_n hx hb dX6_locator_5 rfl (lv_at hl 1 rfl) ?_
  refine ki_if_lt (tgt := 17) hx hb dX6_locator_6 (by decide) (by omega) (by omega) (fun c_8 => ?_) (fun c_8 => ?_)
  · skip
    refine lv_iconst (v := iz 1) hx hb dX6_locator_17 (by decide) ?_
    refine lv_goto (tgt := 22) hx hb dX6_locator_18 (by decide) ?_
    refine lv_iconst (v := iz 0) hx hb dX6_locator_22 (by decide) ?_
    refine lv_iconst (v := iz 0) hx hb dX6_locator_23 (by decide) ?_
    refine mk_calli (As := [.int (iz 1), .int (iz 0), .int (iz 0)]) (rest := []) ⟨hx, hb, hml, hown, hts⟩ (k_refused1 l dC dI mo ma cs I_3 F_4 0 0 H.size (by omega) (by omega) (by omega) (by omega)) (cwV 3 hts (kx_gV kq_04_msmall_8 kq_04_msmall_9 kq_04_msmall_10 kq_04_msmall_6 kq_04_msmall_11 rfl) rfl rfl rfl (by decide +kernel) ⟨Nat.le_of_ble_eq_true rfl, Nat.le_of_ble_eq_true rfl⟩) hP hD hK hG hZ hS hA rfl hl.1 rfl (Nat.le_of_ble_eq_true rfl) dX6_locator_24 ⟨Nat.le_of_ble_eq_true rfl, Nat.le_of_ble_eq_true rfl⟩ (fun z_9 I_11 F_12 H locs hq_10 hP hD hS => ?_)
    try dsimp only at hq_10
    obtain ⟨rfl, rfl, rfl⟩ := hq_10
    refine ki_if_eq (tgt := 32) hx hb dX6_locator_27 (by decide) (by omega) (by omega) (fun c_13 => ?_) (fun c_13 => ?_)
    · omega
    · skip
      refine lv_iconst (v := iz 0) hx hb dX6_locator_30 (by decide) ?_
      have hk14 : mWk _ _ (va_up I_3 0 1) F_4 ∧ _ := mWk.thr hI7 (v := 1) (by omega)
      have hI14 : mIv (va_up I_3 0 1) F_4 := hI7.go hk14.1
      have hw14 : mWk _ _ (va_up I_3 0 1) F_4 := hw7.tr hk14.1
      have e1614 : (va_up I_3 0 1) 16 = _ := hk14.2.1
      have e1914 : (va_up I_3 0 1) 19 = _ := hk14.2.2
      have e114 : (va_up I_3 0 1) 1 = _ := hk14.1.2.1.1 1 (by decide)
      have hkb15 : mKb (va_up I_3 0 1) F_4 := hkb6.ui 0 (by decide) _
      exact mk_ireti hx hb hr hlocks hP hD hK hS dX6_locator_31 (⟨⟨hw14, hkb15⟩, h40_5⟩)
  · skip
    refine lv_iload_n hx hb dX6_locator_9 rfl (lv_at hl 1 rfl) ?_
    refine lv_aload_n hx hb dX6_locator_10 rfl (lv_at hl 0 rfl) ?_
    refine va_get (D := (dC, dI)) (ci := 6) (v := .int (iz (I_3 19))) (C := RX6) (T := TX6) (N := 44) hx hb hts kt_X6 hown hK hP 0 rfl rfl 19 (by decide) (kx_word hG kq_07_mlook_0 rfl) (fun _ h9 => h9) rfl dX6_locator_11 ?_
    have hbd_16 := hI7.hB.1 19
    refine ki_icmp_lt (tgt := 21) hx hb dX6_locator_14 (by decide) (by omega) (by omega) (by omega) (by omega) (fun c_17 => ?_) (fun c_17 => ?_)
    · skip
      refine lv_iconst (v := iz 0) hx hb dX6_locator_21 (by decide) ?_
      refine lv_iconst (v := iz 0) hx hb dX6_locator_22 (by decide) ?_
      refine lv_iconst (v := iz 0) hx hb dX6_locator_23 (by decide) ?_
      refine mk_calli (As := [.int (iz 0), .int (iz 0), .int (iz 0)]) (rest := []) ⟨hx, hb, hml, hown, hts⟩ (k_refused0 l dC dI mo ma cs I_3 F_4  H.size ) (cwV 3 hts (kx_gV kq_04_msmall_8 kq_04_msmall_9 kq_04_msmall_10 kq_04_msmall_6 kq_04_msmall_11 rfl) rfl rfl rfl (by decide +kernel) ⟨Nat.le_of_ble_eq_true rfl, Nat.le_of_ble_eq_true rfl⟩) hP hD hK hG hZ hS hA rfl hl.1 rfl (Nat.le_of_ble_eq_true rfl) dX6_locator_24 ⟨Nat.le_of_ble_eq_true rfl, Nat.le_of_ble_eq_true rfl⟩ (fun z_18 I_20 F_21 H locs hq_19 hP hD hS => ?_)
      try dsimp only at hq_19
      obtain ⟨rfl, rfl, rfl⟩ := hq_19
      refine ki_if_eq (tgt := 32) hx hb dX6_locator_27 (by decide) (by omega) (by omega) (fun c_22 => ?_) (fun c_22 => ?_)
      · skip
        have hrw9 := hrwL p0 (by omega) (by omega)
        refine lv_aload_n hx hb dX6_locator_32 rfl (lv_at hl 0 rfl) ?_
        refine lv_aload_n hx hb dX6_locator_33 rfl (lv_at hl 0 rfl) ?_
        refine va_get (D := (dC, dI)) (ci := 6) (v := .ref (ma 18)) (C := RX6) (T := TX6) (N := 44) hx hb hts kt_X6 hown hK hP 0 rfl rfl 18 (by decide) (kx_word hG kq_07_mlook_1 rfl) (fun _ h9 => h9) rfl dX6_locator_34 ?_
        refine lv_iload_n hx hb dX6_locator_37 rfl (lv_at hl 1 rfl) ?_
        refine ki_iald (F := F_4 18) hx hb hK hP 14 13 rfl rfl (by omega) (by omega) (by decide) dX6_locator_38 ?_
        have hbd_23 := hI7.hB.2 18 p0
        have hk24 : mWk _ _ (va_up I_3 0 0) F_4 ∧ _ := mWk.thr hI7 (v := 0) (by omega)
        have hI24 : mIv (va_up I_3 0 0) F_4 := hI7.go hk24.1
        have hw24 : mWk _ _ (va_up I_3 0 0) F_4 := hw7.tr hk24.1
        have e1624 : (va_up I_3 0 0) 16 = _ := hk24.2.1
        have e1924 : (va_up I_3 0 0) 19 = _ := hk24.2.2
        have e124 : (va_up I_3 0 0) 1 = _ := hk24.1.2.1.1 1 (by decide)
        have hkb25 : mKb (va_up I_3 0 0) F_4 := hkb6.ui 0 (by decide) _
        refine mk_callv (As := [.int (iz (F_4 18 p0))]) (rest := []) ⟨hx, hb, hml, hown, hts⟩ (k_gather l dC dI mo ma cs (va_up I_3 0 0) F_4 (F_4 18 p0) H.size hI24.hB hI24.hc hI24.hln hI24.hmf (by omega) (by omega)) (cwV 1 hts (kx_gV kq_10_mprint_0 kq_10_mprint_1 kq_10_mprint_2 kq_04_msmall_6 kq_10_mprint_3 rfl) rfl rfl rfl (by decide +kernel) ⟨Nat.le_of_ble_eq_true rfl, Nat.le_of_ble_eq_true rfl⟩) hP hD hK hG hZ hS hA rfl hl.1 rfl (Nat.le_of_ble_eq_true rfl) dX6_locator_39 ⟨Nat.le_of_ble_eq_true rfl, Nat.le_of_ble_eq_true rfl⟩ (fun I_28 F_29 H locs hq_27 hP hD hS => ?_)
        try dsimp only at hq_27
        have h40_30 : I_28 40 = I 40 ∧ F_29 39 = F 39 := ⟨((hq_27.2.1.1 40 (by decide))).trans h40_5.1, ((hq_27.2.1.2 39 (by decide))).trans h40_5.2⟩
        have hkb31 : mKb I_28 F_29 := hkb25.fr hq_27.2.1 (by decide) (by decide)
        have hk32 : mWk (va_up I_3 0 0) F_4 I_28 F_29 ∧ _ := mWk.gat hI24 hq_27
        have hI32 : mIv I_28 F_29 := hI24.go hk32.1
        have hw32 : mWk _ _ I_28 F_29 := hw24.tr hk32.1
        have e1632 := hk32.2.1
        have e1932 := hk32.2.2
        have hc32 := hI32.hc
        have hx32a := hk32.1.2.1.1 1 (by decide)
        refine lv_aload_n hx hb dX6_locator_42 rfl (lv_at hl 0 rfl) ?_
        refine lv_iload_n hx hb dX6_locator_43 rfl (lv_at hl 2 rfl) ?_
        refine mk_calli (As := [.int (iz p1)]) (rest := []) ⟨hx, hb, hml, hown, hts⟩ (k_locate l dC dI mo ma cs I_28 F_29 p1 H.size hI32.hB (by have h9 := hI32.hps.2.2.1; omega) hI32.hps.2.2.2 hI32.hps.2.1 (by omega) (by omega)) (cwV 1 hts (kx_gV kq_10_mprint_4 kq_10_mprint_5 kq_10_mprint_6 kq_04_msmall_6 kq_10_mprint_7 rfl) rfl rfl rfl (by decide +kernel) ⟨Nat.le_of_ble_eq_true rfl, Nat.le_of_ble_eq_true rfl⟩) hP hD hK hG hZ hS hA rfl hl.1 rfl (Nat.le_of_ble_eq_true rfl) dX6_locator_44 ⟨Nat.le_of_ble_eq_true rfl, Nat.le_of_ble_eq_true rfl⟩ (fun z_33 I_35 F_36 H locs hq_34 hP hD hS => ?_)
        try dsimp only at hq_34
        have h40_37 : I_35 40 = I 40 ∧ F_36 39 = F 39 := ⟨((hq_34.2.2.1.1 40 (by decide))).trans h40_30.1, ((congrFun hq_34.1 39).symm).trans h40_30.2⟩
        have hkb38 : mKb I_35 F_36 := (by have h9 := hq_34.2.2.1; rw [← hq_34.1]; exact hkb31.fr h9 (by decide) (by decide))
        have hk39 : mWk I_28 F_29 I_35 F_36 ∧ _ := mWk.loc hI32 hq_34
        have hI39 : mIv I_35 F_36 := hI32.go hk39.1
        have hw39 : mWk _ _ I_35 F_36 := hw32.tr hk39.1
        have e1639 := hk39.2.1
        have e1939 := hk39.2.2
        have hc39 := hI39.hc
        have hx39a := hk39.1.2.1.1 1 (by decide)
        have hr9 := hq_34.2.2.2.2
        refine lv_istore (lv' := [(4, .int (iz z_33)), (0, .ref mo), (1, .int (iz p0)), (2, .int (iz p1)), (3, .int (iz p2))]) hx hb dX6_locator_47 hl (by decide) rfl (fun ls hl => ?_)
        refine lv_aload_n hx hb dX6_locator_49 rfl (lv_at hl 1 rfl) ?_
        refine lv_iload_n hx hb dX6_locator_50 rfl (lv_at hl 3 rfl) ?_
        refine ki_if_lt (tgt := 69) hx hb dX6_locator_51 (by decide) (by omega) (by omega) (fun c_40 => ?_) (fun c_40 => ?_)
        · skip
          refine lv_iconst (v := iz 1) hx hb dX6_locator_69 (by decide) ?_
          refine lv_goto (tgt := 74) hx hb dX6_locator_70 (by decide) ?_
          refine lv_iconst (v := iz 0) hx hb dX6_locator_74 (by decide) ?_
          refine lv_iconst (v := iz 0) hx hb dX6_locator_75 (by decide) ?_
          refine mk_calli (As := [.int (iz 1), .int (iz 0), .int (iz 0)]) (rest := []) ⟨hx, hb, hml, hown, hts⟩ (k_refused1 l dC dI mo ma cs I_35 F_36 0 0 H.size (by omega) (by omega) (by omega) (by omega)) (cwV 3 hts (kx_gV kq_04_msmall_8 kq_04_msmall_9 kq_04_msmall_10 kq_04_msmall_6 kq_04_msmall_11 rfl) rfl rfl rfl (by decide +kernel) ⟨Nat.le_of_ble_eq_true rfl, Nat.le_of_ble_eq_true rfl⟩) hP hD hK hG hZ hS hA rfl hl.1 rfl (Nat.le_of_ble_eq_true rfl) dX6_locator_76 ⟨Nat.le_of_ble_eq_true rfl, Nat.le_of_ble_eq_true rfl⟩ (fun z_41 I_43 F_44 H locs hq_42 hP hD hS => ?_)
          try dsimp only at hq_42
          obtain ⟨rfl, rfl, rfl⟩ := hq_42
          refine ki_if_eq (tgt := 84) hx hb dX6_locator_79 (by decide) (by omega) (by omega) (fun c_45 => ?_) (fun c_45 => ?_)
          · omega
          · skip
            refine lv_iconst (v := iz 0) hx hb dX6_locator_82 (by decide) ?_
            have hk46 : mWk _ _ (va_up I_35 0 1) F_36 ∧ _ := mWk.thr hI39 (v := 1) (by omega)
            have hI46 : mIv (va_up I_35 0 1) F_36 := hI39.go hk46.1
            have hw46 : mWk _ _ (va_up I_35 0 1) F_36 := hw39.tr hk46.1
            have e1646 : (va_up I_35 0 1) 16 = _ := hk46.2.1
            have e1946 : (va_up I_35 0 1) 19 = _ := hk46.2.2
            have e146 : (va_up I_35 0 1) 1 = _ := hk46.1.2.1.1 1 (by decide)
            have hkb47 : mKb (va_up I_35 0 1) F_36 := hkb38.ui 0 (by decide) _
            exact mk_ireti hx hb hr hlocks hP hD hK hS dX6_locator_83 (⟨⟨hw46, hkb47⟩, h40_37⟩)
        · skip
          refine lv_iload_n hx hb dX6_locator_54 rfl (lv_at hl 3 rfl) ?_
          refine lv_iload hx hb dX6_locator_55 (lv_at hl 0 rfl) ?_
          refine ki_icmp_ge (tgt := 69) hx hb dX6_locator_57 (by decide) (by omega) (by omega) (by omega) (by omega) (fun c_48 => ?_) (fun c_48 => ?_)
          · skip
            refine lv_iconst (v := iz 1) hx hb dX6_locator_69 (by decide) ?_
            refine lv_goto (tgt := 74) hx hb dX6_locator_70 (by decide) ?_
            refine lv_iconst (v := iz 0) hx hb dX6_locator_74 (by decide) ?_
            refine lv_iconst (v := iz 0) hx hb dX6_locator_75 (by decide) ?_
            refine mk_calli (As := [.int (iz 1), .int (iz 0), .int (iz 0)]) (rest := []) ⟨hx, hb, hml, hown, hts⟩ (k_refused1 l dC dI mo ma cs I_35 F_36 0 0 H.size (by omega) (by omega) (by omega) (by omega)) (cwV 3 hts (kx_gV kq_04_msmall_8 kq_04_msmall_9 kq_04_msmall_10 kq_04_msmall_6 kq_04_msmall_11 rfl) rfl rfl rfl (by decide +kernel) ⟨Nat.le_of_ble_eq_true rfl, Nat.le_of_ble_eq_true rfl⟩) hP hD hK hG hZ hS hA rfl hl.1 rfl (Nat.le_of_ble_eq_true rfl) dX6_locator_76 ⟨Nat.le_of_ble_eq_true rfl, Nat.le_of_ble_eq_true rfl⟩ (fun z_49 I_51 F_52 H locs hq_50 hP hD hS => ?_)
            try dsimp only at hq_50
            obtain ⟨rfl, rfl, rfl⟩ := hq_50
            refine ki_if_eq (tgt := 84) hx hb dX6_locator_79 (by decide) (by omega) (by omega) (fun c_53 => ?_) (fun c_53 => ?_)
            · omega
            · skip
              refine lv_iconst (v := iz 0) hx hb dX6_locator_82 (by decide) ?_
              have hk54 : mWk _ _ (va_up I_35 0 1) F_36 ∧ _ := mWk.thr hI39 (v := 1) (by omega)
              have hI54 : mIv (va_up I_35 0 1) F_36 := hI39.go hk54.1
              have hw54 : mWk _ _ (va_up I_35 0 1) F_36 := hw39.tr hk54.1
              have e1654 : (va_up I_35 0 1) 16 = _ := hk54.2.1
              have e1954 : (va_up I_35 0 1) 19 = _ := hk54.2.2
              have e154 : (va_up I_35 0 1) 1 = _ := hk54.1.2.1.1 1 (by decide)
              have hkb55 : mKb (va_up I_35 0 1) F_36 := hkb38.ui 0 (by decide) _
              exact mk_ireti hx hb hr hlocks hP hD hK hS dX6_locator_83 (⟨⟨hw54, hkb55⟩, h40_37⟩)
          · skip
            refine lv_iload_n hx hb dX6_locator_60 rfl (lv_at hl 4 rfl) ?_
            refine ki_if_lt (tgt := 69) hx hb dX6_locator_61 (by decide) (by omega) (by omega) (fun c_56 => ?_) (fun c_56 => ?_)
            · skip
              refine lv_iconst (v := iz 1) hx hb dX6_locator_69 (by decide) ?_
              refine lv_goto (tgt := 74) hx hb dX6_locator_70 (by decide) ?_
              refine lv_iconst (v := iz 0) hx hb dX6_locator_74 (by decide) ?_
              refine lv_iconst (v := iz 0) hx hb dX6_locator_75 (by decide) ?_
              refine mk_calli (As := [.int (iz 1), .int (iz 0), .int (iz 0)]) (rest := []) ⟨hx, hb, hml, hown, hts⟩ (k_refused1 l dC dI mo ma cs I_35 F_36 0 0 H.size (by omega) (by omega) (by omega) (by omega)) (cwV 3 hts (kx_gV kq_04_msmall_8 kq_04_msmall_9 kq_04_msmall_10 kq_04_msmall_6 kq_04_msmall_11 rfl) rfl rfl rfl (by decide +kernel) ⟨Nat.le_of_ble_eq_true rfl, Nat.le_of_ble_eq_true rfl⟩) hP hD hK hG hZ hS hA rfl hl.1 rfl (Nat.le_of_ble_eq_true rfl) dX6_locator_76 ⟨Nat.le_of_ble_eq_true rfl, Nat.le_of_ble_eq_true rfl⟩ (fun z_57 I_59 F_60 H locs hq_58 hP hD hS => ?_)
              try dsimp only at hq_58
              obtain ⟨rfl, rfl, rfl⟩ := hq_58
              refine ki_if_eq (tgt := 84) hx hb dX6_locator_79 (by decide) (by omega) (by omega) (fun c_61 => ?_) (fun c_61 => ?_)
              · omega
              · skip
                refine lv_iconst (v := iz 0) hx hb dX6_locator_82 (by decide) ?_
                have hk62 : mWk _ _ (va_up I_35 0 1) F_36 ∧ _ := mWk.thr hI39 (v := 1) (by omega)
                have hI62 : mIv (va_up I_35 0 1) F_36 := hI39.go hk62.1
                have hw62 : mWk _ _ (va_up I_35 0 1) F_36 := hw39.tr hk62.1
                have e1662 : (va_up I_35 0 1) 16 = _ := hk62.2.1
                have e1962 : (va_up I_35 0 1) 19 = _ := hk62.2.2
                have e162 : (va_up I_35 0 1) 1 = _ := hk62.1.2.1.1 1 (by decide)
                have hkb63 : mKb (va_up I_35 0 1) F_36 := hkb38.ui 0 (by decide) _
                exact mk_ireti hx hb hr hlocks hP hD hK hS dX6_locator_83 (⟨⟨hw62, hkb63⟩, h40_37⟩)
            · skip
              refine lv_iload_n hx hb dX6_locator_64 rfl (lv_at hl 4 rfl) ?_
              refine lv_iconst (v := iz 2) hx hb dX6_locator_65 (by decide) ?_
              refine ki_icmp_le (tgt := 73) hx hb dX6_locator_66 (by decide) (by omega) (by omega) (by omega) (by omega) (fun c_64 => ?_) (fun c_64 => ?_)
              · skip
                refine lv_iconst (v := iz 0) hx hb dX6_locator_73 (by decide) ?_
                refine lv_iconst (v := iz 0) hx hb dX6_locator_74 (by decide) ?_
                refine lv_iconst (v := iz 0) hx hb dX6_locator_75 (by decide) ?_
                refine mk_calli (As := [.int (iz 0), .int (iz 0), .int (iz 0)]) (rest := []) ⟨hx, hb, hml, hown, hts⟩ (k_refused0 l dC dI mo ma cs I_35 F_36  H.size ) (cwV 3 hts (kx_gV kq_04_msmall_8 kq_04_msmall_9 kq_04_msmall_10 kq_04_msmall_6 kq_04_msmall_11 rfl) rfl rfl rfl (by decide +kernel) ⟨Nat.le_of_ble_eq_true rfl, Nat.le_of_ble_eq_true rfl⟩) hP hD hK hG hZ hS hA rfl hl.1 rfl (Nat.le_of_ble_eq_true rfl) dX6_locator_76 ⟨Nat.le_of_ble_eq_true rfl, Nat.le_of_ble_eq_true rfl⟩ (fun z_65 I_67 F_68 H locs hq_66 hP hD hS => ?_)
                try dsimp only at hq_66
                obtain ⟨rfl, rfl, rfl⟩ := hq_66
                refine ki_if_eq (tgt := 84) hx hb dX6_locator_79 (by decide) (by omega) (by omega) (fun c_69 => ?_) (fun c_69 => ?_)
                · skip
                  refine lv_iload_n hx hb dX6_locator_84 rfl (lv_at hl 4 rfl) ?_
                  refine ki_if_ne (tgt := 95) hx hb dX6_locator_85 (by decide) (by omega) (by omega) (fun c_70 => ?_) (fun c_70 => ?_)
                  · skip
                    refine lv_iload_n hx hb dX6_locator_95 rfl (lv_at hl 4 rfl) ?_
                    refine lv_iconst (v := iz 1) hx hb dX6_locator_96 (by decide) ?_
                    refine ki_icmp_ne (tgt := 107) hx hb dX6_locator_97 (by decide) (by omega) (by omega) (by omega) (by omega) (fun c_71 => ?_) (fun c_71 => ?_)
                    · skip
                      refine lv_aload_n hx hb dX6_locator_107 rfl (lv_at hl 1 rfl) ?_
                      refine va_get (D := (dC, dI)) (ci := 6) (v := .int (iz (I_35 33))) (C := RX6) (T := TX6) (N := 44) hx hb hts kt_X6 hown hK hP 0 rfl rfl 33 (by decide) (kx_word hG kq_09_mput_2 rfl) (fun _ h9 => h9) rfl dX6_locator_108 ?_
                      have hbd_72 := hI39.hB.1 33
                      have hk73 : mWk _ _ (va_up I_35 0 0) F_36 ∧ _ := mWk.thr hI39 (v := 0) (by omega)
                      have hI73 : mIv (va_up I_35 0 0) F_36 := hI39.go hk73.1
                      have hw73 : mWk _ _ (va_up I_35 0 0) F_36 := hw39.tr hk73.1
                      have e1673 : (va_up I_35 0 0) 16 = _ := hk73.2.1
                      have e1973 : (va_up I_35 0 0) 19 = _ := hk73.2.2
                      have e173 : (va_up I_35 0 0) 1 = _ := hk73.1.2.1.1 1 (by decide)
                      have hkb74 : mKb (va_up I_35 0 0) F_36 := hkb38.ui 0 (by decide) _
                      exact mk_ireti hx hb hr hlocks hP hD hK hS dX6_locator_111 (⟨⟨hw73, hkb74⟩, h40_37⟩)
                    · skip
                      refine lv_aload_n hx hb dX6_locator_100 rfl (lv_at hl 1 rfl) ?_
                      refine va_get (D := (dC, dI)) (ci := 6) (v := .int (iz (I_35 32))) (C := RX6) (T := TX6) (N := 44) hx hb hts kt_X6 hown hK hP 0 rfl rfl 32 (by decide) (kx_word hG kq_09_mput_1 rfl) (fun _ h9 => h9) rfl dX6_locator_101 ?_
                      have hbd_75 := hI39.hB.1 32
                      refine lv_goto (tgt := 111) hx hb dX6_locator_104 (by decide) ?_
                      have hk76 : mWk _ _ (va_up I_35 0 0) F_36 ∧ _ := mWk.thr hI39 (v := 0) (by omega)
                      have hI76 : mIv (va_up I_35 0 0) F_36 := hI39.go hk76.1
                      have hw76 : mWk _ _ (va_up I_35 0 0) F_36 := hw39.tr hk76.1
                      have e1676 : (va_up I_35 0 0) 16 = _ := hk76.2.1
                      have e1976 : (va_up I_35 0 0) 19 = _ := hk76.2.2
                      have e176 : (va_up I_35 0 0) 1 = _ := hk76.1.2.1.1 1 (by decide)
                      have hkb77 : mKb (va_up I_35 0 0) F_36 := hkb38.ui 0 (by decide) _
                      exact mk_ireti hx hb hr hlocks hP hD hK hS dX6_locator_111 (⟨⟨hw76, hkb77⟩, h40_37⟩)
                  · skip
                    refine lv_aload_n hx hb dX6_locator_88 rfl (lv_at hl 1 rfl) ?_
                    refine va_get (D := (dC, dI)) (ci := 6) (v := .int (iz (I_35 31))) (C := RX6) (T := TX6) (N := 44) hx hb hts kt_X6 hown hK hP 0 rfl rfl 31 (by decide) (kx_word hG kq_09_mput_0 rfl) (fun _ h9 => h9) rfl dX6_locator_89 ?_
                    have hbd_78 := hI39.hB.1 31
                    refine lv_goto (tgt := 111) hx hb dX6_locator_92 (by decide) ?_
                    have hk79 : mWk _ _ (va_up I_35 0 0) F_36 ∧ _ := mWk.thr hI39 (v := 0) (by omega)
                    have hI79 : mIv (va_up I_35 0 0) F_36 := hI39.go hk79.1
                    have hw79 : mWk _ _ (va_up I_35 0 0) F_36 := hw39.tr hk79.1
                    have e1679 : (va_up I_35 0 0) 16 = _ := hk79.2.1
                    have e1979 : (va_up I_35 0 0) 19 = _ := hk79.2.2
                    have e179 : (va_up I_35 0 0) 1 = _ := hk79.1.2.1.1 1 (by decide)
                    have hkb80 : mKb (va_up I_35 0 0) F_36 := hkb38.ui 0 (by decide) _
                    exact mk_ireti hx hb hr hlocks hP hD hK hS dX6_locator_111 (⟨⟨hw79, hkb80⟩, h40_37⟩)
                · omega
              · skip
                refine lv_iconst (v := iz 1) hx hb dX6_locator_69 (by decide) ?_
                refine lv_goto (tgt := 74) hx hb dX6_locator_70 (by decide) ?_
                refine lv_iconst (v := iz 0) hx hb dX6_locator_74 (by decide) ?_
                refine lv_iconst (v := iz 0) hx hb dX6_locator_75 (by decide) ?_
                refine mk_calli (As := [.int (iz 1), .int (iz 0), .int (iz 0)]) (rest := []) ⟨hx, hb, hml, hown, hts⟩ (k_refused1 l dC dI mo ma cs I_35 F_36 0 0 H.size (by omega) (by omega) (by omega) (by omega)) (cwV 3 hts (kx_gV kq_04_msmall_8 kq_04_msmall_9 kq_04_msmall_10 kq_04_msmall_6 kq_04_msmall_11 rfl) rfl rfl rfl (by decide +kernel) ⟨Nat.le_of_ble_eq_true rfl, Nat.le_of_ble_eq_true rfl⟩) hP hD hK hG hZ hS hA rfl hl.1 rfl (Nat.le_of_ble_eq_true rfl) dX6_locator_76 ⟨Nat.le_of_ble_eq_true rfl, Nat.le_of_ble_eq_true rfl⟩ (fun z_81 I_83 F_84 H locs hq_82 hP hD hS => ?_)
                try dsimp only at hq_82
                obtain ⟨rfl, rfl, rfl⟩ := hq_82
                refine ki_if_eq (tgt := 84) hx hb dX6_locator_79 (by decide) (by omega) (by omega) (fun c_85 => ?_) (fun c_85 => ?_)
                · omega
                · skip
                  refine lv_iconst (v := iz 0) hx hb dX6_locator_82 (by decide) ?_
                  have hk86 : mWk _ _ (va_up I_35 0 1) F_36 ∧ _ := mWk.thr hI39 (v := 1) (by omega)
                  have hI86 : mIv (va_up I_35 0 1) F_36 := hI39.go hk86.1
                  have hw86 : mWk _ _ (va_up I_35 0 1) F_36 := hw39.tr hk86.1
                  have e1686 : (va_up I_35 0 1) 16 = _ := hk86.2.1
                  have e1986 : (va_up I_35 0 1) 19 = _ := hk86.2.2
                  have e186 : (va_up I_35 0 1) 1 = _ := hk86.1.2.1.1 1 (by decide)
                  have hkb87 : mKb (va_up I_35 0 1) F_36 := hkb38.ui 0 (by decide) _
                  exact mk_ireti hx hb hr hlocks hP hD hK hS dX6_locator_83 (⟨⟨hw86, hkb87⟩, h40_37⟩)
      · omega
    · skip
      refine lv_iconst (v := iz 1) hx hb dX6_locator_17 (by decide) ?_
      refine lv_goto (tgt := 22) hx hb dX6_locator_18 (by decide) ?_
      refine lv_iconst (v := iz 0) hx hb dX6_locator_22 (by decide) ?_
      refine lv_iconst (v := iz 0) hx hb dX6_locator_23 (by decide) ?_
      refine mk_calli (As := [.int (iz 1), .int (iz 0), .int (iz 0)]) (rest := []) ⟨hx, hb, hml, hown, hts⟩ (k_refused1 l dC dI mo ma cs I_3 F_4 0 0 H.size (by omega) (by omega) (by omega) (by omega)) (cwV 3 hts (kx_gV kq_04_msmall_8 kq_04_msmall_9 kq_04_msmall_10 kq_04_msmall_6 kq_04_msmall_11 rfl) rfl rfl rfl (by decide +kernel) ⟨Nat.le_of_ble_eq_true rfl, Nat.le_of_ble_eq_true rfl⟩) hP hD hK hG hZ hS hA rfl hl.1 rfl (Nat.le_of_ble_eq_true rfl) dX6_locator_24 ⟨Nat.le_of_ble_eq_true rfl, Nat.le_of_ble_eq_true rfl⟩ (fun z_88 I_90 F_91 H locs hq_89 hP hD hS => ?_)
      try dsimp only at hq_89
      obtain ⟨rfl, rfl, rfl⟩ := hq_89
      refine ki_if_eq (tgt := 32) hx hb dX6_locator_27 (by decide) (by omega) (by omega) (fun c_92 => ?_) (fun c_92 => ?_)
      · omega
      · skip
        refine lv_iconst (v := iz 0) hx hb dX6_locator_30 (by decide) ?_
        have hk93 : mWk _ _ (va_up I_3 0 1) F_4 ∧ _ := mWk.thr hI7 (v := 1) (by omega)
        have hI93 : mIv (va_up I_3 0 1) F_4 := hI7.go hk93.1
        have hw93 : mWk _ _ (va_up I_3 0 1) F_4 := hw7.tr hk93.1
        have e1693 : (va_up I_3 0 1) 16 = _ := hk93.2.1
        have e1993 : (va_up I_3 0 1) 19 = _ := hk93.2.2
        have e193 : (va_up I_3 0 1) 1 = _ := hk93.1.2.1.1 1 (by decide)
        have hkb94 : mKb (va_up I_3 0 1) F_4 := hkb6.ui 0 (by decide) _
        exact mk_ireti hx hb hr hlocks hP hD hK hS dX6_locator_31 (⟨⟨hw93, hkb94⟩, h40_5⟩)
set_option maxHeartbeats 4000000 in
set_option maxRecDepth 100000 in
theorem k_compare8 (l : Launch) (dC : Nat → ClassId) (dI : Nat → Nat → Nat) (mo : Nat) (ma : Nat → Nat) (cs : Nat → ClassId) (I : Nat → Int) (F : Nat → Int → Int) (p0 : Int) (p1 : Int) (sz : Nat) (hI : mIv I F) (hp01 : -2147483648 ≤ p0) (hp02 : p0 < 2147483648) (hp11 : -2147483648 ≤ p1) (hp12 : p1 < 2147483648) (hKb : mKb I F) : mMi l yX6_compare (.code yX6_compare cX6_compare 3 (some .int)) 3 72 dC dI mo ma cs I F [.ref mo, .int (iz p0), .int (iz p1)] sz (fun (r : Int) (I' : Nat → Int) (F' : Nat → Int → Int) => (mWk I F I' F' ∧ mKb I' F') ∧ I' 40 = I 40 ∧ F' 39 = F 39) := by
  refine Met.ofW (cc := cX6_compare) (maxL := 3) (ret := (some .int)) (by decide) rfl ?_
  intro p e s m args below meth c s₁ B hml hv
  obtain ⟨rfl, hsz, hP, hK, hD0, hG, hZ⟩ := hv
  have hx := B.exec
  have hb := B.bytes
  have hr := B.returns
  have hts := kx_hts (a := ([.ref mo, .int (iz p0), .int (iz p1)] : List Value).toArray) hG
  have hown : s.vm.findClass RX6 = some m.cls := findClass_of_methodNamed B.named
  have hlocks := B.notSynchronized
  subst hsz
  have hD := hD0.self (sz := s.heap.size)
  generalize hAe : va_A (mW mo ma cs I F) s.heap.size = A at hD hZ ⊢
  have hA : ∀ q : Nat, s.heap.size ≤ q → A q := fun q h => by rw [← hAe]; exact Or.inr h
  have hS : va_S A s.heap s.heap [] := va_S.rf
  have hl := lv_entry ([.ref mo, .int (iz p0), .int (iz p1)]) (n := 3) (Nat.le_of_ble_eq_true rfl)
  rw [lg_entry_eq]
  generalize (lg_sl ([.ref mo, .int (iz p0), .int (iz p1)]) ++ List.replicate (3 - (lg_sl ([.ref mo, .int (iz p0), .int (iz p1)])).length) Slot.unset).toArray = ls at hl ⊢
  have hl : lv_has ls 3 [(0, .ref mo), (1, .int (iz p0)), (2, .int (iz p1))] := hl
  have hW0 : mWk I F I F := mWk.rf hI
  have hc0 := hI.hc
  refine lv_aload_n hx hb dX6_compare_0 rfl (lv_at hl 0 rfl) ?_
  refine lv_aload_n hx hb dX6_compare_1 rfl (lv_at hl 0 rfl) ?_
  refine lv_iload_n hx hb dX6_compare_2 rfl (lv_at hl 1 rfl) ?_
  refine mk_calli (As := [.int (iz p0)]) (rest := [.ref mo]) ⟨hx, hb, hml, hown, hts⟩ (k_isNone l dC dI mo ma cs I F p0 s.heap.size hI.hB (by omega) (by omega)) (cwV 1 hts (kx_gV kq_04_msmall_3 kq_04_msmall_4 kq_04_msmall_5 kq_04_msmall_6 kq_04_msmall_7 rfl) rfl rfl rfl (by decide +kernel) ⟨Nat.le_of_ble_eq_true rfl, Nat.le_of_ble_eq_true rfl⟩) hP hD hK hG hZ hS hA rfl hl.1 rfl (Nat.le_of_ble_eq_true rfl) dX6_compare_3 ⟨Nat.le_of_ble_eq_true rfl, Nat.le_of_ble_eq_true rfl⟩ (fun z_1 I_3 F_4 H locs hq_2 hP hD hS => ?_)
  try dsimp only at hq_2
  obtain ⟨rfl, rfl, hq_2⟩ := hq_2
  rcases hq_2 with ⟨rfl, hq_2⟩ | ⟨rfl, hq_2⟩
  · skip
    refine ki_if_ne (tgt := 17) hx hb dX6_compare_6 (by decide) (by omega) (by omega) (fun c_5 => ?_) (fun c_5 => ?_)
    · skip
      refine lv_iconst (v := iz 1) hx hb dX6_compare_17 (by decide) ?_
      refine lv_goto (tgt := 22) hx hb dX6_compare_18 (by decide) ?_
      refine lv_iconst (v := iz 0) hx hb dX6_compare_22 (by decide) ?_
      refine lv_iconst (v := iz 0) hx hb dX6_compare_23 (by decide) ?_
      refine mk_calli (As := [.int (iz 1), .int (iz 0), .int (iz 0)]) (rest := []) ⟨hx, hb, hml, hown, hts⟩ (k_refused1 l dC dI mo ma cs I F 0 0 H.size (by omega) (by omega) (by omega) (by omega)) (cwV 3 hts (kx_gV kq_04_msmall_8 kq_04_msmall_9 kq_04_msmall_10 kq_04_msmall_6 kq_04_msmall_11 rfl) rfl rfl rfl (by decide +kernel) ⟨Nat.le_of_ble_eq_true rfl, Nat.le_of_ble_eq_true rfl⟩) hP hD hK hG hZ hS hA rfl hl.1 rfl (Nat.le_of_ble_eq_true rfl) dX6_compare_24 ⟨Nat.le_of_ble_eq_true rfl, Nat.le_of_ble_eq_true rfl⟩ (fun z_6 I_8 F_9 H locs hq_7 hP hD hS => ?_)
      try dsimp only at hq_7
      obtain ⟨rfl, rfl, rfl⟩ := hq_7
      refine ki_if_eq (tgt := 34) hx hb dX6_compare_27 (by decide) (by omega) (by omega) (fun c_10 => ?_) (fun c_10 => ?_)
      · omega
      · skip
        refine lv_iconst (v := iz 0) hx hb dX6_compare_30 (by decide) ?_
        refine lv_goto (tgt := 40) hx hb dX6_compare_31 (by decide) ?_
        have hk11 : mWk _ _ (va_up I 0 1) F ∧ _ := mWk.thr hI (v := 1) (by omega)
        have hI11 : mIv (va_up I 0 1) F := hI.go hk11.1
        have hw11 : mWk _ _ (va_up I 0 1) F := hW0.tr hk11.1
        have e1611 : (va_up I 0 1) 16 = _ := hk11.2.1
        have e1911 : (va_up I 0 1) 19 = _ := hk11.2.2
        have e111 : (va_up I 0 1) 1 = _ := hk11.1.2.1.1 1 (by decide)
        have hkb12 : mKb (va_up I 0 1) F := hKb.ui 0 (by decide) _
        exact mk_ireti hx hb hr hlocks hP hD hK hS dX6_compare_40 (⟨⟨hw11, hkb12⟩, ⟨rfl, rfl⟩⟩)
    · omega
  · skip
    refine ki_if_ne (tgt := 17) hx hb dX6_compare_6 (by decide) (by omega) (by omega) (fun c_13 => ?_) (fun c_13 => ?_)
    · omega
    · skip
      refine lv_aload_n hx hb dX6_compare_9 rfl (lv_at hl 0 rfl) ?_
      refine lv_iload_n hx hb dX6_compare_10 rfl (lv_at hl 2 rfl) ?_
      refine mk_calli (As := [.int (iz p1)]) (rest := [.ref mo]) ⟨hx, hb, hml, hown, hts⟩ (k_isNone l dC dI mo ma cs I F p1 H.size hI.hB (by omega) (by omega)) (cwV 1 hts (kx_gV kq_04_msmall_3 kq_04_msmall_4 kq_04_msmall_5 kq_04_msmall_6 kq_04_msmall_7 rfl) rfl rfl rfl (by decide +kernel) ⟨Nat.le_of_ble_eq_true rfl, Nat.le_of_ble_eq_true rfl⟩) hP hD hK hG hZ hS hA rfl hl.1 rfl (Nat.le_of_ble_eq_true rfl) dX6_compare_11 ⟨Nat.le_of_ble_eq_true rfl, Nat.le_of_ble_eq_true rfl⟩ (fun z_14 I_16 F_17 H locs hq_15 hP hD hS => ?_)
      try dsimp only at hq_15
      obtain ⟨rfl, rfl, hq_15⟩ := hq_15
      rcases hq_15 with ⟨rfl, hq_15⟩ | ⟨rfl, hq_15⟩
      · skip
        refine ki_if_eq (tgt := 21) hx hb dX6_compare_14 (by decide) (by omega) (by omega) (fun c_18 => ?_) (fun c_18 => ?_)
        · omega
        · skip
          refine lv_iconst (v := iz 1) hx hb dX6_compare_17 (by decide) ?_
          refine lv_goto (tgt := 22) hx hb dX6_compare_18 (by decide) ?_
          refine lv_iconst (v := iz 0) hx hb dX6_compare_22 (by decide) ?_
          refine lv_iconst (v := iz 0) hx hb dX6_compare_23 (by decide) ?_
          refine mk_calli (As := [.int (iz 1), .int (iz 0), .int (iz 0)]) (rest := []) ⟨hx, hb, hml, hown, hts⟩ (k_refused1 l dC dI mo ma cs I F 0 0 H.size (by omega) (by omega) (by omega) (by omega)) (cwV 3 hts (kx_gV kq_04_msmall_8 kq_04_msmall_9 kq_04_msmall_10 kq_04_msmall_6 kq_04_msmall_11 rfl) rfl rfl rfl (by decide +kernel) ⟨Nat.le_of_ble_eq_true rfl, Nat.le_of_ble_eq_true rfl⟩) hP hD hK hG hZ hS hA rfl hl.1 rfl (Nat.le_of_ble_eq_true rfl) dX6_compare_24 ⟨Nat.le_of_ble_eq_true rfl, Nat.le_of_ble_eq_true rfl⟩ (fun z_19 I_21 F_22 H locs hq_20 hP hD hS => ?_)
          try dsimp only at hq_20
          obtain ⟨rfl, rfl, rfl⟩ := hq_20
          refine ki_if_eq (tgt := 34) hx hb dX6_compare_27 (by decide) (by omega) (by omega) (fun c_23 => ?_) (fun c_23 => ?_)
          · omega
          · skip
            refine lv_iconst (v := iz 0) hx hb dX6_compare_30 (by decide) ?_
            refine lv_goto (tgt := 40) hx hb dX6_compare_31 (by decide) ?_
            have hk24 : mWk _ _ (va_up I 0 1) F ∧ _ := mWk.thr hI (v := 1) (by omega)
            have hI24 : mIv (va_up I 0 1) F := hI.go hk24.1
            have hw24 : mWk _ _ (va_up I 0 1) F := hW0.tr hk24.1
            have e1624 : (va_up I 0 1) 16 = _ := hk24.2.1
            have e1924 : (va_up I 0 1) 19 = _ := hk24.2.2
            have e124 : (va_up I 0 1) 1 = _ := hk24.1.2.1.1 1 (by decide)
            have hkb25 : mKb (va_up I 0 1) F := hKb.ui 0 (by decide) _
            exact mk_ireti hx hb hr hlocks hP hD hK hS dX6_compare_40 (⟨⟨hw24, hkb25⟩, ⟨rfl, rfl⟩⟩)
      · skip
        refine ki_if_eq (tgt := 21) hx hb dX6_compare_14 (by decide) (by omega) (by omega) (fun c_26 => ?_) (fun c_26 => ?_)
        · skip
          refine lv_iconst (v := iz 0) hx hb dX6_compare_21 (by decide) ?_
          refine lv_iconst (v := iz 0) hx hb dX6_compare_22 (by decide) ?_
          refine lv_iconst (v := iz 0) hx hb dX6_compare_23 (by decide) ?_
          refine mk_calli (As := [.int (iz 0), .int (iz 0), .int (iz 0)]) (rest := []) ⟨hx, hb, hml, hown, hts⟩ (k_refused0 l dC dI mo ma cs I F  H.size ) (cwV 3 hts (kx_gV kq_04_msmall_8 kq_04_msmall_9 kq_04_msmall_10 kq_04_msmall_6 kq_04_msmall_11 rfl) rfl rfl rfl (by decide +kernel) ⟨Nat.le_of_ble_eq_true rfl, Nat.le_of_ble_eq_true rfl⟩) hP hD hK hG hZ hS hA rfl hl.1 rfl (Nat.le_of_ble_eq_true rfl) dX6_compare_24 ⟨Nat.le_of_ble_eq_true rfl, Nat.le_of_ble_eq_true rfl⟩ (fun z_27 I_29 F_30 H locs hq_28 hP hD hS => ?_)
          try dsimp only at hq_28
          obtain ⟨rfl, rfl, rfl⟩ := hq_28
          refine ki_if_eq (tgt := 34) hx hb dX6_compare_27 (by decide) (by omega) (by omega) (fun c_31 => ?_) (fun c_31 => ?_)
          · skip
            refine lv_aload_n hx hb dX6_compare_34 rfl (lv_at hl 0 rfl) ?_
            refine lv_iload_n hx hb dX6_compare_35 rfl (lv_at hl 1 rfl) ?_
            refine lv_iload_n hx hb dX6_compare_36 rfl (lv_at hl 2 rfl) ?_
            have hk32 : mWk _ _ (va_up I 0 0) F ∧ _ := mWk.thr hI (v := 0) (by omega)
            have hI32 : mIv (va_up I 0 0) F := hI.go hk32.1
            have hw32 : mWk _ _ (va_up I 0 0) F := hW0.tr hk32.1
            have e1632 : (va_up I 0 0) 16 = _ := hk32.2.1
            have e1932 : (va_up I 0 0) 19 = _ := hk32.2.2
            have e132 : (va_up I 0 0) 1 = _ := hk32.1.2.1.1 1 (by decide)
            have hkb33 : mKb (va_up I 0 0) F := hKb.ui 0 (by decide) _
            refine mk_calli (As := [.int (iz p0), .int (iz p1)]) (rest := []) ⟨hx, hb, hml, hown, hts⟩ (k_orderOf2 l dC dI mo ma cs (va_up I 0 0) F p0 p1 H.size hI32.hB (by omega) (by omega) hI32.hn (hkb33.1.2.1 p0 (by omega) (by omega)) (hkb33.1.2.1 p1 (by omega) (by omega)) hkb33.1.2.2.1 hkb33.1.2.2.2) (cwV 2 hts (kx_gV kq_06_mway_20 kq_06_mway_21 kq_06_mway_22 kq_04_msmall_6 kq_06_mway_23 rfl) rfl rfl rfl (by decide +kernel) ⟨Nat.le_of_ble_eq_true rfl, Nat.le_of_ble_eq_true rfl⟩) hP hD hK hG hZ hS hA rfl hl.1 rfl (Nat.le_of_ble_eq_true rfl) dX6_compare_37 ⟨Nat.le_of_ble_eq_true rfl, Nat.le_of_ble_eq_true rfl⟩ (fun z_34 I_36 F_37 H locs hq_35 hP hD hS => ?_)
            try dsimp only at hq_35
            have hq_35 := (⟨hq_35.1, hq_35.2.1, hq_35.2.2.1, hq_35.2.2.2.1⟩ : _ ∧ _ ∧ _ ∧ _)
            have h40_38 : I_36 40 = I 40 ∧ F_37 39 = F 39 := ⟨((congrFun hq_35.1 40).symm).trans (⟨rfl, rfl⟩ : I 40 = I 40 ∧ F 39 = F 39).1, ((hq_35.2.2.1.2 39 (by decide))).trans (⟨rfl, rfl⟩ : I 40 = I 40 ∧ F 39 = F 39).2⟩
            have hkb39 : mKb I_36 F_37 := (by have h9 := hq_35.2.2.1; rw [← hq_35.1]; exact hkb33.fr h9 (by decide) (by decide))
            have hk40 : mWk (va_up I 0 0) F I_36 F_37 ∧ _ := mWk.scr hI32 hq_35.1 hq_35.2.1 hq_35.2.2.1
            have hI40 : mIv I_36 F_37 := hI32.go hk40.1
            have hw40 : mWk _ _ I_36 F_37 := hw32.tr hk40.1
            have e1640 := hk40.2.1
            have e1940 := hk40.2.2
            have hc40 := hI40.hc
            have hx40a := hk40.1.2.1.1 1 (by decide)
            have hrg_41 := hq_35.2.2.2
            exact mk_ireti hx hb hr hlocks hP hD hK hS dX6_compare_40 (⟨⟨hw40, hkb39⟩, h40_38⟩)
          · omega
        · omega
set_option maxHeartbeats 4000000 in
set_option maxRecDepth 100000 in
theorem k_told8 (l : Launch) (dC : Nat → ClassId) (dI : Nat → Nat → Nat) (mo : Nat) (ma : Nat → Nat) (cs : Nat → ClassId) (I : Nat → Int) (F : Nat → Int → Int) (p0 : Int) (p1 : Int) (sz : Nat) (hI : mIv I F) (hp01 : -2147483648 ≤ p0) (hp02 : p0 < 2147483648) (hp11 : -2147483648 ≤ p1) (hp12 : p1 < 2147483648) (hKb : mKb I F) : mMi l yX6_told (.code yX6_told cX6_told 10 (some .int)) 5 120 dC dI mo ma cs I F [.ref mo, .int (iz p0), .int (iz p1)] sz (fun (r : Int) (I' : Nat → Int) (F' : Nat → Int → Int) => (mWk I F I' F' ∧ mKb I' F') ∧ I' 40 = I 40 ∧ F' 39 = F 39) := by
  refine Met.ofW (cc := cX6_told) (maxL := 10) (ret := (some .int)) (by decide) rfl ?_
  intro p e s m args below meth c s₁ B hml hv
  obtain ⟨rfl, hsz, hP, hK, hD0, hG, hZ⟩ := hv
  have hx := B.exec
  have hb := B.bytes
  have hr := B.returns
  have hts := kx_hts (a := ([.ref mo, .int (iz p0), .int (iz p1)] : List Value).toArray) hG
  have hown : s.vm.findClass RX6 = some m.cls := findClass_of_methodNamed B.named
  have hlocks := B.notSynchronized
  subst hsz
  have hD := hD0.self (sz := s.heap.size)
  generalize hAe : va_A (mW mo ma cs I F) s.heap.size = A at hD hZ ⊢
  have hA : ∀ q : Nat, s.heap.size ≤ q → A q := fun q h => by rw [← hAe]; exact Or.inr h
  have hS : va_S A s.heap s.heap [] := va_S.rf
  have hl := lv_entry ([.ref mo, .int (iz p0), .int (iz p1)]) (n := 10) (Nat.le_of_ble_eq_true rfl)
  rw [lg_entry_eq]
  generalize (lg_sl ([.ref mo, .int (iz p0), .int (iz p1)]) ++ List.replicate (10 - (lg_sl ([.ref mo, .int (iz p0), .int (iz p1)])).length) Slot.unset).toArray = ls at hl ⊢
  have hl : lv_has ls 10 [(0, .ref mo), (1, .int (iz p0)), (2, .int (iz p1))] := hl
  generalize hQe : MQ below (mQi dC dI mo ma cs A (fun (r : Int) (I' : Nat → Int) (F' : Nat → Int → Int) => (mWk I F I' F' ∧ mKb I' F') ∧ I' 40 = I 40 ∧ F' 39 = F 39)) ([.ref mo, .int (iz p0), .int (iz p1)] : List Value).toArray s 0 0 A = QQ
  have hW0 : mWk I F I F := mWk.rf hI
  have hc0 := hI.hc
  refine lv_aload_n hx hb dX6_told_0 rfl (lv_at hl 0 rfl) ?_
  refine mk_callv (As := []) (rest := []) ⟨hx, hb, hml, hown, hts⟩ (k_look2 l dC dI mo ma cs I F  s.heap.size hI.hB hI.hc hI.hn hI.hlv hI.hkn hI.hk01 hKb.2 hKb.1.1 hKb.1.2.1 hKb.1.2.2.1 hKb.1.2.2.2) (cwV 0 hts (kx_gV kq_11_mask_0 kq_11_mask_1 kq_11_mask_2 kq_04_msmall_6 kq_11_mask_3 rfl) rfl rfl rfl (by decide +kernel) ⟨Nat.le_of_ble_eq_true rfl, Nat.le_of_ble_eq_true rfl⟩) hP hD hK hG hZ hS hA rfl hl.1 rfl (Nat.le_of_ble_eq_true rfl) dX6_told_1 ⟨Nat.le_of_ble_eq_true rfl, Nat.le_of_ble_eq_true rfl⟩ (fun I_3 F_4 H locs hq_2 hP hD hS => ?_)
  try dsimp only at hq_2
  have h40_5 : I_3 40 = I 40 ∧ F_4 39 = F 39 := ⟨((hq_2.1.2.1.1 40 (by decide))).trans (⟨rfl, rfl⟩ : I 40 = I 40 ∧ F 39 = F 39).1, ((hq_2.1.2.1.2 39 (by decide))).trans (⟨rfl, rfl⟩ : I 40 = I 40 ∧ F 39 = F 39).2⟩
  obtain ⟨hq_2, hkr6⟩ := hq_2
  have hkb6 : mKb I_3 F_4 := hKb.look hq_2.2.1 (by decide) hkr6
  have hk7 : mWk I F I_3 F_4 := mWk.look hI hq_2
  have hI7 : mIv I_3 F_4 := hI.go hk7
  have hw7 : mWk _ _ I_3 F_4 := hW0.tr hk7
  have e167 : I_3 16 = 1 := hq_2.2.2.1
  have hc7 := hI7.hc
  obtain ⟨hsmL, hszL, hrwL⟩ := hI7.hkn (by omega)
  refine lv_iconst (v := iz 0) hx hb dX6_told_4 (by decide) ?_
  refine lv_istore_n (lv' := [(3, .int (iz 0)), (0, .ref mo), (1, .int (iz p0)), (2, .int (iz p1))]) hx hb dX6_told_5 rfl hl (by decide) rfl (fun ls hl => ?_)
  refine lv_iconst (v := iz 0) hx hb dX6_told_6 (by decide) ?_
  refine lv_istore (lv' := [(4, .int (iz 0)), (3, .int (iz 0)), (0, .ref mo), (1, .int (iz p0)), (2, .int (iz p1))]) hx hb dX6_told_7 hl (by decide) rfl (fun ls hl => ?_)
  refine lv_iconst (v := iz 0) hx hb dX6_told_9 (by decide) ?_
  refine lv_istore (lv' := [(5, .int (iz 0)), (4, .int (iz 0)), (3, .int (iz 0)), (0, .ref mo), (1, .int (iz p0)), (2, .int (iz p1))]) hx hb dX6_told_10 hl (by decide) rfl (fun ls hl => ?_)
  refine lv_iconst (v := iz 0) hx hb dX6_told_12 (by decide) ?_
  refine lv_istore (lv' := [(6, .int (iz 0)), (5, .int (iz 0)), (4, .int (iz 0)), (3, .int (iz 0)), (0, .ref mo), (1, .int (iz p0)), (2, .int (iz p1))]) hx hb dX6_told_13 hl (by decide) rfl (fun ls hl => ?_)
  refine lv_iconst (v := iz 0) hx hb dX6_told_15 (by decide) ?_
  refine lv_istore (lv' := [(7, .int (iz 0)), (6, .int (iz 0)), (5, .int (iz 0)), (4, .int (iz 0)), (3, .int (iz 0)), (0, .ref mo), (1, .int (iz p0)), (2, .int (iz p1))]) hx hb dX6_told_16 hl (by decide) rfl (fun ls hl => ?_)
  have lp18 : ∀ (n : Nat) (nv kd av mv ev : Int), ((0 ≤ nv ∧ nv ≤ 7 * ev) ∧ (0 ≤ kd ∧ kd ≤ 3) ∧ (-2147483648 ≤ av ∧ av < 2147483648) ∧ (-2147483648 ≤ mv ∧ mv < 2147483648) ∧ (0 ≤ ev ∧ ev ≤ 64)) → (I_3 1 - ev).toNat < n → ∀ (H : Heap) (locs : List Loc), va_P (dC, dI) kxCl (mW mo ma cs I_3 F_4) H → va_D A (mW mo ma cs I_3 F_4) → va_S A s.heap H locs → ∀ ls : Array Slot, lv_has ls 10 [(7, .int (iz ev)), (6, .int (iz mv)), (5, .int (iz av)), (4, .int (iz kd)), (3, .int (iz nv)), (0, .ref mo), (1, .int (iz p0)), (2, .int (iz p1))] → W p l e (headSpec [.code yX6_told cX6_told 10 (some .int)] ({ frames := 5, cells := 0, slots := 0, locals := 120 })).room s m ([.ref mo, .int (iz p0), .int (iz p1)] : List Value).toArray below meth c H locs 0 0 QQ (F0 m 18 ls []) := by
    intro n
    induction n with
    | zero => intro nv kd av mv ev hinv hm; exact absurd hm (Nat.not_lt_zero _)
    | succ n ih18 =>
      intro nv kd av mv ev hinv hm H locs hP hD hS ls hl
      obtain ⟨hnv, hkd, hav, hmv, hev⟩ := hinv
      refine lv_iload hx hb dX6_told_18 (lv_at hl 0 rfl) ?_
      refine lv_aload_n hx hb dX6_told_20 rfl (lv_at hl 5 rfl) ?_
      refine va_get (D := (dC, dI)) (ci := 6) (v := .int (iz (I_3 1))) (C := RX6) (T := TX6) (N := 44) hx hb hts kt_X6 hown hK hP 0 rfl rfl 1 (by decide) (kx_word hG kq_04_msmall_1 rfl) (fun _ h9 => h9) rfl dX6_told_21 ?_
      have hbd_8 := hI7.hB.1 1
      refine ki_icmp_ge (tgt := 224) hx hb dX6_told_24 (by decide) (by omega) (by omega) (by omega) (by omega) (fun c_9 => ?_) (fun c_9 => ?_)
      · skip
        refine lv_aload_n hx hb dX6_told_224 rfl (lv_at hl 5 rfl) ?_
        refine lv_iload_n hx hb dX6_told_225 rfl (lv_at hl 6 rfl) ?_
        refine lv_iconst (v := iz (-1)) hx hb dX6_told_226 (by decide) ?_
        refine ki_icmp_eq (tgt := 248) hx hb dX6_told_227 (by decide) (by omega) (by omega) (by omega) (by omega) (fun c_10 => ?_) (fun c_10 => ?_)
        · skip
          refine lv_iconst (v := iz 0) hx hb dX6_told_248 (by decide) ?_
          refine lv_iconst (v := iz 0) hx hb dX6_told_249 (by decide) ?_
          refine lv_iconst (v := iz 0) hx hb dX6_told_250 (by decide) ?_
          refine mk_calli (As := [.int (iz 0), .int (iz 0), .int (iz 0)]) (rest := []) ⟨hx, hb, hml, hown, hts⟩ (k_refused0 l dC dI mo ma cs I_3 F_4  H.size ) (cwV 3 hts (kx_gV kq_04_msmall_8 kq_04_msmall_9 kq_04_msmall_10 kq_04_msmall_6 kq_04_msmall_11 rfl) rfl rfl rfl (by decide +kernel) ⟨Nat.le_of_ble_eq_true rfl, Nat.le_of_ble_eq_true rfl⟩) hP hD hK hG hZ hS hA rfl hl.1 rfl (Nat.le_of_ble_eq_true rfl) dX6_told_251 ⟨Nat.le_of_ble_eq_true rfl, Nat.le_of_ble_eq_true rfl⟩ (fun z_11 I_13 F_14 H locs hq_12 hP hD hS => ?_)
          try dsimp only at hq_12
          obtain ⟨rfl, rfl, rfl⟩ := hq_12
          refine ki_if_eq (tgt := 259) hx hb dX6_told_254 (by decide) (by omega) (by omega) (fun c_15 => ?_) (fun c_15 => ?_)
          · skip
            refine lv_iload_n hx hb dX6_told_259 rfl (lv_at hl 6 rfl) ?_
            refine lv_iconst (v := iz (-1)) hx hb dX6_told_260 (by decide) ?_
            refine ki_icmp_ne (tgt := 268) hx hb dX6_told_261 (by decide) (by omega) (by omega) (by omega) (by omega) (fun c_16 => ?_) (fun c_16 => ?_)
            · omega
            · skip
              refine lv_iload_n hx hb dX6_told_264 rfl (lv_at hl 4 rfl) ?_
              refine lv_goto (tgt := 289) hx hb dX6_told_265 (by decide) ?_
              have hk17 : mWk _ _ (va_up I_3 0 0) F_4 ∧ _ := mWk.thr hI7 (v := 0) (by omega)
              have hI17 : mIv (va_up I_3 0 0) F_4 := hI7.go hk17.1
              have hw17 : mWk _ _ (va_up I_3 0 0) F_4 := hw7.tr hk17.1
              have e1617 : (va_up I_3 0 0) 16 = _ := hk17.2.1
              have e1917 : (va_up I_3 0 0) 19 = _ := hk17.2.2
              have e117 : (va_up I_3 0 0) 1 = _ := hk17.1.2.1.1 1 (by decide)
              have hkb18 : mKb (va_up I_3 0 0) F_4 := hkb6.ui 0 (by decide) _
              rw [← hQe]
              exact mk_ireti hx hb hr hlocks hP hD hK hS dX6_told_289 (⟨⟨hw17, hkb18⟩, h40_5⟩)
          · omega
        · skip
          refine lv_iload hx hb dX6_told_230 (lv_at hl 3 rfl) ?_
          refine ki_if_eq (tgt := 244) hx hb dX6_told_232 (by decide) (by omega) (by omega) (fun c_19 => ?_) (fun c_19 => ?_)
          · skip
            refine lv_iconst (v := iz 1) hx hb dX6_told_244 (by decide) ?_
            refine lv_goto (tgt := 249) hx hb dX6_told_245 (by decide) ?_
            refine lv_iconst (v := iz 0) hx hb dX6_told_249 (by decide) ?_
            refine lv_iconst (v := iz 0) hx hb dX6_told_250 (by decide) ?_
            refine mk_calli (As := [.int (iz 1), .int (iz 0), .int (iz 0)]) (rest := []) ⟨hx, hb, hml, hown, hts⟩ (k_refused1 l dC dI mo ma cs I_3 F_4 0 0 H.size (by omega) (by omega) (by omega) (by omega)) (cwV 3 hts (kx_gV kq_04_msmall_8 kq_04_msmall_9 kq_04_msmall_10 kq_04_msmall_6 kq_04_msmall_11 rfl) rfl rfl rfl (by decide +kernel) ⟨Nat.le_of_ble_eq_true rfl, Nat.le_of_ble_eq_true rfl⟩) hP hD hK hG hZ hS hA rfl hl.1 rfl (Nat.le_of_ble_eq_true rfl) dX6_told_251 ⟨Nat.le_of_ble_eq_true rfl, Nat.le_of_ble_eq_true rfl⟩ (fun z_20 I_22 F_23 H locs hq_21 hP hD hS => ?_)
            try dsimp only at hq_21
            obtain ⟨rfl, rfl, rfl⟩ := hq_21
            refine ki_if_eq (tgt := 259) hx hb dX6_told_254 (by decide) (by omega) (by omega) (fun c_24 => ?_) (fun c_24 => ?_)
            · omega
            · skip
              refine lv_iconst (v := iz 0) hx hb dX6_told_257 (by decide) ?_
              have hk25 : mWk _ _ (va_up I_3 0 1) F_4 ∧ _ := mWk.thr hI7 (v := 1) (by omega)
              have hI25 : mIv (va_up I_3 0 1) F_4 := hI7.go hk25.1
              have hw25 : mWk _ _ (va_up I_3 0 1) F_4 := hw7.tr hk25.1
              have e1625 : (va_up I_3 0 1) 16 = _ := hk25.2.1
              have e1925 : (va_up I_3 0 1) 19 = _ := hk25.2.2
              have e125 : (va_up I_3 0 1) 1 = _ := hk25.1.2.1.1 1 (by decide)
              have hkb26 : mKb (va_up I_3 0 1) F_4 := hkb6.ui 0 (by decide) _
              rw [← hQe]
              exact mk_ireti hx hb hr hlocks hP hD hK hS dX6_told_258 (⟨⟨hw25, hkb26⟩, h40_5⟩)
          · skip
            refine lv_iload_n hx hb dX6_told_235 rfl (lv_at hl 7 rfl) ?_
            refine ki_if_lt (tgt := 244) hx hb dX6_told_236 (by decide) (by omega) (by omega) (fun c_27 => ?_) (fun c_27 => ?_)
            · skip
              refine lv_iconst (v := iz 1) hx hb dX6_told_244 (by decide) ?_
              refine lv_goto (tgt := 249) hx hb dX6_told_245 (by decide) ?_
              refine lv_iconst (v := iz 0) hx hb dX6_told_249 (by decide) ?_
              refine lv_iconst (v := iz 0) hx hb dX6_told_250 (by decide) ?_
              refine mk_calli (As := [.int (iz 1), .int (iz 0), .int (iz 0)]) (rest := []) ⟨hx, hb, hml, hown, hts⟩ (k_refused1 l dC dI mo ma cs I_3 F_4 0 0 H.size (by omega) (by omega) (by omega) (by omega)) (cwV 3 hts (kx_gV kq_04_msmall_8 kq_04_msmall_9 kq_04_msmall_10 kq_04_msmall_6 kq_04_msmall_11 rfl) rfl rfl rfl (by decide +kernel) ⟨Nat.le_of_ble_eq_true rfl, Nat.le_of_ble_eq_true rfl⟩) hP hD hK hG hZ hS hA rfl hl.1 rfl (Nat.le_of_ble_eq_true rfl) dX6_told_251 ⟨Nat.le_of_ble_eq_true rfl, Nat.le_of_ble_eq_true rfl⟩ (fun z_28 I_30 F_31 H locs hq_29 hP hD hS => ?_)
              try dsimp only at hq_29
              obtain ⟨rfl, rfl, rfl⟩ := hq_29
              refine ki_if_eq (tgt := 259) hx hb dX6_told_254 (by decide) (by omega) (by omega) (fun c_32 => ?_) (fun c_32 => ?_)
              · omega
              · skip
                refine lv_iconst (v := iz 0) hx hb dX6_told_257 (by decide) ?_
                have hk33 : mWk _ _ (va_up I_3 0 1) F_4 ∧ _ := mWk.thr hI7 (v := 1) (by omega)
                have hI33 : mIv (va_up I_3 0 1) F_4 := hI7.go hk33.1
                have hw33 : mWk _ _ (va_up I_3 0 1) F_4 := hw7.tr hk33.1
                have e1633 : (va_up I_3 0 1) 16 = _ := hk33.2.1
                have e1933 : (va_up I_3 0 1) 19 = _ := hk33.2.2
                have e133 : (va_up I_3 0 1) 1 = _ := hk33.1.2.1.1 1 (by decide)
                have hkb34 : mKb (va_up I_3 0 1) F_4 := hkb6.ui 0 (by decide) _
                rw [← hQe]
                exact mk_ireti hx hb hr hlocks hP hD hK hS dX6_told_258 (⟨⟨hw33, hkb34⟩, h40_5⟩)
            · skip
              refine lv_iload_n hx hb dX6_told_239 rfl (lv_at hl 7 rfl) ?_
              refine lv_iconst (v := iz 2) hx hb dX6_told_240 (by decide) ?_
              refine ki_icmp_le (tgt := 248) hx hb dX6_told_241 (by decide) (by omega) (by omega) (by omega) (by omega) (fun c_35 => ?_) (fun c_35 => ?_)
              · skip
                refine lv_iconst (v := iz 0) hx hb dX6_told_248 (by decide) ?_
                refine lv_iconst (v := iz 0) hx hb dX6_told_249 (by decide) ?_
                refine lv_iconst (v := iz 0) hx hb dX6_told_250 (by decide) ?_
                refine mk_calli (As := [.int (iz 0), .int (iz 0), .int (iz 0)]) (rest := []) ⟨hx, hb, hml, hown, hts⟩ (k_refused0 l dC dI mo ma cs I_3 F_4  H.size ) (cwV 3 hts (kx_gV kq_04_msmall_8 kq_04_msmall_9 kq_04_msmall_10 kq_04_msmall_6 kq_04_msmall_11 rfl) rfl rfl rfl (by decide +kernel) ⟨Nat.le_of_ble_eq_true rfl, Nat.le_of_ble_eq_true rfl⟩) hP hD hK hG hZ hS hA rfl hl.1 rfl (Nat.le_of_ble_eq_true rfl) dX6_told_251 ⟨Nat.le_of_ble_eq_true rfl, Nat.le_of_ble_eq_true rfl⟩ (fun z_36 I_38 F_39 H locs hq_37 hP hD hS => ?_)
                try dsimp only at hq_37
                obtain ⟨rfl, rfl, rfl⟩ := hq_37
                refine ki_if_eq (tgt := 259) hx hb dX6_told_254 (by decide) (by omega) (by omega) (fun c_40 => ?_) (fun c_40 => ?_)
                · skip
                  refine lv_iload_n hx hb dX6_told_259 rfl (lv_at hl 6 rfl) ?_
                  refine lv_iconst (v := iz (-1)) hx hb dX6_told_260 (by decide) ?_
                  refine ki_icmp_ne (tgt := 268) hx hb dX6_told_261 (by decide) (by omega) (by omega) (by omega) (by omega) (fun c_41 => ?_) (fun c_41 => ?_)
                  · skip
                    refine lv_iload_n hx hb dX6_told_268 rfl (lv_at hl 7 rfl) ?_
                    refine ki_if_ne (tgt := 277) hx hb dX6_told_269 (by decide) (by omega) (by omega) (fun c_42 => ?_) (fun c_42 => ?_)
                    · skip
                      refine lv_iload_n hx hb dX6_told_277 rfl (lv_at hl 7 rfl) ?_
                      refine lv_iconst (v := iz 1) hx hb dX6_told_278 (by decide) ?_
                      refine ki_icmp_ne (tgt := 287) hx hb dX6_told_279 (by decide) (by omega) (by omega) (by omega) (by omega) (fun c_43 => ?_) (fun c_43 => ?_)
                      · skip
                        refine lv_iload hx hb dX6_told_287 (lv_at hl 1 rfl) ?_
                        have hk44 : mWk _ _ (va_up I_3 0 0) F_4 ∧ _ := mWk.thr hI7 (v := 0) (by omega)
                        have hI44 : mIv (va_up I_3 0 0) F_4 := hI7.go hk44.1
                        have hw44 : mWk _ _ (va_up I_3 0 0) F_4 := hw7.tr hk44.1
                        have e1644 : (va_up I_3 0 0) 16 = _ := hk44.2.1
                        have e1944 : (va_up I_3 0 0) 19 = _ := hk44.2.2
                        have e144 : (va_up I_3 0 0) 1 = _ := hk44.1.2.1.1 1 (by decide)
                        have hkb45 : mKb (va_up I_3 0 0) F_4 := hkb6.ui 0 (by decide) _
                        rw [← hQe]
                        exact mk_ireti hx hb hr hlocks hP hD hK hS dX6_told_289 (⟨⟨hw44, hkb45⟩, h40_5⟩)
                      · skip
                        refine lv_iload hx hb dX6_told_282 (lv_at hl 2 rfl) ?_
                        refine lv_goto (tgt := 289) hx hb dX6_told_284 (by decide) ?_
                        have hk46 : mWk _ _ (va_up I_3 0 0) F_4 ∧ _ := mWk.thr hI7 (v := 0) (by omega)
                        have hI46 : mIv (va_up I_3 0 0) F_4 := hI7.go hk46.1
                        have hw46 : mWk _ _ (va_up I_3 0 0) F_4 := hw7.tr hk46.1
                        have e1646 : (va_up I_3 0 0) 16 = _ := hk46.2.1
                        have e1946 : (va_up I_3 0 0) 19 = _ := hk46.2.2
                        have e146 : (va_up I_3 0 0) 1 = _ := hk46.1.2.1.1 1 (by decide)
                        have hkb47 : mKb (va_up I_3 0 0) F_4 := hkb6.ui 0 (by decide) _
                        rw [← hQe]
                        exact mk_ireti hx hb hr hlocks hP hD hK hS dX6_told_289 (⟨⟨hw46, hkb47⟩, h40_5⟩)
                    · skip
                      refine lv_iload hx hb dX6_told_272 (lv_at hl 3 rfl) ?_
                      refine lv_goto (tgt := 289) hx hb dX6_told_274 (by decide) ?_
                      have hk48 : mWk _ _ (va_up I_3 0 0) F_4 ∧ _ := mWk.thr hI7 (v := 0) (by omega)
                      have hI48 : mIv (va_up I_3 0 0) F_4 := hI7.go hk48.1
                      have hw48 : mWk _ _ (va_up I_3 0 0) F_4 := hw7.tr hk48.1
                      have e1648 : (va_up I_3 0 0) 16 = _ := hk48.2.1
                      have e1948 : (va_up I_3 0 0) 19 = _ := hk48.2.2
                      have e148 : (va_up I_3 0 0) 1 = _ := hk48.1.2.1.1 1 (by decide)
                      have hkb49 : mKb (va_up I_3 0 0) F_4 := hkb6.ui 0 (by decide) _
                      rw [← hQe]
                      exact mk_ireti hx hb hr hlocks hP hD hK hS dX6_told_289 (⟨⟨hw48, hkb49⟩, h40_5⟩)
                  · omega
                · omega
              · skip
                refine lv_iconst (v := iz 1) hx hb dX6_told_244 (by decide) ?_
                refine lv_goto (tgt := 249) hx hb dX6_told_245 (by decide) ?_
                refine lv_iconst (v := iz 0) hx hb dX6_told_249 (by decide) ?_
                refine lv_iconst (v := iz 0) hx hb dX6_told_250 (by decide) ?_
                refine mk_calli (As := [.int (iz 1), .int (iz 0), .int (iz 0)]) (rest := []) ⟨hx, hb, hml, hown, hts⟩ (k_refused1 l dC dI mo ma cs I_3 F_4 0 0 H.size (by omega) (by omega) (by omega) (by omega)) (cwV 3 hts (kx_gV kq_04_msmall_8 kq_04_msmall_9 kq_04_msmall_10 kq_04_msmall_6 kq_04_msmall_11 rfl) rfl rfl rfl (by decide +kernel) ⟨Nat.le_of_ble_eq_true rfl, Nat.le_of_ble_eq_true rfl⟩) hP hD hK hG hZ hS hA rfl hl.1 rfl (Nat.le_of_ble_eq_true rfl) dX6_told_251 ⟨Nat.le_of_ble_eq_true rfl, Nat.le_of_ble_eq_true rfl⟩ (fun z_50 I_52 F_53 H locs hq_51 hP hD hS => ?_)
                try dsimp only at hq_51
                obtain ⟨rfl, rfl, rfl⟩ := hq_51
                refine ki_if_eq (tgt := 259) hx hb dX6_told_254 (by decide) (by omega) (by omega) (fun c_54 => ?_) (fun c_54 => ?_)
                · omega
                · skip
                  refine lv_iconst (v := iz 0) hx hb dX6_told_257 (by decide) ?_
                  have hk55 : mWk _ _ (va_up I_3 0 1) F_4 ∧ _ := mWk.thr hI7 (v := 1) (by omega)
                  have hI55 : mIv (va_up I_3 0 1) F_4 := hI7.go hk55.1
                  have hw55 : mWk _ _ (va_up I_3 0 1) F_4 := hw7.tr hk55.1
                  have e1655 : (va_up I_3 0 1) 16 = _ := hk55.2.1
                  have e1955 : (va_up I_3 0 1) 19 = _ := hk55.2.2
                  have e155 : (va_up I_3 0 1) 1 = _ := hk55.1.2.1.1 1 (by decide)
                  have hkb56 : mKb (va_up I_3 0 1) F_4 := hkb6.ui 0 (by decide) _
                  rw [← hQe]
                  exact mk_ireti hx hb hr hlocks hP hD hK hS dX6_told_258 (⟨⟨hw55, hkb56⟩, h40_5⟩)
      · skip
        have hmy9 := hI7.hmy ev
        refine lv_aload_n hx hb dX6_told_27 rfl (lv_at hl 5 rfl) ?_
        refine va_get (D := (dC, dI)) (ci := 6) (v := .ref (ma 11)) (C := RX6) (T := TX6) (N := 44) hx hb hts kt_X6 hown hK hP 0 rfl rfl 11 (by decide) (kx_word hG kq_04_msmall_21 rfl) (fun _ h9 => h9) rfl dX6_told_28 ?_
        refine lv_iload hx hb dX6_told_31 (lv_at hl 0 rfl) ?_
        refine ki_iald (F := F_4 11) hx hb hK hP 10 9 rfl rfl (by omega) (by omega) (by decide) dX6_told_33 ?_
        have hbd_57 := hI7.hB.2 11 ev
        refine ki_if_le (tgt := 86) hx hb dX6_told_34 (by decide) (by omega) (by omega) (fun c_58 => ?_) (fun c_58 => ?_)
        · skip
          refine lv_iconst (v := iz 0) hx hb dX6_told_86 (by decide) ?_
          refine lv_istore (lv' := [(8, .int (iz 0)), (7, .int (iz ev)), (6, .int (iz mv)), (5, .int (iz av)), (4, .int (iz kd)), (3, .int (iz nv)), (0, .ref mo), (1, .int (iz p0)), (2, .int (iz p1))]) hx hb dX6_told_87 hl (by decide) rfl (fun ls hl => ?_)
          have lp89 : ∀ (n : Nat) (nw kw aw mw kv : Int), ((0 ≤ nw ∧ nw ≤ 7 * ev + 1 + kv) ∧ (0 ≤ kw ∧ kw ≤ 3) ∧ (-2147483648 ≤ aw ∧ aw < 2147483648) ∧ (-2147483648 ≤ mw ∧ mw < 2147483648) ∧ (0 ≤ kv ∧ kv ≤ 5)) → (F_4 13 ev - kv).toNat < n → ∀ (H : Heap) (locs : List Loc), va_P (dC, dI) kxCl (mW mo ma cs I_3 F_4) H → va_D A (mW mo ma cs I_3 F_4) → va_S A s.heap H locs → ∀ ls : Array Slot, lv_has ls 10 [(8, .int (iz kv)), (7, .int (iz ev)), (6, .int (iz mw)), (5, .int (iz aw)), (4, .int (iz kw)), (3, .int (iz nw)), (0, .ref mo), (1, .int (iz p0)), (2, .int (iz p1))] → W p l e (headSpec [.code yX6_told cX6_told 10 (some .int)] ({ frames := 5, cells := 0, slots := 0, locals := 120 })).room s m ([.ref mo, .int (iz p0), .int (iz p1)] : List Value).toArray below meth c H locs 0 0 QQ (F0 m 89 ls []) := by
            intro n
            induction n with
            | zero => intro nw kw aw mw kv hinv hm; exact absurd hm (Nat.not_lt_zero _)
            | succ n ih89 =>
              intro nw kw aw mw kv hinv hm H locs hP hD hS ls hl
              obtain ⟨hnw, hkw, haw, hmw, hkv⟩ := hinv
              refine lv_iload hx hb dX6_told_89 (lv_at hl 0 rfl) ?_
              refine lv_aload_n hx hb dX6_told_91 rfl (lv_at hl 6 rfl) ?_
              refine va_get (D := (dC, dI)) (ci := 6) (v := .ref (ma 13)) (C := RX6) (T := TX6) (N := 44) hx hb hts kt_X6 hown hK hP 0 rfl rfl 13 (by decide) (kx_word hG kq_04_msmall_38 rfl) (fun _ h9 => h9) rfl dX6_told_92 ?_
              refine lv_iload hx hb dX6_told_95 (lv_at hl 1 rfl) ?_
              refine ki_iald (F := F_4 13) hx hb hK hP 12 11 rfl rfl (by omega) (by omega) (by decide) dX6_told_97 ?_
              have hbd_59 := hI7.hB.2 13 ev
              refine ki_icmp_ge (tgt := 179) hx hb dX6_told_98 (by decide) (by omega) (by omega) (by omega) (by omega) (fun c_60 => ?_) (fun c_60 => ?_)
              · skip
                refine lv_aload_n hx hb dX6_told_179 rfl (lv_at hl 6 rfl) ?_
                refine lv_iload hx hb dX6_told_180 (lv_at hl 1 rfl) ?_
                refine mk_calli (As := [.int (iz ev)]) (rest := []) ⟨hx, hb, hml, hown, hts⟩ (k_isBare l dC dI mo ma cs I_3 F_4 ev H.size hI7.hB hI7.hc hI7.hln hI7.hlv (by omega)) (cwV 1 hts (kx_gV kq_11_mask_4 kq_11_mask_5 kq_11_mask_6 kq_04_msmall_6 kq_11_mask_7 rfl) rfl rfl rfl (by decide +kernel) ⟨Nat.le_of_ble_eq_true rfl, Nat.le_of_ble_eq_true rfl⟩) hP hD hK hG hZ hS hA rfl hl.1 rfl (Nat.le_of_ble_eq_true rfl) dX6_told_182 ⟨Nat.le_of_ble_eq_true rfl, Nat.le_of_ble_eq_true rfl⟩ (fun z_61 I_63 F_64 H locs hq_62 hP hD hS => ?_)
                try dsimp only at hq_62
                obtain ⟨rfl, rfl, hq_62⟩ := hq_62
                refine ki_if_eq (tgt := 218) hx hb dX6_told_185 (by decide) (by omega) (by omega) (fun c_65 => ?_) (fun c_65 => ?_)
                · skip
                  refine lv_iinc (v := iz (ev + 1)) (lv' := [(7, .int (iz (ev + 1))), (8, .int (iz kv)), (6, .int (iz mw)), (5, .int (iz aw)), (4, .int (iz kw)), (3, .int (iz nw)), (0, .ref mo), (1, .int (iz p0)), (2, .int (iz p1))]) hx hb dX6_told_218 hl (k := 1) rfl (iz_add ev 1) (by decide) rfl (fun ls hl => ?_)
                  refine lv_goto (tgt := 18) hx hb dX6_told_221 (by decide) ?_
                  exact ih18 nw kw aw mw (ev + 1) ⟨by omega, by omega, by omega, by omega, by omega⟩ (by omega) _ _ hP hD hS ls (lv_sub hl [0, 2, 3, 4, 5, 6, 7, 8] rfl)
                · skip
                  refine lv_iload_n hx hb dX6_told_188 rfl (lv_at hl 5 rfl) ?_
                  refine lv_iload_n hx hb dX6_told_189 rfl (lv_at hl 7 rfl) ?_
                  refine ki_icmp_ne (tgt := 197) hx hb dX6_told_190 (by decide) (by omega) (by omega) (by omega) (by omega) (fun c_66 => ?_) (fun c_66 => ?_)
                  · skip
                    refine lv_iload hx hb dX6_told_197 (lv_at hl 4 rfl) ?_
                    refine lv_istore (lv' := [(4, .int (iz kw)), (8, .int (iz kv)), (7, .int (iz ev)), (6, .int (iz mw)), (5, .int (iz aw)), (3, .int (iz nw)), (0, .ref mo), (1, .int (iz p0)), (2, .int (iz p1))]) hx hb dX6_told_199 hl (by decide) rfl (fun ls hl => ?_)
                    refine lv_iload_n hx hb dX6_told_201 rfl (lv_at hl 5 rfl) ?_
                    refine lv_iload_n hx hb dX6_told_202 rfl (lv_at hl 7 rfl) ?_
                    refine ki_icmp_ne (tgt := 211) hx hb dX6_told_203 (by decide) (by omega) (by omega) (by omega) (by omega) (fun c_67 => ?_) (fun c_67 => ?_)
                    · skip
                      refine lv_iload hx hb dX6_told_211 (lv_at hl 4 rfl) ?_
                      refine lv_istore (lv' := [(5, .int (iz aw)), (4, .int (iz kw)), (8, .int (iz kv)), (7, .int (iz ev)), (6, .int (iz mw)), (3, .int (iz nw)), (0, .ref mo), (1, .int (iz p0)), (2, .int (iz p1))]) hx hb dX6_told_213 hl (by decide) rfl (fun ls hl => ?_)
                      refine lv_iinc (v := iz (nw + 1)) (lv' := [(3, .int (iz (nw + 1))), (5, .int (iz aw)), (4, .int (iz kw)), (8, .int (iz kv)), (7, .int (iz ev)), (6, .int (iz mw)), (0, .ref mo), (1, .int (iz p0)), (2, .int (iz p1))]) hx hb dX6_told_215 hl (k := 5) rfl (iz_add nw 1) (by decide) rfl (fun ls hl => ?_)
                      refine lv_iinc (v := iz (ev + 1)) (lv' := [(7, .int (iz (ev + 1))), (3, .int (iz (nw + 1))), (5, .int (iz aw)), (4, .int (iz kw)), (8, .int (iz kv)), (6, .int (iz mw)), (0, .ref mo), (1, .int (iz p0)), (2, .int (iz p1))]) hx hb dX6_told_218 hl (k := 4) rfl (iz_add ev 1) (by decide) rfl (fun ls hl => ?_)
                      refine lv_goto (tgt := 18) hx hb dX6_told_221 (by decide) ?_
                      exact ih18 (nw + 1) kw aw mw (ev + 1) ⟨by omega, by omega, by omega, by omega, by omega⟩ (by omega) _ _ hP hD hS ls (lv_sub hl [0, 5, 2, 3, 1, 6, 7, 8] rfl)
                    · omega
                  · skip
                    refine lv_iconst (v := iz 3) hx hb dX6_told_193 (by decide) ?_
                    refine lv_goto (tgt := 199) hx hb dX6_told_194 (by decide) ?_
                    refine lv_istore (lv' := [(4, .int (iz 3)), (8, .int (iz kv)), (7, .int (iz ev)), (6, .int (iz mw)), (5, .int (iz aw)), (3, .int (iz nw)), (0, .ref mo), (1, .int (iz p0)), (2, .int (iz p1))]) hx hb dX6_told_199 hl (by decide) rfl (fun ls hl => ?_)
                    refine lv_iload_n hx hb dX6_told_201 rfl (lv_at hl 5 rfl) ?_
                    refine lv_iload_n hx hb dX6_told_202 rfl (lv_at hl 7 rfl) ?_
                    refine ki_icmp_ne (tgt := 211) hx hb dX6_told_203 (by decide) (by omega) (by omega) (by omega) (by omega) (fun c_68 => ?_) (fun c_68 => ?_)
                    · omega
                    · skip
                      refine lv_iload hx hb dX6_told_206 (lv_at hl 2 rfl) ?_
                      refine lv_goto (tgt := 213) hx hb dX6_told_208 (by decide) ?_
                      refine lv_istore (lv' := [(5, .int (iz ev)), (4, .int (iz 3)), (8, .int (iz kv)), (7, .int (iz ev)), (6, .int (iz mw)), (3, .int (iz nw)), (0, .ref mo), (1, .int (iz p0)), (2, .int (iz p1))]) hx hb dX6_told_213 hl (by decide) rfl (fun ls hl => ?_)
                      refine lv_iinc (v := iz (nw + 1)) (lv' := [(3, .int (iz (nw + 1))), (5, .int (iz ev)), (4, .int (iz 3)), (8, .int (iz kv)), (7, .int (iz ev)), (6, .int (iz mw)), (0, .ref mo), (1, .int (iz p0)), (2, .int (iz p1))]) hx hb dX6_told_215 hl (k := 5) rfl (iz_add nw 1) (by decide) rfl (fun ls hl => ?_)
                      refine lv_iinc (v := iz (ev + 1)) (lv' := [(7, .int (iz (ev + 1))), (3, .int (iz (nw + 1))), (5, .int (iz ev)), (4, .int (iz 3)), (8, .int (iz kv)), (6, .int (iz mw)), (0, .ref mo), (1, .int (iz p0)), (2, .int (iz p1))]) hx hb dX6_told_218 hl (k := 4) rfl (iz_add ev 1) (by decide) rfl (fun ls hl => ?_)
                      refine lv_goto (tgt := 18) hx hb dX6_told_221 (by decide) ?_
                      exact ih18 (nw + 1) 3 ev mw (ev + 1) ⟨by omega, by omega, by omega, by omega, by omega⟩ (by omega) _ _ hP hD hS ls (lv_sub hl [0, 5, 2, 3, 1, 6, 7, 8] rfl)
              · skip
                have hse9 := hI7.hse ev kv (by omega) (by omega) (by omega) (by omega)
                refine lv_aload_n hx hb dX6_told_101 rfl (lv_at hl 6 rfl) ?_
                refine va_get (D := (dC, dI)) (ci := 6) (v := .ref (ma 12)) (C := RX6) (T := TX6) (N := 44) hx hb hts kt_X6 hown hK hP 0 rfl rfl 12 (by decide) (kx_word hG kq_04_msmall_39 rfl) (fun _ h9 => h9) rfl dX6_told_102 ?_
                refine lv_iconst (v := iz 5) hx hb dX6_told_105 (by decide) ?_
                refine lv_iload hx hb dX6_told_106 (lv_at hl 1 rfl) ?_
                refine ki_imul hx hb dX6_told_108 ?_
                refine lv_iload hx hb dX6_told_109 (lv_at hl 0 rfl) ?_
                refine ki_iadd hx hb dX6_told_111 ?_
                refine ki_iald (F := F_4 12) hx hb hK hP 11 10 rfl rfl (by omega) (by omega) (by decide) dX6_told_112 ?_
                have hbd_69 := hI7.hB.2 12 ((5 * ev) + kv)
                refine lv_istore (lv' := [(9, .int (iz (F_4 12 ((5 * ev) + kv)))), (8, .int (iz kv)), (7, .int (iz ev)), (6, .int (iz mw)), (5, .int (iz aw)), (4, .int (iz kw)), (3, .int (iz nw)), (0, .ref mo), (1, .int (iz p0)), (2, .int (iz p1))]) hx hb dX6_told_113 hl (by decide) rfl (fun ls hl => ?_)
                refine lv_aload_n hx hb dX6_told_115 rfl (lv_at hl 7 rfl) ?_
                refine lv_aload_n hx hb dX6_told_116 rfl (lv_at hl 7 rfl) ?_
                refine va_get (D := (dC, dI)) (ci := 6) (v := .ref (ma 17)) (C := RX6) (T := TX6) (N := 44) hx hb hts kt_X6 hown hK hP 0 rfl rfl 17 (by decide) (kx_word hG kq_06_mway_15 rfl) (fun _ h9 => h9) rfl dX6_told_117 ?_
                have hsm9 := hsmL (F_4 12 ((5 * ev) + kv)) (by omega) (by omega)
                refine lv_iload hx hb dX6_told_120 (lv_at hl 0 rfl) ?_
                refine ki_iald (F := F_4 17) hx hb hK hP 13 12 rfl rfl (by omega) (by omega) (by decide) dX6_told_122 ?_
                have hbd_70 := hI7.hB.2 17 (F_4 12 ((5 * ev) + kv))
                refine mk_calli (As := [.int (iz (F_4 17 (F_4 12 ((5 * ev) + kv))))]) (rest := []) ⟨hx, hb, hml, hown, hts⟩ (k_hasPage l dC dI mo ma cs I_3 F_4 (F_4 17 (F_4 12 ((5 * ev) + kv))) H.size hI7.hB hI7.hc hI7.hln (by omega) (by omega)) (cwV 1 hts (kx_gV kq_08_mgather_9 kq_08_mgather_10 kq_08_mgather_11 kq_04_msmall_6 kq_08_mgather_12 rfl) rfl rfl rfl (by decide +kernel) ⟨Nat.le_of_ble_eq_true rfl, Nat.le_of_ble_eq_true rfl⟩) hP hD hK hG hZ hS hA rfl hl.1 rfl (Nat.le_of_ble_eq_true rfl) dX6_told_123 ⟨Nat.le_of_ble_eq_true rfl, Nat.le_of_ble_eq_true rfl⟩ (fun z_71 I_73 F_74 H locs hq_72 hP hD hS => ?_)
                try dsimp only at hq_72
                obtain ⟨rfl, rfl, hq_72⟩ := hq_72
                refine ki_if_ne (tgt := 173) hx hb dX6_told_126 (by decide) (by omega) (by omega) (fun c_75 => ?_) (fun c_75 => ?_)
                · skip
                  refine lv_iinc (v := iz (kv + 1)) (lv' := [(8, .int (iz (kv + 1))), (9, .int (iz (F_4 12 ((5 * ev) + kv)))), (7, .int (iz ev)), (6, .int (iz mw)), (5, .int (iz aw)), (4, .int (iz kw)), (3, .int (iz nw)), (0, .ref mo), (1, .int (iz p0)), (2, .int (iz p1))]) hx hb dX6_told_173 hl (k := 1) rfl (iz_add kv 1) (by decide) rfl (fun ls hl => ?_)
                  refine lv_goto (tgt := 89) hx hb dX6_told_176 (by decide) ?_
                  exact ih89 nw kw aw mw (kv + 1) ⟨by omega, by omega, by omega, by omega, by omega⟩ (by omega) _ _ hP hD hS ls (lv_sub hl [0, 2, 3, 4, 5, 6, 7, 8, 9] rfl)
                · skip
                  refine lv_iload_n hx hb dX6_told_129 rfl (lv_at hl 6 rfl) ?_
                  refine lv_iload_n hx hb dX6_told_130 rfl (lv_at hl 8 rfl) ?_
                  refine ki_icmp_ne (tgt := 138) hx hb dX6_told_131 (by decide) (by omega) (by omega) (by omega) (by omega) (fun c_76 => ?_) (fun c_76 => ?_)
                  · skip
                    refine lv_iload hx hb dX6_told_138 (lv_at hl 5 rfl) ?_
                    refine lv_istore (lv' := [(4, .int (iz kw)), (9, .int (iz (F_4 12 ((5 * ev) + kv)))), (8, .int (iz kv)), (7, .int (iz ev)), (6, .int (iz mw)), (5, .int (iz aw)), (3, .int (iz nw)), (0, .ref mo), (1, .int (iz p0)), (2, .int (iz p1))]) hx hb dX6_told_140 hl (by decide) rfl (fun ls hl => ?_)
                    refine lv_iload_n hx hb dX6_told_142 rfl (lv_at hl 6 rfl) ?_
                    refine lv_iload_n hx hb dX6_told_143 rfl (lv_at hl 8 rfl) ?_
                    refine ki_icmp_ne (tgt := 152) hx hb dX6_told_144 (by decide) (by omega) (by omega) (by omega) (by omega) (fun c_77 => ?_) (fun c_77 => ?_)
                    · skip
                      refine lv_iload hx hb dX6_told_152 (lv_at hl 5 rfl) ?_
                      refine lv_istore (lv' := [(5, .int (iz aw)), (4, .int (iz kw)), (9, .int (iz (F_4 12 ((5 * ev) + kv)))), (8, .int (iz kv)), (7, .int (iz ev)), (6, .int (iz mw)), (3, .int (iz nw)), (0, .ref mo), (1, .int (iz p0)), (2, .int (iz p1))]) hx hb dX6_told_154 hl (by decide) rfl (fun ls hl => ?_)
                      refine lv_iload_n hx hb dX6_told_156 rfl (lv_at hl 6 rfl) ?_
                      refine lv_iload_n hx hb dX6_told_157 rfl (lv_at hl 8 rfl) ?_
                      refine ki_icmp_ne (tgt := 166) hx hb dX6_told_158 (by decide) (by omega) (by omega) (by omega) (by omega) (fun c_78 => ?_) (fun c_78 => ?_)
                      · skip
                        refine lv_iload hx hb dX6_told_166 (lv_at hl 5 rfl) ?_
                        refine lv_istore (lv' := [(6, .int (iz mw)), (5, .int (iz aw)), (4, .int (iz kw)), (9, .int (iz (F_4 12 ((5 * ev) + kv)))), (8, .int (iz kv)), (7, .int (iz ev)), (3, .int (iz nw)), (0, .ref mo), (1, .int (iz p0)), (2, .int (iz p1))]) hx hb dX6_told_168 hl (by decide) rfl (fun ls hl => ?_)
                        refine lv_iinc (v := iz (nw + 1)) (lv' := [(3, .int (iz (nw + 1))), (6, .int (iz mw)), (5, .int (iz aw)), (4, .int (iz kw)), (9, .int (iz (F_4 12 ((5 * ev) + kv)))), (8, .int (iz kv)), (7, .int (iz ev)), (0, .ref mo), (1, .int (iz p0)), (2, .int (iz p1))]) hx hb dX6_told_170 hl (k := 6) rfl (iz_add nw 1) (by decide) rfl (fun ls hl => ?_)
                        refine lv_iinc (v := iz (kv + 1)) (lv' := [(8, .int (iz (kv + 1))), (3, .int (iz (nw + 1))), (6, .int (iz mw)), (5, .int (iz aw)), (4, .int (iz kw)), (9, .int (iz (F_4 12 ((5 * ev) + kv)))), (7, .int (iz ev)), (0, .ref mo), (1, .int (iz p0)), (2, .int (iz p1))]) hx hb dX6_told_173 hl (k := 5) rfl (iz_add kv 1) (by decide) rfl (fun ls hl => ?_)
                        refine lv_goto (tgt := 89) hx hb dX6_told_176 (by decide) ?_
                        exact ih89 (nw + 1) kw aw mw (kv + 1) ⟨by omega, by omega, by omega, by omega, by omega⟩ (by omega) _ _ hP hD hS ls (lv_sub hl [0, 6, 2, 3, 4, 1, 7, 8, 9] rfl)
                      · omega
                    · omega
                  · skip
                    refine lv_iconst (v := iz 2) hx hb dX6_told_134 (by decide) ?_
                    refine lv_goto (tgt := 140) hx hb dX6_told_135 (by decide) ?_
                    refine lv_istore (lv' := [(4, .int (iz 2)), (9, .int (iz (F_4 12 ((5 * ev) + kv)))), (8, .int (iz kv)), (7, .int (iz ev)), (6, .int (iz mw)), (5, .int (iz aw)), (3, .int (iz nw)), (0, .ref mo), (1, .int (iz p0)), (2, .int (iz p1))]) hx hb dX6_told_140 hl (by decide) rfl (fun ls hl => ?_)
                    refine lv_iload_n hx hb dX6_told_142 rfl (lv_at hl 6 rfl) ?_
                    refine lv_iload_n hx hb dX6_told_143 rfl (lv_at hl 8 rfl) ?_
                    refine ki_icmp_ne (tgt := 152) hx hb dX6_told_144 (by decide) (by omega) (by omega) (by omega) (by omega) (fun c_79 => ?_) (fun c_79 => ?_)
                    · omega
                    · skip
                      refine lv_iload hx hb dX6_told_147 (lv_at hl 3 rfl) ?_
                      refine lv_goto (tgt := 154) hx hb dX6_told_149 (by decide) ?_
                      refine lv_istore (lv' := [(5, .int (iz ev)), (4, .int (iz 2)), (9, .int (iz (F_4 12 ((5 * ev) + kv)))), (8, .int (iz kv)), (7, .int (iz ev)), (6, .int (iz mw)), (3, .int (iz nw)), (0, .ref mo), (1, .int (iz p0)), (2, .int (iz p1))]) hx hb dX6_told_154 hl (by decide) rfl (fun ls hl => ?_)
                      refine lv_iload_n hx hb dX6_told_156 rfl (lv_at hl 6 rfl) ?_
                      refine lv_iload_n hx hb dX6_told_157 rfl (lv_at hl 8 rfl) ?_
                      refine ki_icmp_ne (tgt := 166) hx hb dX6_told_158 (by decide) (by omega) (by omega) (by omega) (by omega) (fun c_80 => ?_) (fun c_80 => ?_)
                      · omega
                      · skip
                        refine lv_iload hx hb dX6_told_161 (lv_at hl 2 rfl) ?_
                        refine lv_goto (tgt := 168) hx hb dX6_told_163 (by decide) ?_
                        refine lv_istore (lv' := [(6, .int (iz (F_4 12 ((5 * ev) + kv)))), (5, .int (iz ev)), (4, .int (iz 2)), (9, .int (iz (F_4 12 ((5 * ev) + kv)))), (8, .int (iz kv)), (7, .int (iz ev)), (3, .int (iz nw)), (0, .ref mo), (1, .int (iz p0)), (2, .int (iz p1))]) hx hb dX6_told_168 hl (by decide) rfl (fun ls hl => ?_)
                        refine lv_iinc (v := iz (nw + 1)) (lv' := [(3, .int (iz (nw + 1))), (6, .int (iz (F_4 12 ((5 * ev) + kv)))), (5, .int (iz ev)), (4, .int (iz 2)), (9, .int (iz (F_4 12 ((5 * ev) + kv)))), (8, .int (iz kv)), (7, .int (iz ev)), (0, .ref mo), (1, .int (iz p0)), (2, .int (iz p1))]) hx hb dX6_told_170 hl (k := 6) rfl (iz_add nw 1) (by decide) rfl (fun ls hl => ?_)
                        refine lv_iinc (v := iz (kv + 1)) (lv' := [(8, .int (iz (kv + 1))), (3, .int (iz (nw + 1))), (6, .int (iz (F_4 12 ((5 * ev) + kv)))), (5, .int (iz ev)), (4, .int (iz 2)), (9, .int (iz (F_4 12 ((5 * ev) + kv)))), (7, .int (iz ev)), (0, .ref mo), (1, .int (iz p0)), (2, .int (iz p1))]) hx hb dX6_told_173 hl (k := 5) rfl (iz_add kv 1) (by decide) rfl (fun ls hl => ?_)
                        refine lv_goto (tgt := 89) hx hb dX6_told_176 (by decide) ?_
                        exact ih89 (nw + 1) 2 ev (F_4 12 ((5 * ev) + kv)) (kv + 1) ⟨by omega, by omega, by omega, by omega, by omega⟩ (by omega) _ _ hP hD hS ls (lv_sub hl [0, 6, 2, 3, 4, 1, 7, 8, 9] rfl)
          exact lp89 _ nv kd av mv 0 ⟨by omega, by omega, by omega, by omega, by omega⟩ (Nat.lt_succ_self _) _ _ hP hD hS ls (lv_sub hl [0, 1, 2, 3, 4, 5, 6, 7, 8] rfl)
        · skip
          refine lv_iload_n hx hb dX6_told_37 rfl (lv_at hl 4 rfl) ?_
          refine lv_iload_n hx hb dX6_told_38 rfl (lv_at hl 6 rfl) ?_
          refine ki_icmp_ne (tgt := 46) hx hb dX6_told_39 (by decide) (by omega) (by omega) (by omega) (by omega) (fun c_81 => ?_) (fun c_81 => ?_)
          · skip
            refine lv_iload hx hb dX6_told_46 (lv_at hl 3 rfl) ?_
            refine lv_istore (lv' := [(4, .int (iz kd)), (7, .int (iz ev)), (6, .int (iz mv)), (5, .int (iz av)), (3, .int (iz nv)), (0, .ref mo), (1, .int (iz p0)), (2, .int (iz p1))]) hx hb dX6_told_48 hl (by decide) rfl (fun ls hl => ?_)
            refine lv_iload_n hx hb dX6_told_50 rfl (lv_at hl 4 rfl) ?_
            refine lv_iload_n hx hb dX6_told_51 rfl (lv_at hl 6 rfl) ?_
            refine ki_icmp_ne (tgt := 60) hx hb dX6_told_52 (by decide) (by omega) (by omega) (by omega) (by omega) (fun c_82 => ?_) (fun c_82 => ?_)
            · skip
              refine lv_iload hx hb dX6_told_60 (lv_at hl 3 rfl) ?_
              refine lv_istore (lv' := [(5, .int (iz av)), (4, .int (iz kd)), (7, .int (iz ev)), (6, .int (iz mv)), (3, .int (iz nv)), (0, .ref mo), (1, .int (iz p0)), (2, .int (iz p1))]) hx hb dX6_told_62 hl (by decide) rfl (fun ls hl => ?_)
              refine lv_iload_n hx hb dX6_told_64 rfl (lv_at hl 4 rfl) ?_
              refine lv_iload_n hx hb dX6_told_65 rfl (lv_at hl 6 rfl) ?_
              refine ki_icmp_ne (tgt := 79) hx hb dX6_told_66 (by decide) (by omega) (by omega) (by omega) (by omega) (fun c_83 => ?_) (fun c_83 => ?_)
              · skip
                refine lv_iload hx hb dX6_told_79 (lv_at hl 3 rfl) ?_
                refine lv_istore (lv' := [(6, .int (iz mv)), (5, .int (iz av)), (4, .int (iz kd)), (7, .int (iz ev)), (3, .int (iz nv)), (0, .ref mo), (1, .int (iz p0)), (2, .int (iz p1))]) hx hb dX6_told_81 hl (by decide) rfl (fun ls hl => ?_)
                refine lv_iinc (v := iz (nv + 1)) (lv' := [(3, .int (iz (nv + 1))), (6, .int (iz mv)), (5, .int (iz av)), (4, .int (iz kd)), (7, .int (iz ev)), (0, .ref mo), (1, .int (iz p0)), (2, .int (iz p1))]) hx hb dX6_told_83 hl (k := 4) rfl (iz_add nv 1) (by decide) rfl (fun ls hl => ?_)
                refine lv_iconst (v := iz 0) hx hb dX6_told_86 (by decide) ?_
                refine lv_istore (lv' := [(8, .int (iz 0)), (3, .int (iz (nv + 1))), (6, .int (iz mv)), (5, .int (iz av)), (4, .int (iz kd)), (7, .int (iz ev)), (0, .ref mo), (1, .int (iz p0)), (2, .int (iz p1))]) hx hb dX6_told_87 hl (by decide) rfl (fun ls hl => ?_)
                have lp89 : ∀ (n : Nat) (nw kw aw mw kv : Int), ((0 ≤ nw ∧ nw ≤ 7 * ev + 1 + kv) ∧ (0 ≤ kw ∧ kw ≤ 3) ∧ (-2147483648 ≤ aw ∧ aw < 2147483648) ∧ (-2147483648 ≤ mw ∧ mw < 2147483648) ∧ (0 ≤ kv ∧ kv ≤ 5)) → (F_4 13 ev - kv).toNat < n → ∀ (H : Heap) (locs : List Loc), va_P (dC, dI) kxCl (mW mo ma cs I_3 F_4) H → va_D A (mW mo ma cs I_3 F_4) → va_S A s.heap H locs → ∀ ls : Array Slot, lv_has ls 10 [(8, .int (iz kv)), (3, .int (iz nw)), (6, .int (iz mw)), (5, .int (iz aw)), (4, .int (iz kw)), (7, .int (iz ev)), (0, .ref mo), (1, .int (iz p0)), (2, .int (iz p1))] → W p l e (headSpec [.code yX6_told cX6_told 10 (some .int)] ({ frames := 5, cells := 0, slots := 0, locals := 120 })).room s m ([.ref mo, .int (iz p0), .int (iz p1)] : List Value).toArray below meth c H locs 0 0 QQ (F0 m 89 ls []) := by
                  intro n
                  induction n with
                  | zero => intro nw kw aw mw kv hinv hm; exact absurd hm (Nat.not_lt_zero _)
                  | succ n ih89 =>
                    intro nw kw aw mw kv hinv hm H locs hP hD hS ls hl
                    obtain ⟨hnw, hkw, haw, hmw, hkv⟩ := hinv
                    refine lv_iload hx hb dX6_told_89 (lv_at hl 0 rfl) ?_
                    refine lv_aload_n hx hb dX6_told_91 rfl (lv_at hl 6 rfl) ?_
                    refine va_get (D := (dC, dI)) (ci := 6) (v := .ref (ma 13)) (C := RX6) (T := TX6) (N := 44) hx hb hts kt_X6 hown hK hP 0 rfl rfl 13 (by decide) (kx_word hG kq_04_msmall_38 rfl) (fun _ h9 => h9) rfl dX6_told_92 ?_
                    refine lv_iload hx hb dX6_told_95 (lv_at hl 5 rfl) ?_
                    refine ki_iald (F := F_4 13) hx hb hK hP 12 11 rfl rfl (by omega) (by omega) (by decide) dX6_told_97 ?_
                    have hbd_84 := hI7.hB.2 13 ev
                    refine ki_icmp_ge (tgt := 179) hx hb dX6_told_98 (by decide) (by omega) (by omega) (by omega) (by omega) (fun c_85 => ?_) (fun c_85 => ?_)
                    · skip
                      refine lv_aload_n hx hb dX6_told_179 rfl (lv_at hl 6 rfl) ?_
                      refine lv_iload hx hb dX6_told_180 (lv_at hl 5 rfl) ?_
                      refine mk_calli (As := [.int (iz ev)]) (rest := []) ⟨hx, hb, hml, hown, hts⟩ (k_isBare l dC dI mo ma cs I_3 F_4 ev H.size hI7.hB hI7.hc hI7.hln hI7.hlv (by omega)) (cwV 1 hts (kx_gV kq_11_mask_4 kq_11_mask_5 kq_11_mask_6 kq_04_msmall_6 kq_11_mask_7 rfl) rfl rfl rfl (by decide +kernel) ⟨Nat.le_of_ble_eq_true rfl, Nat.le_of_ble_eq_true rfl⟩) hP hD hK hG hZ hS hA rfl hl.1 rfl (Nat.le_of_ble_eq_true rfl) dX6_told_182 ⟨Nat.le_of_ble_eq_true rfl, Nat.le_of_ble_eq_true rfl⟩ (fun z_86 I_88 F_89 H locs hq_87 hP hD hS => ?_)
                      try dsimp only at hq_87
                      obtain ⟨rfl, rfl, hq_87⟩ := hq_87
                      refine ki_if_eq (tgt := 218) hx hb dX6_told_185 (by decide) (by omega) (by omega) (fun c_90 => ?_) (fun c_90 => ?_)
                      · skip
                        refine lv_iinc (v := iz (ev + 1)) (lv' := [(7, .int (iz (ev + 1))), (8, .int (iz kv)), (3, .int (iz nw)), (6, .int (iz mw)), (5, .int (iz aw)), (4, .int (iz kw)), (0, .ref mo), (1, .int (iz p0)), (2, .int (iz p1))]) hx hb dX6_told_218 hl (k := 5) rfl (iz_add ev 1) (by decide) rfl (fun ls hl => ?_)
                        refine lv_goto (tgt := 18) hx hb dX6_told_221 (by decide) ?_
                        exact ih18 nw kw aw mw (ev + 1) ⟨by omega, by omega, by omega, by omega, by omega⟩ (by omega) _ _ hP hD hS ls (lv_sub hl [0, 3, 4, 5, 2, 6, 7, 8] rfl)
                      · skip
                        refine lv_iload_n hx hb dX6_told_188 rfl (lv_at hl 1 rfl) ?_
                        refine lv_iload_n hx hb dX6_told_189 rfl (lv_at hl 7 rfl) ?_
                        refine ki_icmp_ne (tgt := 197) hx hb dX6_told_190 (by decide) (by omega) (by omega) (by omega) (by omega) (fun c_91 => ?_) (fun c_91 => ?_)
                        · skip
                          refine lv_iload hx hb dX6_told_197 (lv_at hl 4 rfl) ?_
                          refine lv_istore (lv' := [(4, .int (iz kw)), (8, .int (iz kv)), (3, .int (iz nw)), (6, .int (iz mw)), (5, .int (iz aw)), (7, .int (iz ev)), (0, .ref mo), (1, .int (iz p0)), (2, .int (iz p1))]) hx hb dX6_told_199 hl (by decide) rfl (fun ls hl => ?_)
                          refine lv_iload_n hx hb dX6_told_201 rfl (lv_at hl 2 rfl) ?_
                          refine lv_iload_n hx hb dX6_told_202 rfl (lv_at hl 7 rfl) ?_
                          refine ki_icmp_ne (tgt := 211) hx hb dX6_told_203 (by decide) (by omega) (by omega) (by omega) (by omega) (fun c_92 => ?_) (fun c_92 => ?_)
                          · skip
                            refine lv_iload hx hb dX6_told_211 (lv_at hl 4 rfl) ?_
                            refine lv_istore (lv' := [(5, .int (iz aw)), (4, .int (iz kw)), (8, .int (iz kv)), (3, .int (iz nw)), (6, .int (iz mw)), (7, .int (iz ev)), (0, .ref mo), (1, .int (iz p0)), (2, .int (iz p1))]) hx hb dX6_told_213 hl (by decide) rfl (fun ls hl => ?_)
                            refine lv_iinc (v := iz (nw + 1)) (lv' := [(3, .int (iz (nw + 1))), (5, .int (iz aw)), (4, .int (iz kw)), (8, .int (iz kv)), (6, .int (iz mw)), (7, .int (iz ev)), (0, .ref mo), (1, .int (iz p0)), (2, .int (iz p1))]) hx hb dX6_told_215 hl (k := 3) rfl (iz_add nw 1) (by decide) rfl (fun ls hl => ?_)
                            refine lv_iinc (v := iz (ev + 1)) (lv' := [(7, .int (iz (ev + 1))), (3, .int (iz (nw + 1))), (5, .int (iz aw)), (4, .int (iz kw)), (8, .int (iz kv)), (6, .int (iz mw)), (0, .ref mo), (1, .int (iz p0)), (2, .int (iz p1))]) hx hb dX6_told_218 hl (k := 5) rfl (iz_add ev 1) (by decide) rfl (fun ls hl => ?_)
                            refine lv_goto (tgt := 18) hx hb dX6_told_221 (by decide) ?_
                            exact ih18 (nw + 1) kw aw mw (ev + 1) ⟨by omega, by omega, by omega, by omega, by omega⟩ (by omega) _ _ hP hD hS ls (lv_sub hl [0, 5, 2, 3, 1, 6, 7, 8] rfl)
                          · omega
                        · skip
                          refine lv_iconst (v := iz 3) hx hb dX6_told_193 (by decide) ?_
                          refine lv_goto (tgt := 199) hx hb dX6_told_194 (by decide) ?_
                          refine lv_istore (lv' := [(4, .int (iz 3)), (8, .int (iz kv)), (3, .int (iz nw)), (6, .int (iz mw)), (5, .int (iz aw)), (7, .int (iz ev)), (0, .ref mo), (1, .int (iz p0)), (2, .int (iz p1))]) hx hb dX6_told_199 hl (by decide) rfl (fun ls hl => ?_)
                          refine lv_iload_n hx hb dX6_told_201 rfl (lv_at hl 2 rfl) ?_
                          refine lv_iload_n hx hb dX6_told_202 rfl (lv_at hl 7 rfl) ?_
                          refine ki_icmp_ne (tgt := 211) hx hb dX6_told_203 (by decide) (by omega) (by omega) (by omega) (by omega) (fun c_93 => ?_) (fun c_93 => ?_)
                          · omega
                          · skip
                            refine lv_iload hx hb dX6_told_206 (lv_at hl 5 rfl) ?_
                            refine lv_goto (tgt := 213) hx hb dX6_told_208 (by decide) ?_
                            refine lv_istore (lv' := [(5, .int (iz ev)), (4, .int (iz 3)), (8, .int (iz kv)), (3, .int (iz nw)), (6, .int (iz mw)), (7, .int (iz ev)), (0, .ref mo), (1, .int (iz p0)), (2, .int (iz p1))]) hx hb dX6_told_213 hl (by decide) rfl (fun ls hl => ?_)
                            refine lv_iinc (v := iz (nw + 1)) (lv' := [(3, .int (iz (nw + 1))), (5, .int (iz ev)), (4, .int (iz 3)), (8, .int (iz kv)), (6, .int (iz mw)), (7, .int (iz ev)), (0, .ref mo), (1, .int (iz p0)), (2, .int (iz p1))]) hx hb dX6_told_215 hl (k := 3) rfl (iz_add nw 1) (by decide) rfl (fun ls hl => ?_)
                            refine lv_iinc (v := iz (ev + 1)) (lv' := [(7, .int (iz (ev + 1))), (3, .int (iz (nw + 1))), (5, .int (iz ev)), (4, .int (iz 3)), (8, .int (iz kv)), (6, .int (iz mw)), (0, .ref mo), (1, .int (iz p0)), (2, .int (iz p1))]) hx hb dX6_told_218 hl (k := 5) rfl (iz_add ev 1) (by decide) rfl (fun ls hl => ?_)
                            refine lv_goto (tgt := 18) hx hb dX6_told_221 (by decide) ?_
                            exact ih18 (nw + 1) 3 ev mw (ev + 1) ⟨by omega, by omega, by omega, by omega, by omega⟩ (by omega) _ _ hP hD hS ls (lv_sub hl [0, 5, 2, 3, 1, 6, 7, 8] rfl)
                    · skip
                      have hse9 := hI7.hse ev kv (by omega) (by omega) (by omega) (by omega)
                      refine lv_aload_n hx hb dX6_told_101 rfl (lv_at hl 6 rfl) ?_
                      refine va_get (D := (dC, dI)) (ci := 6) (v := .ref (ma 12)) (C := RX6) (T := TX6) (N := 44) hx hb hts kt_X6 hown hK hP 0 rfl rfl 12 (by decide) (kx_word hG kq_04_msmall_39 rfl) (fun _ h9 => h9) rfl dX6_told_102 ?_
                      refine lv_iconst (v := iz 5) hx hb dX6_told_105 (by decide) ?_
                      refine lv_iload hx hb dX6_told_106 (lv_at hl 5 rfl) ?_
                      refine ki_imul hx hb dX6_told_108 ?_
                      refine lv_iload hx hb dX6_told_109 (lv_at hl 0 rfl) ?_
                      refine ki_iadd hx hb dX6_told_111 ?_
                      refine ki_iald (F := F_4 12) hx hb hK hP 11 10 rfl rfl (by omega) (by omega) (by decide) dX6_told_112 ?_
                      have hbd_94 := hI7.hB.2 12 ((5 * ev) + kv)
                      refine lv_istore (lv' := [(9, .int (iz (F_4 12 ((5 * ev) + kv)))), (8, .int (iz kv)), (3, .int (iz nw)), (6, .int (iz mw)), (5, .int (iz aw)), (4, .int (iz kw)), (7, .int (iz ev)), (0, .ref mo), (1, .int (iz p0)), (2, .int (iz p1))]) hx hb dX6_told_113 hl (by decide) rfl (fun ls hl => ?_)
                      refine lv_aload_n hx hb dX6_told_115 rfl (lv_at hl 7 rfl) ?_
                      refine lv_aload_n hx hb dX6_told_116 rfl (lv_at hl 7 rfl) ?_
                      refine va_get (D := (dC, dI)) (ci := 6) (v := .ref (ma 17)) (C := RX6) (T := TX6) (N := 44) hx hb hts kt_X6 hown hK hP 0 rfl rfl 17 (by decide) (kx_word hG kq_06_mway_15 rfl) (fun _ h9 => h9) rfl dX6_told_117 ?_
                      have hsm9 := hsmL (F_4 12 ((5 * ev) + kv)) (by omega) (by omega)
                      refine lv_iload hx hb dX6_told_120 (lv_at hl 0 rfl) ?_
                      refine ki_iald (F := F_4 17) hx hb hK hP 13 12 rfl rfl (by omega) (by omega) (by decide) dX6_told_122 ?_
                      have hbd_95 := hI7.hB.2 17 (F_4 12 ((5 * ev) + kv))
                      refine mk_calli (As := [.int (iz (F_4 17 (F_4 12 ((5 * ev) + kv))))]) (rest := []) ⟨hx, hb, hml, hown, hts⟩ (k_hasPage l dC dI mo ma cs I_3 F_4 (F_4 17 (F_4 12 ((5 * ev) + kv))) H.size hI7.hB hI7.hc hI7.hln (by omega) (by omega)) (cwV 1 hts (kx_gV kq_08_mgather_9 kq_08_mgather_10 kq_08_mgather_11 kq_04_msmall_6 kq_08_mgather_12 rfl) rfl rfl rfl (by decide +kernel) ⟨Nat.le_of_ble_eq_true rfl, Nat.le_of_ble_eq_true rfl⟩) hP hD hK hG hZ hS hA rfl hl.1 rfl (Nat.le_of_ble_eq_true rfl) dX6_told_123 ⟨Nat.le_of_ble_eq_true rfl, Nat.le_of_ble_eq_true rfl⟩ (fun z_96 I_98 F_99 H locs hq_97 hP hD hS => ?_)
                      try dsimp only at hq_97
                      obtain ⟨rfl, rfl, hq_97⟩ := hq_97
                      refine ki_if_ne (tgt := 173) hx hb dX6_told_126 (by decide) (by omega) (by omega) (fun c_100 => ?_) (fun c_100 => ?_)
                      · skip
                        refine lv_iinc (v := iz (kv + 1)) (lv' := [(8, .int (iz (kv + 1))), (9, .int (iz (F_4 12 ((5 * ev) + kv)))), (3, .int (iz nw)), (6, .int (iz mw)), (5, .int (iz aw)), (4, .int (iz kw)), (7, .int (iz ev)), (0, .ref mo), (1, .int (iz p0)), (2, .int (iz p1))]) hx hb dX6_told_173 hl (k := 1) rfl (iz_add kv 1) (by decide) rfl (fun ls hl => ?_)
                        refine lv_goto (tgt := 89) hx hb dX6_told_176 (by decide) ?_
                        exact ih89 nw kw aw mw (kv + 1) ⟨by omega, by omega, by omega, by omega, by omega⟩ (by omega) _ _ hP hD hS ls (lv_sub hl [0, 2, 3, 4, 5, 6, 7, 8, 9] rfl)
                      · skip
                        refine lv_iload_n hx hb dX6_told_129 rfl (lv_at hl 2 rfl) ?_
                        refine lv_iload_n hx hb dX6_told_130 rfl (lv_at hl 8 rfl) ?_
                        refine ki_icmp_ne (tgt := 138) hx hb dX6_told_131 (by decide) (by omega) (by omega) (by omega) (by omega) (fun c_101 => ?_) (fun c_101 => ?_)
                        · skip
                          refine lv_iload hx hb dX6_told_138 (lv_at hl 5 rfl) ?_
                          refine lv_istore (lv' := [(4, .int (iz kw)), (9, .int (iz (F_4 12 ((5 * ev) + kv)))), (8, .int (iz kv)), (3, .int (iz nw)), (6, .int (iz mw)), (5, .int (iz aw)), (7, .int (iz ev)), (0, .ref mo), (1, .int (iz p0)), (2, .int (iz p1))]) hx hb dX6_told_140 hl (by decide) rfl (fun ls hl => ?_)
                          refine lv_iload_n hx hb dX6_told_142 rfl (lv_at hl 3 rfl) ?_
                          refine lv_iload_n hx hb dX6_told_143 rfl (lv_at hl 8 rfl) ?_
                          refine ki_icmp_ne (tgt := 152) hx hb dX6_told_144 (by decide) (by omega) (by omega) (by omega) (by omega) (fun c_102 => ?_) (fun c_102 => ?_)
                          · skip
                            refine lv_iload hx hb dX6_told_152 (lv_at hl 5 rfl) ?_
                            refine lv_istore (lv' := [(5, .int (iz aw)), (4, .int (iz kw)), (9, .int (iz (F_4 12 ((5 * ev) + kv)))), (8, .int (iz kv)), (3, .int (iz nw)), (6, .int (iz mw)), (7, .int (iz ev)), (0, .ref mo), (1, .int (iz p0)), (2, .int (iz p1))]) hx hb dX6_told_154 hl (by decide) rfl (fun ls hl => ?_)
                            refine lv_iload_n hx hb dX6_told_156 rfl (lv_at hl 4 rfl) ?_
                            refine lv_iload_n hx hb dX6_told_157 rfl (lv_at hl 8 rfl) ?_
                            refine ki_icmp_ne (tgt := 166) hx hb dX6_told_158 (by decide) (by omega) (by omega) (by omega) (by omega) (fun c_103 => ?_) (fun c_103 => ?_)
                            · skip
                              refine lv_iload hx hb dX6_told_166 (lv_at hl 5 rfl) ?_
                              refine lv_istore (lv' := [(6, .int (iz mw)), (5, .int (iz aw)), (4, .int (iz kw)), (9, .int (iz (F_4 12 ((5 * ev) + kv)))), (8, .int (iz kv)), (3, .int (iz nw)), (7, .int (iz ev)), (0, .ref mo), (1, .int (iz p0)), (2, .int (iz p1))]) hx hb dX6_told_168 hl (by decide) rfl (fun ls hl => ?_)
                              refine lv_iinc (v := iz (nw + 1)) (lv' := [(3, .int (iz (nw + 1))), (6, .int (iz mw)), (5, .int (iz aw)), (4, .int (iz kw)), (9, .int (iz (F_4 12 ((5 * ev) + kv)))), (8, .int (iz kv)), (7, .int (iz ev)), (0, .ref mo), (1, .int (iz p0)), (2, .int (iz p1))]) hx hb dX6_told_170 hl (k := 5) rfl (iz_add nw 1) (by decide) rfl (fun ls hl => ?_)
                              refine lv_iinc (v := iz (kv + 1)) (lv' := [(8, .int (iz (kv + 1))), (3, .int (iz (nw + 1))), (6, .int (iz mw)), (5, .int (iz aw)), (4, .int (iz kw)), (9, .int (iz (F_4 12 ((5 * ev) + kv)))), (7, .int (iz ev)), (0, .ref mo), (1, .int (iz p0)), (2, .int (iz p1))]) hx hb dX6_told_173 hl (k := 5) rfl (iz_add kv 1) (by decide) rfl (fun ls hl => ?_)
                              refine lv_goto (tgt := 89) hx hb dX6_told_176 (by decide) ?_
                              exact ih89 (nw + 1) kw aw mw (kv + 1) ⟨by omega, by omega, by omega, by omega, by omega⟩ (by omega) _ _ hP hD hS ls (lv_sub hl [0, 1, 2, 3, 4, 6, 7, 8, 9] rfl)
                            · omega
                          · omega
                        · skip
                          refine lv_iconst (v := iz 2) hx hb dX6_told_134 (by decide) ?_
                          refine lv_goto (tgt := 140) hx hb dX6_told_135 (by decide) ?_
                          refine lv_istore (lv' := [(4, .int (iz 2)), (9, .int (iz (F_4 12 ((5 * ev) + kv)))), (8, .int (iz kv)), (3, .int (iz nw)), (6, .int (iz mw)), (5, .int (iz aw)), (7, .int (iz ev)), (0, .ref mo), (1, .int (iz p0)), (2, .int (iz p1))]) hx hb dX6_told_140 hl (by decide) rfl (fun ls hl => ?_)
                          refine lv_iload_n hx hb dX6_told_142 rfl (lv_at hl 3 rfl) ?_
                          refine lv_iload_n hx hb dX6_told_143 rfl (lv_at hl 8 rfl) ?_
                          refine ki_icmp_ne (tgt := 152) hx hb dX6_told_144 (by decide) (by omega) (by omega) (by omega) (by omega) (fun c_104 => ?_) (fun c_104 => ?_)
                          · omega
                          · skip
                            refine lv_iload hx hb dX6_told_147 (lv_at hl 6 rfl) ?_
                            refine lv_goto (tgt := 154) hx hb dX6_told_149 (by decide) ?_
                            refine lv_istore (lv' := [(5, .int (iz ev)), (4, .int (iz 2)), (9, .int (iz (F_4 12 ((5 * ev) + kv)))), (8, .int (iz kv)), (3, .int (iz nw)), (6, .int (iz mw)), (7, .int (iz ev)), (0, .ref mo), (1, .int (iz p0)), (2, .int (iz p1))]) hx hb dX6_told_154 hl (by decide) rfl (fun ls hl => ?_)
                            refine lv_iload_n hx hb dX6_told_156 rfl (lv_at hl 4 rfl) ?_
                            refine lv_iload_n hx hb dX6_told_157 rfl (lv_at hl 8 rfl) ?_
                            refine ki_icmp_ne (tgt := 166) hx hb dX6_told_158 (by decide) (by omega) (by omega) (by omega) (by omega) (fun c_105 => ?_) (fun c_105 => ?_)
                            · omega
                            · skip
                              refine lv_iload hx hb dX6_told_161 (lv_at hl 2 rfl) ?_
                              refine lv_goto (tgt := 168) hx hb dX6_told_163 (by decide) ?_
                              refine lv_istore (lv' := [(6, .int (iz (F_4 12 ((5 * ev) + kv)))), (5, .int (iz ev)), (4, .int (iz 2)), (9, .int (iz (F_4 12 ((5 * ev) + kv)))), (8, .int (iz kv)), (3, .int (iz nw)), (7, .int (iz ev)), (0, .ref mo), (1, .int (iz p0)), (2, .int (iz p1))]) hx hb dX6_told_168 hl (by decide) rfl (fun ls hl => ?_)
                              refine lv_iinc (v := iz (nw + 1)) (lv' := [(3, .int (iz (nw + 1))), (6, .int (iz (F_4 12 ((5 * ev) + kv)))), (5, .int (iz ev)), (4, .int (iz 2)), (9, .int (iz (F_4 12 ((5 * ev) + kv)))), (8, .int (iz kv)), (7, .int (iz ev)), (0, .ref mo), (1, .int (iz p0)), (2, .int (iz p1))]) hx hb dX6_told_170 hl (k := 5) rfl (iz_add nw 1) (by decide) rfl (fun ls hl => ?_)
                              refine lv_iinc (v := iz (kv + 1)) (lv' := [(8, .int (iz (kv + 1))), (3, .int (iz (nw + 1))), (6, .int (iz (F_4 12 ((5 * ev) + kv)))), (5, .int (iz ev)), (4, .int (iz 2)), (9, .int (iz (F_4 12 ((5 * ev) + kv)))), (7, .int (iz ev)), (0, .ref mo), (1, .int (iz p0)), (2, .int (iz p1))]) hx hb dX6_told_173 hl (k := 5) rfl (iz_add kv 1) (by decide) rfl (fun ls hl => ?_)
                              refine lv_goto (tgt := 89) hx hb dX6_told_176 (by decide) ?_
                              exact ih89 (nw + 1) 2 ev (F_4 12 ((5 * ev) + kv)) (kv + 1) ⟨by omega, by omega, by omega, by omega, by omega⟩ (by omega) _ _ hP hD hS ls (lv_sub hl [0, 1, 2, 3, 4, 6, 7, 8, 9] rfl)
                exact lp89 _ (nv + 1) kd av mv 0 ⟨by omega, by omega, by omega, by omega, by omega⟩ (Nat.lt_succ_self _) _ _ hP hD hS ls (lv_sub hl [0, 1, 2, 3, 4, 5, 6, 7, 8] rfl)
              · omega
            · omega
          · skip
            refine lv_iconst (v := iz 1) hx hb dX6_told_42 (by decide) ?_
            refine lv_goto (tgt := 48) hx hb dX6_told_43 (by decide) ?_
            refine lv_istore (lv' := [(4, .int (iz 1)), (7, .int (iz ev)), (6, .int (iz mv)), (5, .int (iz av)), (3, .int (iz nv)), (0, .ref mo), (1, .int (iz p0)), (2, .int (iz p1))]) hx hb dX6_told_48 hl (by decide) rfl (fun ls hl => ?_)
            refine lv_iload_n hx hb dX6_told_50 rfl (lv_at hl 4 rfl) ?_
            refine lv_iload_n hx hb dX6_told_51 rfl (lv_at hl 6 rfl) ?_
            refine ki_icmp_ne (tgt := 60) hx hb dX6_told_52 (by decide) (by omega) (by omega) (by omega) (by omega) (fun c_106 => ?_) (fun c_106 => ?_)
            · omega
            · skip
              refine lv_iload hx hb dX6_told_55 (lv_at hl 1 rfl) ?_
              refine lv_goto (tgt := 62) hx hb dX6_told_57 (by decide) ?_
              refine lv_istore (lv' := [(5, .int (iz ev)), (4, .int (iz 1)), (7, .int (iz ev)), (6, .int (iz mv)), (3, .int (iz nv)), (0, .ref mo), (1, .int (iz p0)), (2, .int (iz p1))]) hx hb dX6_told_62 hl (by decide) rfl (fun ls hl => ?_)
              refine lv_iload_n hx hb dX6_told_64 rfl (lv_at hl 4 rfl) ?_
              refine lv_iload_n hx hb dX6_told_65 rfl (lv_at hl 6 rfl) ?_
              refine ki_icmp_ne (tgt := 79) hx hb dX6_told_66 (by decide) (by omega) (by omega) (by omega) (by omega) (fun c_107 => ?_) (fun c_107 => ?_)
              · omega
              · skip
                refine lv_aload_n hx hb dX6_told_69 rfl (lv_at hl 5 rfl) ?_
                refine va_get (D := (dC, dI)) (ci := 6) (v := .ref (ma 11)) (C := RX6) (T := TX6) (N := 44) hx hb hts kt_X6 hown hK hP 0 rfl rfl 11 (by decide) (kx_word hG kq_04_msmall_21 rfl) (fun _ h9 => h9) rfl dX6_told_70 ?_
                refine lv_iload hx hb dX6_told_73 (lv_at hl 2 rfl) ?_
                refine ki_iald (F := F_4 11) hx hb hK hP 10 9 rfl rfl (by omega) (by omega) (by decide) dX6_told_75 ?_
                refine lv_goto (tgt := 81) hx hb dX6_told_76 (by decide) ?_
                refine lv_istore (lv' := [(6, .int (iz (F_4 11 ev))), (5, .int (iz ev)), (4, .int (iz 1)), (7, .int (iz ev)), (3, .int (iz nv)), (0, .ref mo), (1, .int (iz p0)), (2, .int (iz p1))]) hx hb dX6_told_81 hl (by decide) rfl (fun ls hl => ?_)
                refine lv_iinc (v := iz (nv + 1)) (lv' := [(3, .int (iz (nv + 1))), (6, .int (iz (F_4 11 ev))), (5, .int (iz ev)), (4, .int (iz 1)), (7, .int (iz ev)), (0, .ref mo), (1, .int (iz p0)), (2, .int (iz p1))]) hx hb dX6_told_83 hl (k := 4) rfl (iz_add nv 1) (by decide) rfl (fun ls hl => ?_)
                refine lv_iconst (v := iz 0) hx hb dX6_told_86 (by decide) ?_
                refine lv_istore (lv' := [(8, .int (iz 0)), (3, .int (iz (nv + 1))), (6, .int (iz (F_4 11 ev))), (5, .int (iz ev)), (4, .int (iz 1)), (7, .int (iz ev)), (0, .ref mo), (1, .int (iz p0)), (2, .int (iz p1))]) hx hb dX6_told_87 hl (by decide) rfl (fun ls hl => ?_)
                have lp89 : ∀ (n : Nat) (nw kw aw mw kv : Int), ((0 ≤ nw ∧ nw ≤ 7 * ev + 1 + kv) ∧ (0 ≤ kw ∧ kw ≤ 3) ∧ (-2147483648 ≤ aw ∧ aw < 2147483648) ∧ (-2147483648 ≤ mw ∧ mw < 2147483648) ∧ (0 ≤ kv ∧ kv ≤ 5)) → (F_4 13 ev - kv).toNat < n → ∀ (H : Heap) (locs : List Loc), va_P (dC, dI) kxCl (mW mo ma cs I_3 F_4) H → va_D A (mW mo ma cs I_3 F_4) → va_S A s.heap H locs → ∀ ls : Array Slot, lv_has ls 10 [(8, .int (iz kv)), (3, .int (iz nw)), (6, .int (iz mw)), (5, .int (iz aw)), (4, .int (iz kw)), (7, .int (iz ev)), (0, .ref mo), (1, .int (iz p0)), (2, .int (iz p1))] → W p l e (headSpec [.code yX6_told cX6_told 10 (some .int)] ({ frames := 5, cells := 0, slots := 0, locals := 120 })).room s m ([.ref mo, .int (iz p0), .int (iz p1)] : List Value).toArray below meth c H locs 0 0 QQ (F0 m 89 ls []) := by
                  intro n
                  induction n with
                  | zero => intro nw kw aw mw kv hinv hm; exact absurd hm (Nat.not_lt_zero _)
                  | succ n ih89 =>
                    intro nw kw aw mw kv hinv hm H locs hP hD hS ls hl
                    obtain ⟨hnw, hkw, haw, hmw, hkv⟩ := hinv
                    refine lv_iload hx hb dX6_told_89 (lv_at hl 0 rfl) ?_
                    refine lv_aload_n hx hb dX6_told_91 rfl (lv_at hl 6 rfl) ?_
                    refine va_get (D := (dC, dI)) (ci := 6) (v := .ref (ma 13)) (C := RX6) (T := TX6) (N := 44) hx hb hts kt_X6 hown hK hP 0 rfl rfl 13 (by decide) (kx_word hG kq_04_msmall_38 rfl) (fun _ h9 => h9) rfl dX6_told_92 ?_
                    refine lv_iload hx hb dX6_told_95 (lv_at hl 5 rfl) ?_
                    refine ki_iald (F := F_4 13) hx hb hK hP 12 11 rfl rfl (by omega) (by omega) (by decide) dX6_told_97 ?_
                    have hbd_108 := hI7.hB.2 13 ev
                    refine ki_icmp_ge (tgt := 179) hx hb dX6_told_98 (by decide) (by omega) (by omega) (by omega) (by omega) (fun c_109 => ?_) (fun c_109 => ?_)
                    · skip
                      refine lv_aload_n hx hb dX6_told_179 rfl (lv_at hl 6 rfl) ?_
                      refine lv_iload hx hb dX6_told_180 (lv_at hl 5 rfl) ?_
                      refine mk_calli (As := [.int (iz ev)]) (rest := []) ⟨hx, hb, hml, hown, hts⟩ (k_isBare l dC dI mo ma cs I_3 F_4 ev H.size hI7.hB hI7.hc hI7.hln hI7.hlv (by omega)) (cwV 1 hts (kx_gV kq_11_mask_4 kq_11_mask_5 kq_11_mask_6 kq_04_msmall_6 kq_11_mask_7 rfl) rfl rfl rfl (by decide +kernel) ⟨Nat.le_of_ble_eq_true rfl, Nat.le_of_ble_eq_true rfl⟩) hP hD hK hG hZ hS hA rfl hl.1 rfl (Nat.le_of_ble_eq_true rfl) dX6_told_182 ⟨Nat.le_of_ble_eq_true rfl, Nat.le_of_ble_eq_true rfl⟩ (fun z_110 I_112 F_113 H locs hq_111 hP hD hS => ?_)
                      try dsimp only at hq_111
                      obtain ⟨rfl, rfl, hq_111⟩ := hq_111
                      refine ki_if_eq (tgt := 218) hx hb dX6_told_185 (by decide) (by omega) (by omega) (fun c_114 => ?_) (fun c_114 => ?_)
                      · skip
                        refine lv_iinc (v := iz (ev + 1)) (lv' := [(7, .int (iz (ev + 1))), (8, .int (iz kv)), (3, .int (iz nw)), (6, .int (iz mw)), (5, .int (iz aw)), (4, .int (iz kw)), (0, .ref mo), (1, .int (iz p0)), (2, .int (iz p1))]) hx hb dX6_told_218 hl (k := 5) rfl (iz_add ev 1) (by decide) rfl (fun ls hl => ?_)
                        refine lv_goto (tgt := 18) hx hb dX6_told_221 (by decide) ?_
                        exact ih18 nw kw aw mw (ev + 1) ⟨by omega, by omega, by omega, by omega, by omega⟩ (by omega) _ _ hP hD hS ls (lv_sub hl [0, 3, 4, 5, 2, 6, 7, 8] rfl)
                      · skip
                        refine lv_iload_n hx hb dX6_told_188 rfl (lv_at hl 1 rfl) ?_
                        refine lv_iload_n hx hb dX6_told_189 rfl (lv_at hl 7 rfl) ?_
                        refine ki_icmp_ne (tgt := 197) hx hb dX6_told_190 (by decide) (by omega) (by omega) (by omega) (by omega) (fun c_115 => ?_) (fun c_115 => ?_)
                        · skip
                          refine lv_iload hx hb dX6_told_197 (lv_at hl 4 rfl) ?_
                          refine lv_istore (lv' := [(4, .int (iz kw)), (8, .int (iz kv)), (3, .int (iz nw)), (6, .int (iz mw)), (5, .int (iz aw)), (7, .int (iz ev)), (0, .ref mo), (1, .int (iz p0)), (2, .int (iz p1))]) hx hb dX6_told_199 hl (by decide) rfl (fun ls hl => ?_)
                          refine lv_iload_n hx hb dX6_told_201 rfl (lv_at hl 2 rfl) ?_
                          refine lv_iload_n hx hb dX6_told_202 rfl (lv_at hl 7 rfl) ?_
                          refine ki_icmp_ne (tgt := 211) hx hb dX6_told_203 (by decide) (by omega) (by omega) (by omega) (by omega) (fun c_116 => ?_) (fun c_116 => ?_)
                          · skip
                            refine lv_iload hx hb dX6_told_211 (lv_at hl 4 rfl) ?_
                            refine lv_istore (lv' := [(5, .int (iz aw)), (4, .int (iz kw)), (8, .int (iz kv)), (3, .int (iz nw)), (6, .int (iz mw)), (7, .int (iz ev)), (0, .ref mo), (1, .int (iz p0)), (2, .int (iz p1))]) hx hb dX6_told_213 hl (by decide) rfl (fun ls hl => ?_)
                            refine lv_iinc (v := iz (nw + 1)) (lv' := [(3, .int (iz (nw + 1))), (5, .int (iz aw)), (4, .int (iz kw)), (8, .int (iz kv)), (6, .int (iz mw)), (7, .int (iz ev)), (0, .ref mo), (1, .int (iz p0)), (2, .int (iz p1))]) hx hb dX6_told_215 hl (k := 3) rfl (iz_add nw 1) (by decide) rfl (fun ls hl => ?_)
                            refine lv_iinc (v := iz (ev + 1)) (lv' := [(7, .int (iz (ev + 1))), (3, .int (iz (nw + 1))), (5, .int (iz aw)), (4, .int (iz kw)), (8, .int (iz kv)), (6, .int (iz mw)), (0, .ref mo), (1, .int (iz p0)), (2, .int (iz p1))]) hx hb dX6_told_218 hl (k := 5) rfl (iz_add ev 1) (by decide) rfl (fun ls hl => ?_)
                            refine lv_goto (tgt := 18) hx hb dX6_told_221 (by decide) ?_
                            exact ih18 (nw + 1) kw aw mw (ev + 1) ⟨by omega, by omega, by omega, by omega, by omega⟩ (by omega) _ _ hP hD hS ls (lv_sub hl [0, 5, 2, 3, 1, 6, 7, 8] rfl)
                          · omega
                        · skip
                          refine lv_iconst (v := iz 3) hx hb dX6_told_193 (by decide) ?_
                          refine lv_goto (tgt := 199) hx hb dX6_told_194 (by decide) ?_
                          refine lv_istore (lv' := [(4, .int (iz 3)), (8, .int (iz kv)), (3, .int (iz nw)), (6, .int (iz mw)), (5, .int (iz aw)), (7, .int (iz ev)), (0, .ref mo), (1, .int (iz p0)), (2, .int (iz p1))]) hx hb dX6_told_199 hl (by decide) rfl (fun ls hl => ?_)
                          refine lv_iload_n hx hb dX6_told_201 rfl (lv_at hl 2 rfl) ?_
                          refine lv_iload_n hx hb dX6_told_202 rfl (lv_at hl 7 rfl) ?_
                          refine ki_icmp_ne (tgt := 211) hx hb dX6_told_203 (by decide) (by omega) (by omega) (by omega) (by omega) (fun c_117 => ?_) (fun c_117 => ?_)
                          · omega
                          · skip
                            refine lv_iload hx hb dX6_told_206 (lv_at hl 5 rfl) ?_
                            refine lv_goto (tgt := 213) hx hb dX6_told_208 (by decide) ?_
                            refine lv_istore (lv' := [(5, .int (iz ev)), (4, .int (iz 3)), (8, .int (iz kv)), (3, .int (iz nw)), (6, .int (iz mw)), (7, .int (iz ev)), (0, .ref mo), (1, .int (iz p0)), (2, .int (iz p1))]) hx hb dX6_told_213 hl (by decide) rfl (fun ls hl => ?_)
                            refine lv_iinc (v := iz (nw + 1)) (lv' := [(3, .int (iz (nw + 1))), (5, .int (iz ev)), (4, .int (iz 3)), (8, .int (iz kv)), (6, .int (iz mw)), (7, .int (iz ev)), (0, .ref mo), (1, .int (iz p0)), (2, .int (iz p1))]) hx hb dX6_told_215 hl (k := 3) rfl (iz_add nw 1) (by decide) rfl (fun ls hl => ?_)
                            refine lv_iinc (v := iz (ev + 1)) (lv' := [(7, .int (iz (ev + 1))), (3, .int (iz (nw + 1))), (5, .int (iz ev)), (4, .int (iz 3)), (8, .int (iz kv)), (6, .int (iz mw)), (0, .ref mo), (1, .int (iz p0)), (2, .int (iz p1))]) hx hb dX6_told_218 hl (k := 5) rfl (iz_add ev 1) (by decide) rfl (fun ls hl => ?_)
                            refine lv_goto (tgt := 18) hx hb dX6_told_221 (by decide) ?_
                            exact ih18 (nw + 1) 3 ev mw (ev + 1) ⟨by omega, by omega, by omega, by omega, by omega⟩ (by omega) _ _ hP hD hS ls (lv_sub hl [0, 5, 2, 3, 1, 6, 7, 8] rfl)
                    · skip
                      have hse9 := hI7.hse ev kv (by omega) (by omega) (by omega) (by omega)
                      refine lv_aload_n hx hb dX6_told_101 rfl (lv_at hl 6 rfl) ?_
                      refine va_get (D := (dC, dI)) (ci := 6) (v := .ref (ma 12)) (C := RX6) (T := TX6) (N := 44) hx hb hts kt_X6 hown hK hP 0 rfl rfl 12 (by decide) (kx_word hG kq_04_msmall_39 rfl) (fun _ h9 => h9) rfl dX6_told_102 ?_
                      refine lv_iconst (v := iz 5) hx hb dX6_told_105 (by decide) ?_
                      refine lv_iload hx hb dX6_told_106 (lv_at hl 5 rfl) ?_
                      refine ki_imul hx hb dX6_told_108 ?_
                      refine lv_iload hx hb dX6_told_109 (lv_at hl 0 rfl) ?_
                      refine ki_iadd hx hb dX6_told_111 ?_
                      refine ki_iald (F := F_4 12) hx hb hK hP 11 10 rfl rfl (by omega) (by omega) (by decide) dX6_told_112 ?_
                      have hbd_118 := hI7.hB.2 12 ((5 * ev) + kv)
                      refine lv_istore (lv' := [(9, .int (iz (F_4 12 ((5 * ev) + kv)))), (8, .int (iz kv)), (3, .int (iz nw)), (6, .int (iz mw)), (5, .int (iz aw)), (4, .int (iz kw)), (7, .int (iz ev)), (0, .ref mo), (1, .int (iz p0)), (2, .int (iz p1))]) hx hb dX6_told_113 hl (by decide) rfl (fun ls hl => ?_)
                      refine lv_aload_n hx hb dX6_told_115 rfl (lv_at hl 7 rfl) ?_
                      refine lv_aload_n hx hb dX6_told_116 rfl (lv_at hl 7 rfl) ?_
                      refine va_get (D := (dC, dI)) (ci := 6) (v := .ref (ma 17)) (C := RX6) (T := TX6) (N := 44) hx hb hts kt_X6 hown hK hP 0 rfl rfl 17 (by decide) (kx_word hG kq_06_mway_15 rfl) (fun _ h9 => h9) rfl dX6_told_117 ?_
                      have hsm9 := hsmL (F_4 12 ((5 * ev) + kv)) (by omega) (by omega)
                      refine lv_iload hx hb dX6_told_120 (lv_at hl 0 rfl) ?_
                      refine ki_iald (F := F_4 17) hx hb hK hP 13 12 rfl rfl (by omega) (by omega) (by decide) dX6_told_122 ?_
                      have hbd_119 := hI7.hB.2 17 (F_4 12 ((5 * ev) + kv))
                      refine mk_calli (As := [.int (iz (F_4 17 (F_4 12 ((5 * ev) + kv))))]) (rest := []) ⟨hx, hb, hml, hown, hts⟩ (k_hasPage l dC dI mo ma cs I_3 F_4 (F_4 17 (F_4 12 ((5 * ev) + kv))) H.size hI7.hB hI7.hc hI7.hln (by omega) (by omega)) (cwV 1 hts (kx_gV kq_08_mgather_9 kq_08_mgather_10 kq_08_mgather_11 kq_04_msmall_6 kq_08_mgather_12 rfl) rfl rfl rfl (by decide +kernel) ⟨Nat.le_of_ble_eq_true rfl, Nat.le_of_ble_eq_true rfl⟩) hP hD hK hG hZ hS hA rfl hl.1 rfl (Nat.le_of_ble_eq_true rfl) dX6_told_123 ⟨Nat.le_of_ble_eq_true rfl, Nat.le_of_ble_eq_true rfl⟩ (fun z_120 I_122 F_123 H locs hq_121 hP hD hS => ?_)
                      try dsimp only at hq_121
                      obtain ⟨rfl, rfl, hq_121⟩ := hq_121
                      refine ki_if_ne (tgt := 173) hx hb dX6_told_126 (by decide) (by omega) (by omega) (fun c_124 => ?_) (fun c_124 => ?_)
                      · skip
                        refine lv_iinc (v := iz (kv + 1)) (lv' := [(8, .int (iz (kv + 1))), (9, .int (iz (F_4 12 ((5 * ev) + kv)))), (3, .int (iz nw)), (6, .int (iz mw)), (5, .int (iz aw)), (4, .int (iz kw)), (7, .int (iz ev)), (0, .ref mo), (1, .int (iz p0)), (2, .int (iz p1))]) hx hb dX6_told_173 hl (k := 1) rfl (iz_add kv 1) (by decide) rfl (fun ls hl => ?_)
                        refine lv_goto (tgt := 89) hx hb dX6_told_176 (by decide) ?_
                        exact ih89 nw kw aw mw (kv + 1) ⟨by omega, by omega, by omega, by omega, by omega⟩ (by omega) _ _ hP hD hS ls (lv_sub hl [0, 2, 3, 4, 5, 6, 7, 8, 9] rfl)
                      · skip
                        refine lv_iload_n hx hb dX6_told_129 rfl (lv_at hl 2 rfl) ?_
                        refine lv_iload_n hx hb dX6_told_130 rfl (lv_at hl 8 rfl) ?_
                        refine ki_icmp_ne (tgt := 138) hx hb dX6_told_131 (by decide) (by omega) (by omega) (by omega) (by omega) (fun c_125 => ?_) (fun c_125 => ?_)
                        · skip
                          refine lv_iload hx hb dX6_told_138 (lv_at hl 5 rfl) ?_
                          refine lv_istore (lv' := [(4, .int (iz kw)), (9, .int (iz (F_4 12 ((5 * ev) + kv)))), (8, .int (iz kv)), (3, .int (iz nw)), (6, .int (iz mw)), (5, .int (iz aw)), (7, .int (iz ev)), (0, .ref mo), (1, .int (iz p0)), (2, .int (iz p1))]) hx hb dX6_told_140 hl (by decide) rfl (fun ls hl => ?_)
                          refine lv_iload_n hx hb dX6_told_142 rfl (lv_at hl 3 rfl) ?_
                          refine lv_iload_n hx hb dX6_told_143 rfl (lv_at hl 8 rfl) ?_
                          refine ki_icmp_ne (tgt := 152) hx hb dX6_told_144 (by decide) (by omega) (by omega) (by omega) (by omega) (fun c_126 => ?_) (fun c_126 => ?_)
                          · skip
                            refine lv_iload hx hb dX6_told_152 (lv_at hl 5 rfl) ?_
                            refine lv_istore (lv' := [(5, .int (iz aw)), (4, .int (iz kw)), (9, .int (iz (F_4 12 ((5 * ev) + kv)))), (8, .int (iz kv)), (3, .int (iz nw)), (6, .int (iz mw)), (7, .int (iz ev)), (0, .ref mo), (1, .int (iz p0)), (2, .int (iz p1))]) hx hb dX6_told_154 hl (by decide) rfl (fun ls hl => ?_)
                            refine lv_iload_n hx hb dX6_told_156 rfl (lv_at hl 4 rfl) ?_
                            refine lv_iload_n hx hb dX6_told_157 rfl (lv_at hl 8 rfl) ?_
                            refine ki_icmp_ne (tgt := 166) hx hb dX6_told_158 (by decide) (by omega) (by omega) (by omega) (by omega) (fun c_127 => ?_) (fun c_127 => ?_)
                            · skip
                              refine lv_iload hx hb dX6_told_166 (lv_at hl 5 rfl) ?_
                              refine lv_istore (lv' := [(6, .int (iz mw)), (5, .int (iz aw)), (4, .int (iz kw)), (9, .int (iz (F_4 12 ((5 * ev) + kv)))), (8, .int (iz kv)), (3, .int (iz nw)), (7, .int (iz ev)), (0, .ref mo), (1, .int (iz p0)), (2, .int (iz p1))]) hx hb dX6_told_168 hl (by decide) rfl (fun ls hl => ?_)
                              refine lv_iinc (v := iz (nw + 1)) (lv' := [(3, .int (iz (nw + 1))), (6, .int (iz mw)), (5, .int (iz aw)), (4, .int (iz kw)), (9, .int (iz (F_4 12 ((5 * ev) + kv)))), (8, .int (iz kv)), (7, .int (iz ev)), (0, .ref mo), (1, .int (iz p0)), (2, .int (iz p1))]) hx hb dX6_told_170 hl (k := 5) rfl (iz_add nw 1) (by decide) rfl (fun ls hl => ?_)
                              refine lv_iinc (v := iz (kv + 1)) (lv' := [(8, .int (iz (kv + 1))), (3, .int (iz (nw + 1))), (6, .int (iz mw)), (5, .int (iz aw)), (4, .int (iz kw)), (9, .int (iz (F_4 12 ((5 * ev) + kv)))), (7, .int (iz ev)), (0, .ref mo), (1, .int (iz p0)), (2, .int (iz p1))]) hx hb dX6_told_173 hl (k := 5) rfl (iz_add kv 1) (by decide) rfl (fun ls hl => ?_)
                              refine lv_goto (tgt := 89) hx hb dX6_told_176 (by decide) ?_
                              exact ih89 (nw + 1) kw aw mw (kv + 1) ⟨by omega, by omega, by omega, by omega, by omega⟩ (by omega) _ _ hP hD hS ls (lv_sub hl [0, 1, 2, 3, 4, 6, 7, 8, 9] rfl)
                            · omega
                          · omega
                        · skip
                          refine lv_iconst (v := iz 2) hx hb dX6_told_134 (by decide) ?_
                          refine lv_goto (tgt := 140) hx hb dX6_told_135 (by decide) ?_
                          refine lv_istore (lv' := [(4, .int (iz 2)), (9, .int (iz (F_4 12 ((5 * ev) + kv)))), (8, .int (iz kv)), (3, .int (iz nw)), (6, .int (iz mw)), (5, .int (iz aw)), (7, .int (iz ev)), (0, .ref mo), (1, .int (iz p0)), (2, .int (iz p1))]) hx hb dX6_told_140 hl (by decide) rfl (fun ls hl => ?_)
                          refine lv_iload_n hx hb dX6_told_142 rfl (lv_at hl 3 rfl) ?_
                          refine lv_iload_n hx hb dX6_told_143 rfl (lv_at hl 8 rfl) ?_
                          refine ki_icmp_ne (tgt := 152) hx hb dX6_told_144 (by decide) (by omega) (by omega) (by omega) (by omega) (fun c_128 => ?_) (fun c_128 => ?_)
                          · omega
                          · skip
                            refine lv_iload hx hb dX6_told_147 (lv_at hl 6 rfl) ?_
                            refine lv_goto (tgt := 154) hx hb dX6_told_149 (by decide) ?_
                            refine lv_istore (lv' := [(5, .int (iz ev)), (4, .int (iz 2)), (9, .int (iz (F_4 12 ((5 * ev) + kv)))), (8, .int (iz kv)), (3, .int (iz nw)), (6, .int (iz mw)), (7, .int (iz ev)), (0, .ref mo), (1, .int (iz p0)), (2, .int (iz p1))]) hx hb dX6_told_154 hl (by decide) rfl (fun ls hl => ?_)
                            refine lv_iload_n hx hb dX6_told_156 rfl (lv_at hl 4 rfl) ?_
                            refine lv_iload_n hx hb dX6_told_157 rfl (lv_at hl 8 rfl) ?_
                            refine ki_icmp_ne (tgt := 166) hx hb dX6_told_158 (by decide) (by omega) (by omega) (by omega) (by omega) (fun c_129 => ?_) (fun c_129 => ?_)
                            · omega
                            · skip
                              refine lv_iload hx hb dX6_told_161 (lv_at hl 2 rfl) ?_
                              refine lv_goto (tgt := 168) hx hb dX6_told_163 (by decide) ?_
                              refine lv_istore (lv' := [(6, .int (iz (F_4 12 ((5 * ev) + kv)))), (5, .int (iz ev)), (4, .int (iz 2)), (9, .int (iz (F_4 12 ((5 * ev) + kv)))), (8, .int (iz kv)), (3, .int (iz nw)), (7, .int (iz ev)), (0, .ref mo), (1, .int (iz p0)), (2, .int (iz p1))]) hx hb dX6_told_168 hl (by decide) rfl (fun ls hl => ?_)
                              refine lv_iinc (v := iz (nw + 1)) (lv' := [(3, .int (iz (nw + 1))), (6, .int (iz (F_4 12 ((5 * ev) + kv)))), (5, .int (iz ev)), (4, .int (iz 2)), (9, .int (iz (F_4 12 ((5 * ev) + kv)))), (8, .int (iz kv)), (7, .int (iz ev)), (0, .ref mo), (1, .int (iz p0)), (2, .int (iz p1))]) hx hb dX6_told_170 hl (k := 5) rfl (iz_add nw 1) (by decide) rfl (fun ls hl => ?_)
                              refine lv_iinc (v := iz (kv + 1)) (lv' := [(8, .int (iz (kv + 1))), (3, .int (iz (nw + 1))), (6, .int (iz (F_4 12 ((5 * ev) + kv)))), (5, .int (iz ev)), (4, .int (iz 2)), (9, .int (iz (F_4 12 ((5 * ev) + kv)))), (7, .int (iz ev)), (0, .ref mo), (1, .int (iz p0)), (2, .int (iz p1))]) hx hb dX6_told_173 hl (k := 5) rfl (iz_add kv 1) (by decide) rfl (fun ls hl => ?_)
                              refine lv_goto (tgt := 89) hx hb dX6_told_176 (by decide) ?_
                              exact ih89 (nw + 1) 2 ev (F_4 12 ((5 * ev) + kv)) (kv + 1) ⟨by omega, by omega, by omega, by omega, by omega⟩ (by omega) _ _ hP hD hS ls (lv_sub hl [0, 1, 2, 3, 4, 6, 7, 8, 9] rfl)
                exact lp89 _ (nv + 1) 1 ev (F_4 11 ev) 0 ⟨by omega, by omega, by omega, by omega, by omega⟩ (Nat.lt_succ_self _) _ _ hP hD hS ls (lv_sub hl [0, 1, 2, 3, 4, 5, 6, 7, 8] rfl)
  exact lp18 _ 0 0 0 0 0 ⟨by omega, by omega, by omega, by omega, by omega⟩ (Nat.lt_succ_self _) _ _ hP hD hS ls (lv_sub hl [0, 1, 2, 3, 4, 5, 6, 7] rfl)
set_option maxHeartbeats 4000000 in
set_option maxRecDepth 100000 in
theorem k_at8 (l : Launch) (dC : Nat → ClassId) (dI : Nat → Nat → Nat) (mo : Nat) (ma : Nat → Nat) (cs : Nat → ClassId) (I : Nat → Int) (F : Nat → Int → Int) (p0 : Int) (sz : Nat) (hI : mIv I F) (hp01 : -2147483648 ≤ p0) (hp02 : p0 < 2147483648) (hKb : mKb I F) : mMi l yX6_at (.code yX6_at cX6_at 2 (some .int)) 1 23 dC dI mo ma cs I F [.ref mo, .int (iz p0)] sz (fun (r : Int) (I' : Nat → Int) (F' : Nat → Int → Int) => (mWk I F I' F' ∧ mKb I' F' ∧ ((I' 0 = 1 ∧ ¬ (0 ≤ p0 ∧ p0 < I 40)) ∨ (I' 0 = 0 ∧ (0 ≤ p0 ∧ p0 < I 40) ∧ r = pt_u (F 39 p0)))) ∧ I' 40 = I 40 ∧ F' 39 = F 39) := by
  refine Met.ofW (cc := cX6_at) (maxL := 2) (ret := (some .int)) (by decide) rfl ?_
  intro p e s m args below meth c s₁ B hml hv
  obtain ⟨rfl, hsz, hP, hK, hD0, hG, hZ⟩ := hv
  have hx := B.exec
  have hb := B.bytes
  have hr := B.returns
  have hts := kx_hts (a := ([.ref mo, .int (iz p0)] : List Value).toArray) hG
  have hown : s.vm.findClass RX6 = some m.cls := findClass_of_methodNamed B.named
  have hlocks := B.notSynchronized
  subst hsz
  have hD := hD0.self (sz := s.heap.size)
  generalize hAe : va_A (mW mo ma cs I F) s.heap.size = A at hD hZ ⊢
  have hA : ∀ q : Nat, s.heap.size ≤ q → A q := fun q h => by rw [← hAe]; exact Or.inr h
  have hS : va_S A s.heap s.heap [] := va_S.rf
  have hl := lv_entry ([.ref mo, .int (iz p0)]) (n := 2) (Nat.le_of_ble_eq_true rfl)
  rw [lg_entry_eq]
  generalize (lg_sl ([.ref mo, .int (iz p0)]) ++ List.replicate (2 - (lg_sl ([.ref mo, .int (iz p0)])).length) Slot.unset).toArray = ls at hl ⊢
  have hl : lv_has ls 2 [(0, .ref mo), (1, .int (iz p0))] := hl
  have hW0 : mWk I F I F := mWk.rf hI
  have hc0 := hI.hc
  have hm0 := hI.hmd
  refine lv_aload_n hx hb dX6_at_0 rfl (lv_at hl 0 rfl) ?_
  refine lv_iload_n hx hb dX6_at_1 rfl (lv_at hl 1 rfl) ?_
  refine ki_if_lt (tgt := 13) hx hb dX6_at_2 (by decide) (by omega) (by omega) (fun c_1 => ?_) (fun c_1 => ?_)
  · skip
    refine lv_iconst (v := iz 1) hx hb dX6_at_13 (by decide) ?_
    refine lv_goto (tgt := 18) hx hb dX6_at_14 (by decide) ?_
    refine lv_iconst (v := iz 0) hx hb dX6_at_18 (by decide) ?_
    refine lv_iconst (v := iz 0) hx hb dX6_at_19 (by decide) ?_
    refine mk_calli (As := [.int (iz 1), .int (iz 0), .int (iz 0)]) (rest := []) ⟨hx, hb, hml, hown, hts⟩ (k_refused1 l dC dI mo ma cs I F 0 0 s.heap.size (by omega) (by omega) (by omega) (by omega)) (cwV 3 hts (kx_gV kq_04_msmall_8 kq_04_msmall_9 kq_04_msmall_10 kq_04_msmall_6 kq_04_msmall_11 rfl) rfl rfl rfl (by decide +kernel) ⟨Nat.le_of_ble_eq_true rfl, Nat.le_of_ble_eq_true rfl⟩) hP hD hK hG hZ hS hA rfl hl.1 rfl (Nat.le_of_ble_eq_true rfl) dX6_at_20 ⟨Nat.le_of_ble_eq_true rfl, Nat.le_of_ble_eq_true rfl⟩ (fun z_2 I_4 F_5 H locs hq_3 hP hD hS => ?_)
    try dsimp only at hq_3
    obtain ⟨rfl, rfl, rfl⟩ := hq_3
    refine ki_if_eq (tgt := 30) hx hb dX6_at_23 (by decide) (by omega) (by omega) (fun c_6 => ?_) (fun c_6 => ?_)
    · omega
    · skip
      refine lv_iconst (v := iz 0) hx hb dX6_at_26 (by decide) ?_
      refine lv_goto (tgt := 40) hx hb dX6_at_27 (by decide) ?_
      have hk7 : mWk _ _ (va_up I 0 1) F ∧ _ := mWk.thr hI (v := 1) (by omega)
      have hI7 : mIv (va_up I 0 1) F := hI.go hk7.1
      have hw7 : mWk _ _ (va_up I 0 1) F := hW0.tr hk7.1
      have e167 : (va_up I 0 1) 16 = _ := hk7.2.1
      have e197 : (va_up I 0 1) 19 = _ := hk7.2.2
      have e17 : (va_up I 0 1) 1 = _ := hk7.1.2.1.1 1 (by decide)
      have hkb8 : mKb (va_up I 0 1) F := hKb.ui 0 (by decide) _
      exact mk_ireti hx hb hr hlocks hP hD hK hS dX6_at_40 (⟨⟨hw7, hkb8, Or.inl ⟨rfl, by omega⟩⟩, ⟨rfl, rfl⟩⟩)
  · skip
    refine lv_iload_n hx hb dX6_at_5 rfl (lv_at hl 1 rfl) ?_
    refine lv_aload_n hx hb dX6_at_6 rfl (lv_at hl 0 rfl) ?_
    refine va_get (D := (dC, dI)) (ci := 6) (v := .int (iz (I 40))) (C := RX6) (T := TX6) (N := 44) hx hb hts kt_X6 hown hK hP 0 rfl rfl 40 (by decide) (kx_word hG kq_11_mask_12 rfl) (fun _ h9 => h9) rfl dX6_at_7 ?_
    have hbd_9 := hI.hB.1 40
    refine ki_icmp_lt (tgt := 17) hx hb dX6_at_10 (by decide) (by omega) (by omega) (by omega) (by omega) (fun c_10 => ?_) (fun c_10 => ?_)
    · skip
      refine lv_iconst (v := iz 0) hx hb dX6_at_17 (by decide) ?_
      refine lv_iconst (v := iz 0) hx hb dX6_at_18 (by decide) ?_
      refine lv_iconst (v := iz 0) hx hb dX6_at_19 (by decide) ?_
      refine mk_calli (As := [.int (iz 0), .int (iz 0), .int (iz 0)]) (rest := []) ⟨hx, hb, hml, hown, hts⟩ (k_refused0 l dC dI mo ma cs I F  s.heap.size ) (cwV 3 hts (kx_gV kq_04_msmall_8 kq_04_msmall_9 kq_04_msmall_10 kq_04_msmall_6 kq_04_msmall_11 rfl) rfl rfl rfl (by decide +kernel) ⟨Nat.le_of_ble_eq_true rfl, Nat.le_of_ble_eq_true rfl⟩) hP hD hK hG hZ hS hA rfl hl.1 rfl (Nat.le_of_ble_eq_true rfl) dX6_at_20 ⟨Nat.le_of_ble_eq_true rfl, Nat.le_of_ble_eq_true rfl⟩ (fun z_11 I_13 F_14 H locs hq_12 hP hD hS => ?_)
      try dsimp only at hq_12
      obtain ⟨rfl, rfl, rfl⟩ := hq_12
      refine ki_if_eq (tgt := 30) hx hb dX6_at_23 (by decide) (by omega) (by omega) (fun c_15 => ?_) (fun c_15 => ?_)
      · skip
        refine lv_aload_n hx hb dX6_at_30 rfl (lv_at hl 0 rfl) ?_
        refine va_get (D := (dC, dI)) (ci := 6) (v := .ref (ma 39)) (C := RX6) (T := TX6) (N := 44) hx hb hts kt_X6 hown hK hP 0 rfl rfl 39 (by decide) (kx_word hG kq_11_mask_13 rfl) (fun _ h9 => h9) rfl dX6_at_31 ?_
        refine lv_iload_n hx hb dX6_at_34 rfl (lv_at hl 1 rfl) ?_
        refine ki_bald (F := F 39) hx hb hK hP 27 26 rfl rfl (by omega) (by omega) (by decide) dX6_at_35 ?_
        have hbd_16 := hI.hB.2 39 p0
        refine lv_sipush (v := iz 255) hx hb dX6_at_36 (by decide) ?_
        refine lv_iand hx hb dX6_at_39 ?_
        refine ki_is (z := (iz (F 39 p0) &&& iz 255).toInt) (iz_self _).symm ?_
        have hk17 : mWk _ _ (va_up I 0 0) F ∧ _ := mWk.thr hI (v := 0) (by omega)
        have hI17 : mIv (va_up I 0 0) F := hI.go hk17.1
        have hw17 : mWk _ _ (va_up I 0 0) F := hW0.tr hk17.1
        have e1617 : (va_up I 0 0) 16 = _ := hk17.2.1
        have e1917 : (va_up I 0 0) 19 = _ := hk17.2.2
        have e117 : (va_up I 0 0) 1 = _ := hk17.1.2.1.1 1 (by decide)
        have hkb18 : mKb (va_up I 0 0) F := hKb.ui 0 (by decide) _
        exact mk_ireti hx hb hr hlocks hP hD hK hS dX6_at_40 (⟨⟨hw17, hkb18, Or.inr ⟨rfl, by omega, rfl⟩⟩, ⟨rfl, rfl⟩⟩)
      · omega
    · skip
      refine lv_iconst (v := iz 1) hx hb dX6_at_13 (by decide) ?_
      refine lv_goto (tgt := 18) hx hb dX6_at_14 (by decide) ?_
      refine lv_iconst (v := iz 0) hx hb dX6_at_18 (by decide) ?_
      refine lv_iconst (v := iz 0) hx hb dX6_at_19 (by decide) ?_
      refine mk_calli (As := [.int (iz 1), .int (iz 0), .int (iz 0)]) (rest := []) ⟨hx, hb, hml, hown, hts⟩ (k_refused1 l dC dI mo ma cs I F 0 0 s.heap.size (by omega) (by omega) (by omega) (by omega)) (cwV 3 hts (kx_gV kq_04_msmall_8 kq_04_msmall_9 kq_04_msmall_10 kq_04_msmall_6 kq_04_msmall_11 rfl) rfl rfl rfl (by decide +kernel) ⟨Nat.le_of_ble_eq_true rfl, Nat.le_of_ble_eq_true rfl⟩) hP hD hK hG hZ hS hA rfl hl.1 rfl (Nat.le_of_ble_eq_true rfl) dX6_at_20 ⟨Nat.le_of_ble_eq_true rfl, Nat.le_of_ble_eq_true rfl⟩ (fun z_19 I_21 F_22 H locs hq_20 hP hD hS => ?_)
      try dsimp only at hq_20
      obtain ⟨rfl, rfl, rfl⟩ := hq_20
      refine ki_if_eq (tgt := 30) hx hb dX6_at_23 (by decide) (by omega) (by omega) (fun c_23 => ?_) (fun c_23 => ?_)
      · omega
      · skip
        refine lv_iconst (v := iz 0) hx hb dX6_at_26 (by decide) ?_
        refine lv_goto (tgt := 40) hx hb dX6_at_27 (by decide) ?_
        have hk24 : mWk _ _ (va_up I 0 1) F ∧ _ := mWk.thr hI (v := 1) (by omega)
        have hI24 : mIv (va_up I 0 1) F := hI.go hk24.1
        have hw24 : mWk _ _ (va_up I 0 1) F := hW0.tr hk24.1
        have e1624 : (va_up I 0 1) 16 = _ := hk24.2.1
        have e1924 : (va_up I 0 1) 19 = _ := hk24.2.2
        have e124 : (va_up I 0 1) 1 = _ := hk24.1.2.1.1 1 (by decide)
        have hkb25 : mKb (va_up I 0 1) F := hKb.ui 0 (by decide) _
        exact mk_ireti hx hb hr hlocks hP hD hK hS dX6_at_40 (⟨⟨hw24, hkb25, Or.inl ⟨rfl, by omega⟩⟩, ⟨rfl, rfl⟩⟩)
