/-! the reference: page, with the ends of each kind -/

set_option maxHeartbeats 4000000 in
set_option maxRecDepth 100000 in
theorem k_most2 (l : Launch) (dC : Nat → ClassId) (dI : Nat → Nat → Nat) (p0 : Int) (sz : Nat) (hp01 : -2147483648 ≤ p0) (hp02 : p0 < 2147483648) : mMs l yX6_most (.code yX6_most cX6_most 1 (some .int)) 0 0 dC dI [.int (iz p0)] sz (fun (r : Int) => (p0 = 0 ∧ r = 3999) ∨ (p0 = 1 ∧ r = 99999) ∨ (p0 = 2 ∧ r = 702) ∨ (¬ (0 ≤ p0 ∧ p0 ≤ 2) ∧ r = 0)) := by
  refine Met.ofW (cc := cX6_most) (maxL := 1) (ret := (some .int)) (by decide) rfl ?_
  intro p e s m args below meth c s₁ B hml hv
  obtain ⟨rfl, hsz, hP, hK, hD0, hG, hZ⟩ := hv
  have hx := B.exec
  have hb := B.bytes
  have hr := B.returns
  have hts := kx_hts (a := ([.int (iz p0)] : List Value).toArray) hG
  have hown : s.vm.findClass RX6 = some m.cls := findClass_of_methodNamed B.named
  have hlocks := B.notSynchronized
  subst hsz
  have hD := hD0.self (sz := s.heap.size)
  generalize hAe : va_A [] s.heap.size = A at hD hZ ⊢
  have hA : ∀ q : Nat, s.heap.size ≤ q → A q := fun q h => by rw [← hAe]; exact Or.inr h
  have hS : va_S A s.heap s.heap [] := va_S.rf
  have hl := lv_entry ([.int (iz p0)]) (n := 1) (Nat.le_of_ble_eq_true rfl)
  rw [lg_entry_eq]
  generalize (lg_sl ([.int (iz p0)]) ++ List.replicate (1 - (lg_sl ([.int (iz p0)])).length) Slot.unset).toArray = ls at hl ⊢
  have hl : lv_has ls 1 [(0, .int (iz p0))] := hl
  refine lv_iload_n hx hb dX6_most_0 rfl (lv_at hl 0 rfl) ?_
  refine ki_if_ne (tgt := 10) hx hb dX6_most_1 (by decide) (by omega) (by omega) (fun c_1 => ?_) (fun c_1 => ?_)
  · skip
    refine lv_iload_n hx hb dX6_most_10 rfl (lv_at hl 0 rfl) ?_
    refine lv_iconst (v := iz 1) hx hb dX6_most_11 (by decide) ?_
    refine ki_icmp_ne (tgt := 20) hx hb dX6_most_12 (by decide) (by omega) (by omega) (by omega) (by omega) (fun c_2 => ?_) (fun c_2 => ?_)
    · skip
      refine lv_iload_n hx hb dX6_most_20 rfl (lv_at hl 0 rfl) ?_
      refine lv_iconst (v := iz 2) hx hb dX6_most_21 (by decide) ?_
      refine ki_icmp_ne (tgt := 31) hx hb dX6_most_22 (by decide) (by omega) (by omega) (by omega) (by omega) (fun c_3 => ?_) (fun c_3 => ?_)
      · skip
        refine lv_iconst (v := iz 0) hx hb dX6_most_31 (by decide) ?_
        exact W.iret (v := iz 0) hx hb hr (fun t ht hW => ⟨⟨iz 0, 0, rfl, ⟨rfl, by omega⟩, by rw [ht]; exact hP, va_K.moved hW.alike hK, hD⟩, hS.F ht⟩) hS.2.2 dX6_most_32
      · skip
        refine lv_sipush (v := iz 702) hx hb dX6_most_25 (by decide) ?_
        refine lv_goto (tgt := 32) hx hb dX6_most_28 (by decide) ?_
        exact W.iret (v := iz 702) hx hb hr (fun t ht hW => ⟨⟨iz 702, 702, rfl, ⟨rfl, by omega⟩, by rw [ht]; exact hP, va_K.moved hW.alike hK, hD⟩, hS.F ht⟩) hS.2.2 dX6_most_32
    · skip
      refine lv_ldc (v := 99999) hx hb hown (kx_word hG kq_04_msmall_2 rfl) dX6_most_15 ?_
      refine ki_is (show (99999 : Int32) = iz 99999 by decide) ?_
      refine lv_goto (tgt := 32) hx hb dX6_most_17 (by decide) ?_
      exact W.iret (v := iz 99999) hx hb hr (fun t ht hW => ⟨⟨iz 99999, 99999, rfl, ⟨rfl, by omega⟩, by rw [ht]; exact hP, va_K.moved hW.alike hK, hD⟩, hS.F ht⟩) hS.2.2 dX6_most_32
  · skip
    refine lv_sipush (v := iz 3999) hx hb dX6_most_4 (by decide) ?_
    refine lv_goto (tgt := 32) hx hb dX6_most_7 (by decide) ?_
    exact W.iret (v := iz 3999) hx hb hr (fun t ht hW => ⟨⟨iz 3999, 3999, rfl, ⟨rfl, by omega⟩, by rw [ht]; exact hP, va_K.moved hW.alike hK, hD⟩, hS.F ht⟩) hS.2.2 dX6_most_32
set_option maxHeartbeats 4000000 in
set_option maxRecDepth 100000 in
/-- page -/
theorem k_page2 (l : Launch) (dC : Nat → ClassId) (dI : Nat → Nat → Nat) (mo : Nat) (ma : Nat → Nat) (cs : Nat → ClassId) (I : Nat → Int) (F : Nat → Int → Int) (p0 : Int) (kd : Int) (p2 : Int) (sz : Nat) (hB : mB I F) (hc : 0 ≤ I 1 ∧ I 1 ≤ 64) (hln : ∀ e, 0 ≤ F 10 e ∧ 0 ≤ F 11 e ∧ F 11 e ≤ 99999 ∧ F 10 e + (if 0 < F 11 e then 1 else 0) ≤ 20) (hp01 : -2147483648 ≤ p0) (hp02 : p0 < 2147483648) (hkd1 : -2147483648 ≤ kd) (hkd2 : kd < 2147483648) (hp21 : -2147483648 ≤ p2) (hp22 : p2 < 2147483648) : mMi l yX6_page (.code yX6_page cX6_page 4 (some .int)) 1 26 dC dI mo ma cs I F [.ref mo, .int (iz p0), .int (iz kd), .int (iz p2)] sz (fun (r : Int) (I' : Nat → Int) (F' : Nat → Int → Int) => (r = 0 ∧ F' = F ∧ I' = va_up I 0 1 ∧ (p0 < 0 ∨ I 1 ≤ p0)) ∨ (r = 0 ∧ F' = F ∧ I' = va_up I 0 2 ∧ (0 ≤ p0 ∧ p0 < I 1) ∧ ¬ (1 ≤ p2 ∧ ((kd = 0 ∧ p2 ≤ 3999) ∨ (kd = 1 ∧ p2 ≤ 99999) ∨ (kd = 2 ∧ p2 ≤ 702)))) ∨ (r = 0 ∧ F' = F ∧ I' = va_up I 0 3 ∧ (0 ≤ p0 ∧ p0 < I 1) ∧ (1 ≤ p2 ∧ ((kd = 0 ∧ p2 ≤ 3999) ∨ (kd = 1 ∧ p2 ≤ 99999) ∨ (kd = 2 ∧ p2 ≤ 702))) ∧ F 10 p0 + (if 0 < F 11 p0 then 1 else 0) = 20) ∨ (I' = va_up I 0 0 ∧ F' = va_up (va_up (va_up (va_up (va_up F 6 (upI (F 6) (20 * p0 + F 10 p0) kd)) 7 (upI (F 7) (20 * p0 + F 10 p0) p2)) 8 (upI (F 8) (20 * p0 + F 10 p0) p2)) 9 (upI (F 9) (20 * p0 + F 10 p0) (vp_nar .boolean (iz 0)).toInt)) 10 (upI (F 10) p0 (F 10 p0 + 1)) ∧ r = F 10 p0 + (if 0 < F 11 p0 then 1 else 0) + 1 ∧ (0 ≤ p0 ∧ p0 < I 1) ∧ (1 ≤ p2 ∧ ((kd = 0 ∧ p2 ≤ 3999) ∨ (kd = 1 ∧ p2 ≤ 99999) ∨ (kd = 2 ∧ p2 ≤ 702))) ∧ ¬ F 10 p0 + (if 0 < F 11 p0 then 1 else 0) = 20)) := by
  refine Met.ofW (cc := cX6_page) (maxL := 4) (ret := (some .int)) (by decide) rfl ?_
  intro p e s m args below meth c s₁ B hml hv
  obtain ⟨rfl, hsz, hP, hK, hD0, hG, hZ⟩ := hv
  have hx := B.exec
  have hb := B.bytes
  have hr := B.returns
  have hts := kx_hts (a := ([.ref mo, .int (iz p0), .int (iz kd), .int (iz p2)] : List Value).toArray) hG
  have hown : s.vm.findClass RX6 = some m.cls := findClass_of_methodNamed B.named
  have hlocks := B.notSynchronized
  subst hsz
  have hD := hD0.self (sz := s.heap.size)
  generalize hAe : va_A (mW mo ma cs I F) s.heap.size = A at hD hZ ⊢
  have hA : ∀ q : Nat, s.heap.size ≤ q → A q := fun q h => by rw [← hAe]; exact Or.inr h
  have hS : va_S A s.heap s.heap [] := va_S.rf
  have hl := lv_entry ([.ref mo, .int (iz p0), .int (iz kd), .int (iz p2)]) (n := 4) (Nat.le_of_ble_eq_true rfl)
  rw [lg_entry_eq]
  generalize (lg_sl ([.ref mo, .int (iz p0), .int (iz kd), .int (iz p2)]) ++ List.replicate (4 - (lg_sl ([.ref mo, .int (iz p0), .int (iz kd), .int (iz p2)])).length) Slot.unset).toArray = ls at hl ⊢
  have hl : lv_has ls 4 [(0, .ref mo), (1, .int (iz p0)), (2, .int (iz kd)), (3, .int (iz p2))] := hl
  have hnp := hln p0
  refine lv_aload_n hx hb dX6_page_0 rfl (lv_at hl 0 rfl) ?_
  refine lv_aload_n hx hb dX6_page_1 rfl (lv_at hl 0 rfl) ?_
  refine lv_iload_n hx hb dX6_page_2 rfl (lv_at hl 1 rfl) ?_
  refine mk_calli (As := [.int (iz p0)]) (rest := [.ref mo]) ⟨hx, hb, hml, hown, hts⟩ (k_isNone l dC dI mo ma cs I F p0 s.heap.size hB (by omega) (by omega)) (cwV 1 hts (kx_gV kq_04_msmall_3 kq_04_msmall_4 kq_04_msmall_5 kq_04_msmall_6 kq_04_msmall_7 rfl) rfl rfl rfl (by decide +kernel) ⟨Nat.le_of_ble_eq_true rfl, Nat.le_of_ble_eq_true rfl⟩) hP hD hK hG hZ hS hA rfl hl.1 rfl (Nat.le_of_ble_eq_true rfl) dX6_page_3 ⟨Nat.le_of_ble_eq_true rfl, Nat.le_of_ble_eq_true rfl⟩ (fun z_1 I_3 F_4 H locs hq_2 hP hD hS => ?_)
  try dsimp only at hq_2
  obtain ⟨rfl, rfl, hq_2⟩ := hq_2
  rcases hq_2 with ⟨rfl, hq_2⟩ | ⟨rfl, hq_2⟩
  · skip
    refine lv_iload_n hx hb dX6_page_6 rfl (lv_at hl 3 rfl) ?_
    refine lv_iconst (v := iz 1) hx hb dX6_page_7 (by decide) ?_
    refine ki_icmp_lt (tgt := 19) hx hb dX6_page_8 (by decide) (by omega) (by omega) (by omega) (by omega) (fun c_5 => ?_) (fun c_5 => ?_)
    · skip
      refine lv_iconst (v := iz 1) hx hb dX6_page_19 (by decide) ?_
      refine lv_goto (tgt := 24) hx hb dX6_page_20 (by decide) ?_
      refine lv_aload_n hx hb dX6_page_24 rfl (lv_at hl 0 rfl) ?_
      refine lv_iload_n hx hb dX6_page_25 rfl (lv_at hl 1 rfl) ?_
      refine mk_calli (As := [.int (iz p0)]) (rest := [.int (iz 1), .int (iz 1), .ref mo]) ⟨hx, hb, hml, hown, hts⟩ (k_isNone l dC dI mo ma cs I F p0 H.size hB (by omega) (by omega)) (cwV 1 hts (kx_gV kq_04_msmall_3 kq_04_msmall_4 kq_04_msmall_5 kq_04_msmall_6 kq_04_msmall_7 rfl) rfl rfl rfl (by decide +kernel) ⟨Nat.le_of_ble_eq_true rfl, Nat.le_of_ble_eq_true rfl⟩) hP hD hK hG hZ hS hA rfl hl.1 rfl (Nat.le_of_ble_eq_true rfl) dX6_page_26 ⟨Nat.le_of_ble_eq_true rfl, Nat.le_of_ble_eq_true rfl⟩ (fun z_6 I_8 F_9 H locs hq_7 hP hD hS => ?_)
      try dsimp only at hq_7
      obtain ⟨rfl, rfl, hq_7⟩ := hq_7
      rcases hq_7 with ⟨rfl, hq_7⟩ | ⟨rfl, hq_7⟩
      · skip
        refine ki_if_ne (tgt := 46) hx hb dX6_page_29 (by decide) (by omega) (by omega) (fun c_10 => ?_) (fun c_10 => ?_)
        · skip
          refine lv_iconst (v := iz 0) hx hb dX6_page_46 (by decide) ?_
          refine mk_calli (As := [.int (iz 1), .int (iz 1), .int (iz 0)]) (rest := []) ⟨hx, hb, hml, hown, hts⟩ (k_refused1 l dC dI mo ma cs I F 1 0 H.size (by omega) (by omega) (by omega) (by omega)) (cwV 3 hts (kx_gV kq_04_msmall_8 kq_04_msmall_9 kq_04_msmall_10 kq_04_msmall_6 kq_04_msmall_11 rfl) rfl rfl rfl (by decide +kernel) ⟨Nat.le_of_ble_eq_true rfl, Nat.le_of_ble_eq_true rfl⟩) hP hD hK hG hZ hS hA rfl hl.1 rfl (Nat.le_of_ble_eq_true rfl) dX6_page_47 ⟨Nat.le_of_ble_eq_true rfl, Nat.le_of_ble_eq_true rfl⟩ (fun z_11 I_13 F_14 H locs hq_12 hP hD hS => ?_)
          try dsimp only at hq_12
          obtain ⟨rfl, rfl, rfl⟩ := hq_12
          refine ki_if_eq (tgt := 55) hx hb dX6_page_50 (by decide) (by omega) (by omega) (fun c_15 => ?_) (fun c_15 => ?_)
          · omega
          · skip
            refine lv_iconst (v := iz 0) hx hb dX6_page_53 (by decide) ?_
            exact mk_ireti hx hb hr hlocks hP hD hK hS dX6_page_54 (Or.inl ⟨by omega, rfl, rfl, by omega⟩)
        · omega
      · skip
        refine ki_if_ne (tgt := 46) hx hb dX6_page_29 (by decide) (by omega) (by omega) (fun c_16 => ?_) (fun c_16 => ?_)
        · omega
        · skip
          refine lv_aload_n hx hb dX6_page_32 rfl (lv_at hl 0 rfl) ?_
          refine lv_iload_n hx hb dX6_page_33 rfl (lv_at hl 1 rfl) ?_
          refine mk_calli (As := [.int (iz p0)]) (rest := [.int (iz 1), .int (iz 1), .ref mo]) ⟨hx, hb, hml, hown, hts⟩ (k_toldOf l dC dI mo ma cs I F p0 H.size hB (by omega)) (cwV 1 hts (kx_gV kq_04_msmall_27 kq_04_msmall_28 kq_04_msmall_29 kq_04_msmall_6 kq_04_msmall_30 rfl) rfl rfl rfl (by decide +kernel) ⟨Nat.le_of_ble_eq_true rfl, Nat.le_of_ble_eq_true rfl⟩) hP hD hK hG hZ hS hA rfl hl.1 rfl (Nat.le_of_ble_eq_true rfl) dX6_page_34 ⟨Nat.le_of_ble_eq_true rfl, Nat.le_of_ble_eq_true rfl⟩ (fun z_17 I_19 F_20 H locs hq_18 hP hD hS => ?_)
          try dsimp only at hq_18
          obtain ⟨rfl, rfl, hq_18⟩ := hq_18
          refine lv_bipush (v := iz 20) hx hb dX6_page_37 (by decide) ?_
          refine ki_icmp_ne (tgt := 46) hx hb dX6_page_39 (by decide) (by omega) (by omega) (by omega) (by omega) (fun c_21 => ?_) (fun c_21 => ?_)
          · skip
            refine lv_iconst (v := iz 0) hx hb dX6_page_46 (by decide) ?_
            refine mk_calli (As := [.int (iz 1), .int (iz 1), .int (iz 0)]) (rest := []) ⟨hx, hb, hml, hown, hts⟩ (k_refused1 l dC dI mo ma cs I F 1 0 H.size (by omega) (by omega) (by omega) (by omega)) (cwV 3 hts (kx_gV kq_04_msmall_8 kq_04_msmall_9 kq_04_msmall_10 kq_04_msmall_6 kq_04_msmall_11 rfl) rfl rfl rfl (by decide +kernel) ⟨Nat.le_of_ble_eq_true rfl, Nat.le_of_ble_eq_true rfl⟩) hP hD hK hG hZ hS hA rfl hl.1 rfl (Nat.le_of_ble_eq_true rfl) dX6_page_47 ⟨Nat.le_of_ble_eq_true rfl, Nat.le_of_ble_eq_true rfl⟩ (fun z_22 I_24 F_25 H locs hq_23 hP hD hS => ?_)
            try dsimp only at hq_23
            obtain ⟨rfl, rfl, rfl⟩ := hq_23
            refine ki_if_eq (tgt := 55) hx hb dX6_page_50 (by decide) (by omega) (by omega) (fun c_26 => ?_) (fun c_26 => ?_)
            · omega
            · skip
              refine lv_iconst (v := iz 0) hx hb dX6_page_53 (by decide) ?_
              exact mk_ireti hx hb hr hlocks hP hD hK hS dX6_page_54 (Or.inl ⟨by omega, rfl, rfl, by omega⟩)
          · skip
            refine lv_iconst (v := iz 1) hx hb dX6_page_42 (by decide) ?_
            refine lv_goto (tgt := 47) hx hb dX6_page_43 (by decide) ?_
            refine mk_calli (As := [.int (iz 1), .int (iz 1), .int (iz 1)]) (rest := []) ⟨hx, hb, hml, hown, hts⟩ (k_refused1 l dC dI mo ma cs I F 1 1 H.size (by omega) (by omega) (by omega) (by omega)) (cwV 3 hts (kx_gV kq_04_msmall_8 kq_04_msmall_9 kq_04_msmall_10 kq_04_msmall_6 kq_04_msmall_11 rfl) rfl rfl rfl (by decide +kernel) ⟨Nat.le_of_ble_eq_true rfl, Nat.le_of_ble_eq_true rfl⟩) hP hD hK hG hZ hS hA rfl hl.1 rfl (Nat.le_of_ble_eq_true rfl) dX6_page_47 ⟨Nat.le_of_ble_eq_true rfl, Nat.le_of_ble_eq_true rfl⟩ (fun z_27 I_29 F_30 H locs hq_28 hP hD hS => ?_)
            try dsimp only at hq_28
            obtain ⟨rfl, rfl, rfl⟩ := hq_28
            refine ki_if_eq (tgt := 55) hx hb dX6_page_50 (by decide) (by omega) (by omega) (fun c_31 => ?_) (fun c_31 => ?_)
            · omega
            · skip
              refine lv_iconst (v := iz 0) hx hb dX6_page_53 (by decide) ?_
              exact mk_ireti hx hb hr hlocks hP hD hK hS dX6_page_54 (Or.inl ⟨by omega, rfl, rfl, by omega⟩)
    · skip
      refine lv_iload_n hx hb dX6_page_11 rfl (lv_at hl 3 rfl) ?_
      refine lv_iload_n hx hb dX6_page_12 rfl (lv_at hl 2 rfl) ?_
      refine mk_calls (As := [.int (iz kd)]) (rest := [.int (iz p2), .int (iz 1), .ref mo]) ⟨hx, hb, hml, hown, hts⟩ (k_most2 l dC dI kd H.size (by omega) (by omega)) (va_cwS 1 hts (kx_gS kq_04_msmall_31 kq_04_msmall_32 kq_04_msmall_6 kq_04_msmall_33 rfl) rfl rfl rfl (by decide +kernel) ⟨Nat.le_of_ble_eq_true rfl, Nat.le_of_ble_eq_true rfl⟩) hP hD hK hG hZ hS hA rfl hl.1 rfl (Nat.le_of_ble_eq_true rfl) dX6_page_13 ⟨Nat.le_of_ble_eq_true rfl, Nat.le_of_ble_eq_true rfl⟩ (fun z_32 H locs hq_33 hP hS => ?_)
      try dsimp only at hq_33
      refine ki_icmp_le (tgt := 23) hx hb dX6_page_16 (by decide) (by omega) (by omega) (by omega) (by omega) (fun c_34 => ?_) (fun c_34 => ?_)
      · skip
        refine lv_iconst (v := iz 0) hx hb dX6_page_23 (by decide) ?_
        refine lv_aload_n hx hb dX6_page_24 rfl (lv_at hl 0 rfl) ?_
        refine lv_iload_n hx hb dX6_page_25 rfl (lv_at hl 1 rfl) ?_
        refine mk_calli (As := [.int (iz p0)]) (rest := [.int (iz 0), .int (iz 1), .ref mo]) ⟨hx, hb, hml, hown, hts⟩ (k_isNone l dC dI mo ma cs I F p0 H.size hB (by omega) (by omega)) (cwV 1 hts (kx_gV kq_04_msmall_3 kq_04_msmall_4 kq_04_msmall_5 kq_04_msmall_6 kq_04_msmall_7 rfl) rfl rfl rfl (by decide +kernel) ⟨Nat.le_of_ble_eq_true rfl, Nat.le_of_ble_eq_true rfl⟩) hP hD hK hG hZ hS hA rfl hl.1 rfl (Nat.le_of_ble_eq_true rfl) dX6_page_26 ⟨Nat.le_of_ble_eq_true rfl, Nat.le_of_ble_eq_true rfl⟩ (fun z_35 I_37 F_38 H locs hq_36 hP hD hS => ?_)
        try dsimp only at hq_36
        obtain ⟨rfl, rfl, hq_36⟩ := hq_36
        rcases hq_36 with ⟨rfl, hq_36⟩ | ⟨rfl, hq_36⟩
        · skip
          refine ki_if_ne (tgt := 46) hx hb dX6_page_29 (by decide) (by omega) (by omega) (fun c_39 => ?_) (fun c_39 => ?_)
          · skip
            refine lv_iconst (v := iz 0) hx hb dX6_page_46 (by decide) ?_
            refine mk_calli (As := [.int (iz 1), .int (iz 0), .int (iz 0)]) (rest := []) ⟨hx, hb, hml, hown, hts⟩ (k_refused1 l dC dI mo ma cs I F 0 0 H.size (by omega) (by omega) (by omega) (by omega)) (cwV 3 hts (kx_gV kq_04_msmall_8 kq_04_msmall_9 kq_04_msmall_10 kq_04_msmall_6 kq_04_msmall_11 rfl) rfl rfl rfl (by decide +kernel) ⟨Nat.le_of_ble_eq_true rfl, Nat.le_of_ble_eq_true rfl⟩) hP hD hK hG hZ hS hA rfl hl.1 rfl (Nat.le_of_ble_eq_true rfl) dX6_page_47 ⟨Nat.le_of_ble_eq_true rfl, Nat.le_of_ble_eq_true rfl⟩ (fun z_40 I_42 F_43 H locs hq_41 hP hD hS => ?_)
            try dsimp only at hq_41
            obtain ⟨rfl, rfl, rfl⟩ := hq_41
            refine ki_if_eq (tgt := 55) hx hb dX6_page_50 (by decide) (by omega) (by omega) (fun c_44 => ?_) (fun c_44 => ?_)
            · omega
            · skip
              refine lv_iconst (v := iz 0) hx hb dX6_page_53 (by decide) ?_
              exact mk_ireti hx hb hr hlocks hP hD hK hS dX6_page_54 (Or.inl ⟨by omega, rfl, rfl, by omega⟩)
          · omega
        · skip
          refine ki_if_ne (tgt := 46) hx hb dX6_page_29 (by decide) (by omega) (by omega) (fun c_45 => ?_) (fun c_45 => ?_)
          · omega
          · skip
            refine lv_aload_n hx hb dX6_page_32 rfl (lv_at hl 0 rfl) ?_
            refine lv_iload_n hx hb dX6_page_33 rfl (lv_at hl 1 rfl) ?_
            refine mk_calli (As := [.int (iz p0)]) (rest := [.int (iz 0), .int (iz 1), .ref mo]) ⟨hx, hb, hml, hown, hts⟩ (k_toldOf l dC dI mo ma cs I F p0 H.size hB (by omega)) (cwV 1 hts (kx_gV kq_04_msmall_27 kq_04_msmall_28 kq_04_msmall_29 kq_04_msmall_6 kq_04_msmall_30 rfl) rfl rfl rfl (by decide +kernel) ⟨Nat.le_of_ble_eq_true rfl, Nat.le_of_ble_eq_true rfl⟩) hP hD hK hG hZ hS hA rfl hl.1 rfl (Nat.le_of_ble_eq_true rfl) dX6_page_34 ⟨Nat.le_of_ble_eq_true rfl, Nat.le_of_ble_eq_true rfl⟩ (fun z_46 I_48 F_49 H locs hq_47 hP hD hS => ?_)
            try dsimp only at hq_47
            obtain ⟨rfl, rfl, hq_47⟩ := hq_47
            refine lv_bipush (v := iz 20) hx hb dX6_page_37 (by decide) ?_
            refine ki_icmp_ne (tgt := 46) hx hb dX6_page_39 (by decide) (by omega) (by omega) (by omega) (by omega) (fun c_50 => ?_) (fun c_50 => ?_)
            · skip
              refine lv_iconst (v := iz 0) hx hb dX6_page_46 (by decide) ?_
              refine mk_calli (As := [.int (iz 1), .int (iz 0), .int (iz 0)]) (rest := []) ⟨hx, hb, hml, hown, hts⟩ (k_refused1 l dC dI mo ma cs I F 0 0 H.size (by omega) (by omega) (by omega) (by omega)) (cwV 3 hts (kx_gV kq_04_msmall_8 kq_04_msmall_9 kq_04_msmall_10 kq_04_msmall_6 kq_04_msmall_11 rfl) rfl rfl rfl (by decide +kernel) ⟨Nat.le_of_ble_eq_true rfl, Nat.le_of_ble_eq_true rfl⟩) hP hD hK hG hZ hS hA rfl hl.1 rfl (Nat.le_of_ble_eq_true rfl) dX6_page_47 ⟨Nat.le_of_ble_eq_true rfl, Nat.le_of_ble_eq_true rfl⟩ (fun z_51 I_53 F_54 H locs hq_52 hP hD hS => ?_)
              try dsimp only at hq_52
              obtain ⟨rfl, rfl, rfl⟩ := hq_52
              refine ki_if_eq (tgt := 55) hx hb dX6_page_50 (by decide) (by omega) (by omega) (fun c_55 => ?_) (fun c_55 => ?_)
              · omega
              · skip
                refine lv_iconst (v := iz 0) hx hb dX6_page_53 (by decide) ?_
                exact mk_ireti hx hb hr hlocks hP hD hK hS dX6_page_54 (Or.inl ⟨by omega, rfl, rfl, by omega⟩)
            · skip
              refine lv_iconst (v := iz 1) hx hb dX6_page_42 (by decide) ?_
              refine lv_goto (tgt := 47) hx hb dX6_page_43 (by decide) ?_
              refine mk_calli (As := [.int (iz 1), .int (iz 0), .int (iz 1)]) (rest := []) ⟨hx, hb, hml, hown, hts⟩ (k_refused1 l dC dI mo ma cs I F 0 1 H.size (by omega) (by omega) (by omega) (by omega)) (cwV 3 hts (kx_gV kq_04_msmall_8 kq_04_msmall_9 kq_04_msmall_10 kq_04_msmall_6 kq_04_msmall_11 rfl) rfl rfl rfl (by decide +kernel) ⟨Nat.le_of_ble_eq_true rfl, Nat.le_of_ble_eq_true rfl⟩) hP hD hK hG hZ hS hA rfl hl.1 rfl (Nat.le_of_ble_eq_true rfl) dX6_page_47 ⟨Nat.le_of_ble_eq_true rfl, Nat.le_of_ble_eq_true rfl⟩ (fun z_56 I_58 F_59 H locs hq_57 hP hD hS => ?_)
              try dsimp only at hq_57
              obtain ⟨rfl, rfl, rfl⟩ := hq_57
              refine ki_if_eq (tgt := 55) hx hb dX6_page_50 (by decide) (by omega) (by omega) (fun c_60 => ?_) (fun c_60 => ?_)
              · omega
              · skip
                refine lv_iconst (v := iz 0) hx hb dX6_page_53 (by decide) ?_
                exact mk_ireti hx hb hr hlocks hP hD hK hS dX6_page_54 (Or.inl ⟨by omega, rfl, rfl, by omega⟩)
      · skip
        refine lv_iconst (v := iz 1) hx hb dX6_page_19 (by decide) ?_
        refine lv_goto (tgt := 24) hx hb dX6_page_20 (by decide) ?_
        refine lv_aload_n hx hb dX6_page_24 rfl (lv_at hl 0 rfl) ?_
        refine lv_iload_n hx hb dX6_page_25 rfl (lv_at hl 1 rfl) ?_
        refine mk_calli (As := [.int (iz p0)]) (rest := [.int (iz 1), .int (iz 1), .ref mo]) ⟨hx, hb, hml, hown, hts⟩ (k_isNone l dC dI mo ma cs I F p0 H.size hB (by omega) (by omega)) (cwV 1 hts (kx_gV kq_04_msmall_3 kq_04_msmall_4 kq_04_msmall_5 kq_04_msmall_6 kq_04_msmall_7 rfl) rfl rfl rfl (by decide +kernel) ⟨Nat.le_of_ble_eq_true rfl, Nat.le_of_ble_eq_true rfl⟩) hP hD hK hG hZ hS hA rfl hl.1 rfl (Nat.le_of_ble_eq_true rfl) dX6_page_26 ⟨Nat.le_of_ble_eq_true rfl, Nat.le_of_ble_eq_true rfl⟩ (fun z_61 I_63 F_64 H locs hq_62 hP hD hS => ?_)
        try dsimp only at hq_62
        obtain ⟨rfl, rfl, hq_62⟩ := hq_62
        rcases hq_62 with ⟨rfl, hq_62⟩ | ⟨rfl, hq_62⟩
        · skip
          refine ki_if_ne (tgt := 46) hx hb dX6_page_29 (by decide) (by omega) (by omega) (fun c_65 => ?_) (fun c_65 => ?_)
          · skip
            refine lv_iconst (v := iz 0) hx hb dX6_page_46 (by decide) ?_
            refine mk_calli (As := [.int (iz 1), .int (iz 1), .int (iz 0)]) (rest := []) ⟨hx, hb, hml, hown, hts⟩ (k_refused1 l dC dI mo ma cs I F 1 0 H.size (by omega) (by omega) (by omega) (by omega)) (cwV 3 hts (kx_gV kq_04_msmall_8 kq_04_msmall_9 kq_04_msmall_10 kq_04_msmall_6 kq_04_msmall_11 rfl) rfl rfl rfl (by decide +kernel) ⟨Nat.le_of_ble_eq_true rfl, Nat.le_of_ble_eq_true rfl⟩) hP hD hK hG hZ hS hA rfl hl.1 rfl (Nat.le_of_ble_eq_true rfl) dX6_page_47 ⟨Nat.le_of_ble_eq_true rfl, Nat.le_of_ble_eq_true rfl⟩ (fun z_66 I_68 F_69 H locs hq_67 hP hD hS => ?_)
            try dsimp only at hq_67
            obtain ⟨rfl, rfl, rfl⟩ := hq_67
            refine ki_if_eq (tgt := 55) hx hb dX6_page_50 (by decide) (by omega) (by omega) (fun c_70 => ?_) (fun c_70 => ?_)
            · omega
            · skip
              refine lv_iconst (v := iz 0) hx hb dX6_page_53 (by decide) ?_
              exact mk_ireti hx hb hr hlocks hP hD hK hS dX6_page_54 (Or.inl ⟨by omega, rfl, rfl, by omega⟩)
          · omega
        · skip
          refine ki_if_ne (tgt := 46) hx hb dX6_page_29 (by decide) (by omega) (by omega) (fun c_71 => ?_) (fun c_71 => ?_)
          · omega
          · skip
            refine lv_aload_n hx hb dX6_page_32 rfl (lv_at hl 0 rfl) ?_
            refine lv_iload_n hx hb dX6_page_33 rfl (lv_at hl 1 rfl) ?_
            refine mk_calli (As := [.int (iz p0)]) (rest := [.int (iz 1), .int (iz 1), .ref mo]) ⟨hx, hb, hml, hown, hts⟩ (k_toldOf l dC dI mo ma cs I F p0 H.size hB (by omega)) (cwV 1 hts (kx_gV kq_04_msmall_27 kq_04_msmall_28 kq_04_msmall_29 kq_04_msmall_6 kq_04_msmall_30 rfl) rfl rfl rfl (by decide +kernel) ⟨Nat.le_of_ble_eq_true rfl, Nat.le_of_ble_eq_true rfl⟩) hP hD hK hG hZ hS hA rfl hl.1 rfl (Nat.le_of_ble_eq_true rfl) dX6_page_34 ⟨Nat.le_of_ble_eq_true rfl, Nat.le_of_ble_eq_true rfl⟩ (fun z_72 I_74 F_75 H locs hq_73 hP hD hS => ?_)
            try dsimp only at hq_73
            obtain ⟨rfl, rfl, hq_73⟩ := hq_73
            refine lv_bipush (v := iz 20) hx hb dX6_page_37 (by decide) ?_
            refine ki_icmp_ne (tgt := 46) hx hb dX6_page_39 (by decide) (by omega) (by omega) (by omega) (by omega) (fun c_76 => ?_) (fun c_76 => ?_)
            · skip
              refine lv_iconst (v := iz 0) hx hb dX6_page_46 (by decide) ?_
              refine mk_calli (As := [.int (iz 1), .int (iz 1), .int (iz 0)]) (rest := []) ⟨hx, hb, hml, hown, hts⟩ (k_refused1 l dC dI mo ma cs I F 1 0 H.size (by omega) (by omega) (by omega) (by omega)) (cwV 3 hts (kx_gV kq_04_msmall_8 kq_04_msmall_9 kq_04_msmall_10 kq_04_msmall_6 kq_04_msmall_11 rfl) rfl rfl rfl (by decide +kernel) ⟨Nat.le_of_ble_eq_true rfl, Nat.le_of_ble_eq_true rfl⟩) hP hD hK hG hZ hS hA rfl hl.1 rfl (Nat.le_of_ble_eq_true rfl) dX6_page_47 ⟨Nat.le_of_ble_eq_true rfl, Nat.le_of_ble_eq_true rfl⟩ (fun z_77 I_79 F_80 H locs hq_78 hP hD hS => ?_)
              try dsimp only at hq_78
              obtain ⟨rfl, rfl, rfl⟩ := hq_78
              refine ki_if_eq (tgt := 55) hx hb dX6_page_50 (by decide) (by omega) (by omega) (fun c_81 => ?_) (fun c_81 => ?_)
              · omega
              · skip
                refine lv_iconst (v := iz 0) hx hb dX6_page_53 (by decide) ?_
                exact mk_ireti hx hb hr hlocks hP hD hK hS dX6_page_54 (Or.inl ⟨by omega, rfl, rfl, by omega⟩)
            · skip
              refine lv_iconst (v := iz 1) hx hb dX6_page_42 (by decide) ?_
              refine lv_goto (tgt := 47) hx hb dX6_page_43 (by decide) ?_
              refine mk_calli (As := [.int (iz 1), .int (iz 1), .int (iz 1)]) (rest := []) ⟨hx, hb, hml, hown, hts⟩ (k_refused1 l dC dI mo ma cs I F 1 1 H.size (by omega) (by omega) (by omega) (by omega)) (cwV 3 hts (kx_gV kq_04_msmall_8 kq_04_msmall_9 kq_04_msmall_10 kq_04_msmall_6 kq_04_msmall_11 rfl) rfl rfl rfl (by decide +kernel) ⟨Nat.le_of_ble_eq_true rfl, Nat.le_of_ble_eq_true rfl⟩) hP hD hK hG hZ hS hA rfl hl.1 rfl (Nat.le_of_ble_eq_true rfl) dX6_page_47 ⟨Nat.le_of_ble_eq_true rfl, Nat.le_of_ble_eq_true rfl⟩ (fun z_82 I_84 F_85 H locs hq_83 hP hD hS => ?_)
              try dsimp only at hq_83
              obtain ⟨rfl, rfl, rfl⟩ := hq_83
              refine ki_if_eq (tgt := 55) hx hb dX6_page_50 (by decide) (by omega) (by omega) (fun c_86 => ?_) (fun c_86 => ?_)
              · omega
              · skip
                refine lv_iconst (v := iz 0) hx hb dX6_page_53 (by decide) ?_
                exact mk_ireti hx hb hr hlocks hP hD hK hS dX6_page_54 (Or.inl ⟨by omega, rfl, rfl, by omega⟩)
  · skip
    refine lv_iload_n hx hb dX6_page_6 rfl (lv_at hl 3 rfl) ?_
    refine lv_iconst (v := iz 1) hx hb dX6_page_7 (by decide) ?_
    refine ki_icmp_lt (tgt := 19) hx hb dX6_page_8 (by decide) (by omega) (by omega) (by omega) (by omega) (fun c_87 => ?_) (fun c_87 => ?_)
    · skip
      refine lv_iconst (v := iz 1) hx hb dX6_page_19 (by decide) ?_
      refine lv_goto (tgt := 24) hx hb dX6_page_20 (by decide) ?_
      refine lv_aload_n hx hb dX6_page_24 rfl (lv_at hl 0 rfl) ?_
      refine lv_iload_n hx hb dX6_page_25 rfl (lv_at hl 1 rfl) ?_
      refine mk_calli (As := [.int (iz p0)]) (rest := [.int (iz 1), .int (iz 0), .ref mo]) ⟨hx, hb, hml, hown, hts⟩ (k_isNone l dC dI mo ma cs I F p0 H.size hB (by omega) (by omega)) (cwV 1 hts (kx_gV kq_04_msmall_3 kq_04_msmall_4 kq_04_msmall_5 kq_04_msmall_6 kq_04_msmall_7 rfl) rfl rfl rfl (by decide +kernel) ⟨Nat.le_of_ble_eq_true rfl, Nat.le_of_ble_eq_true rfl⟩) hP hD hK hG hZ hS hA rfl hl.1 rfl (Nat.le_of_ble_eq_true rfl) dX6_page_26 ⟨Nat.le_of_ble_eq_true rfl, Nat.le_of_ble_eq_true rfl⟩ (fun z_88 I_90 F_91 H locs hq_89 hP hD hS => ?_)
      try dsimp only at hq_89
      obtain ⟨rfl, rfl, hq_89⟩ := hq_89
      rcases hq_89 with ⟨rfl, hq_89⟩ | ⟨rfl, hq_89⟩
      · skip
        refine ki_if_ne (tgt := 46) hx hb dX6_page_29 (by decide) (by omega) (by omega) (fun c_92 => ?_) (fun c_92 => ?_)
        · skip
          refine lv_iconst (v := iz 0) hx hb dX6_page_46 (by decide) ?_
          refine mk_calli (As := [.int (iz 0), .int (iz 1), .int (iz 0)]) (rest := []) ⟨hx, hb, hml, hown, hts⟩ (k_refused2 l dC dI mo ma cs I F 0 H.size (by omega) (by omega)) (cwV 3 hts (kx_gV kq_04_msmall_8 kq_04_msmall_9 kq_04_msmall_10 kq_04_msmall_6 kq_04_msmall_11 rfl) rfl rfl rfl (by decide +kernel) ⟨Nat.le_of_ble_eq_true rfl, Nat.le_of_ble_eq_true rfl⟩) hP hD hK hG hZ hS hA rfl hl.1 rfl (Nat.le_of_ble_eq_true rfl) dX6_page_47 ⟨Nat.le_of_ble_eq_true rfl, Nat.le_of_ble_eq_true rfl⟩ (fun z_93 I_95 F_96 H locs hq_94 hP hD hS => ?_)
          try dsimp only at hq_94
          obtain ⟨rfl, rfl, rfl⟩ := hq_94
          refine ki_if_eq (tgt := 55) hx hb dX6_page_50 (by decide) (by omega) (by omega) (fun c_97 => ?_) (fun c_97 => ?_)
          · omega
          · skip
            refine lv_iconst (v := iz 0) hx hb dX6_page_53 (by decide) ?_
            exact mk_ireti hx hb hr hlocks hP hD hK hS dX6_page_54 (Or.inr (Or.inl ⟨by omega, rfl, rfl, by omega, by omega⟩))
        · omega
      · skip
        refine ki_if_ne (tgt := 46) hx hb dX6_page_29 (by decide) (by omega) (by omega) (fun c_98 => ?_) (fun c_98 => ?_)
        · omega
        · skip
          refine lv_aload_n hx hb dX6_page_32 rfl (lv_at hl 0 rfl) ?_
          refine lv_iload_n hx hb dX6_page_33 rfl (lv_at hl 1 rfl) ?_
          refine mk_calli (As := [.int (iz p0)]) (rest := [.int (iz 1), .int (iz 0), .ref mo]) ⟨hx, hb, hml, hown, hts⟩ (k_toldOf l dC dI mo ma cs I F p0 H.size hB (by omega)) (cwV 1 hts (kx_gV kq_04_msmall_27 kq_04_msmall_28 kq_04_msmall_29 kq_04_msmall_6 kq_04_msmall_30 rfl) rfl rfl rfl (by decide +kernel) ⟨Nat.le_of_ble_eq_true rfl, Nat.le_of_ble_eq_true rfl⟩) hP hD hK hG hZ hS hA rfl hl.1 rfl (Nat.le_of_ble_eq_true rfl) dX6_page_34 ⟨Nat.le_of_ble_eq_true rfl, Nat.le_of_ble_eq_true rfl⟩ (fun z_99 I_101 F_102 H locs hq_100 hP hD hS => ?_)
          try dsimp only at hq_100
          obtain ⟨rfl, rfl, hq_100⟩ := hq_100
          refine lv_bipush (v := iz 20) hx hb dX6_page_37 (by decide) ?_
          refine ki_icmp_ne (tgt := 46) hx hb dX6_page_39 (by decide) (by omega) (by omega) (by omega) (by omega) (fun c_103 => ?_) (fun c_103 => ?_)
          · skip
            refine lv_iconst (v := iz 0) hx hb dX6_page_46 (by decide) ?_
            refine mk_calli (As := [.int (iz 0), .int (iz 1), .int (iz 0)]) (rest := []) ⟨hx, hb, hml, hown, hts⟩ (k_refused2 l dC dI mo ma cs I F 0 H.size (by omega) (by omega)) (cwV 3 hts (kx_gV kq_04_msmall_8 kq_04_msmall_9 kq_04_msmall_10 kq_04_msmall_6 kq_04_msmall_11 rfl) rfl rfl rfl (by decide +kernel) ⟨Nat.le_of_ble_eq_true rfl, Nat.le_of_ble_eq_true rfl⟩) hP hD hK hG hZ hS hA rfl hl.1 rfl (Nat.le_of_ble_eq_true rfl) dX6_page_47 ⟨Nat.le_of_ble_eq_true rfl, Nat.le_of_ble_eq_true rfl⟩ (fun z_104 I_106 F_107 H locs hq_105 hP hD hS => ?_)
            try dsimp only at hq_105
            obtain ⟨rfl, rfl, rfl⟩ := hq_105
            refine ki_if_eq (tgt := 55) hx hb dX6_page_50 (by decide) (by omega) (by omega) (fun c_108 => ?_) (fun c_108 => ?_)
            · omega
            · skip
              refine lv_iconst (v := iz 0) hx hb dX6_page_53 (by decide) ?_
              exact mk_ireti hx hb hr hlocks hP hD hK hS dX6_page_54 (Or.inr (Or.inl ⟨by omega, rfl, rfl, by omega, by omega⟩))
          · skip
            refine lv_iconst (v := iz 1) hx hb dX6_page_42 (by decide) ?_
            refine lv_goto (tgt := 47) hx hb dX6_page_43 (by decide) ?_
            refine mk_calli (As := [.int (iz 0), .int (iz 1), .int (iz 1)]) (rest := []) ⟨hx, hb, hml, hown, hts⟩ (k_refused2 l dC dI mo ma cs I F 1 H.size (by omega) (by omega)) (cwV 3 hts (kx_gV kq_04_msmall_8 kq_04_msmall_9 kq_04_msmall_10 kq_04_msmall_6 kq_04_msmall_11 rfl) rfl rfl rfl (by decide +kernel) ⟨Nat.le_of_ble_eq_true rfl, Nat.le_of_ble_eq_true rfl⟩) hP hD hK hG hZ hS hA rfl hl.1 rfl (Nat.le_of_ble_eq_true rfl) dX6_page_47 ⟨Nat.le_of_ble_eq_true rfl, Nat.le_of_ble_eq_true rfl⟩ (fun z_109 I_111 F_112 H locs hq_110 hP hD hS => ?_)
            try dsimp only at hq_110
            obtain ⟨rfl, rfl, rfl⟩ := hq_110
            refine ki_if_eq (tgt := 55) hx hb dX6_page_50 (by decide) (by omega) (by omega) (fun c_113 => ?_) (fun c_113 => ?_)
            · omega
            · skip
              refine lv_iconst (v := iz 0) hx hb dX6_page_53 (by decide) ?_
              exact mk_ireti hx hb hr hlocks hP hD hK hS dX6_page_54 (Or.inr (Or.inl ⟨by omega, rfl, rfl, by omega, by omega⟩))
    · skip
      refine lv_iload_n hx hb dX6_page_11 rfl (lv_at hl 3 rfl) ?_
      refine lv_iload_n hx hb dX6_page_12 rfl (lv_at hl 2 rfl) ?_
      refine mk_calls (As := [.int (iz kd)]) (rest := [.int (iz p2), .int (iz 0), .ref mo]) ⟨hx, hb, hml, hown, hts⟩ (k_most2 l dC dI kd H.size (by omega) (by omega)) (va_cwS 1 hts (kx_gS kq_04_msmall_31 kq_04_msmall_32 kq_04_msmall_6 kq_04_msmall_33 rfl) rfl rfl rfl (by decide +kernel) ⟨Nat.le_of_ble_eq_true rfl, Nat.le_of_ble_eq_true rfl⟩) hP hD hK hG hZ hS hA rfl hl.1 rfl (Nat.le_of_ble_eq_true rfl) dX6_page_13 ⟨Nat.le_of_ble_eq_true rfl, Nat.le_of_ble_eq_true rfl⟩ (fun z_114 H locs hq_115 hP hS => ?_)
      try dsimp only at hq_115
      refine ki_icmp_le (tgt := 23) hx hb dX6_page_16 (by decide) (by omega) (by omega) (by omega) (by omega) (fun c_116 => ?_) (fun c_116 => ?_)
      · skip
        refine lv_iconst (v := iz 0) hx hb dX6_page_23 (by decide) ?_
        refine lv_aload_n hx hb dX6_page_24 rfl (lv_at hl 0 rfl) ?_
        refine lv_iload_n hx hb dX6_page_25 rfl (lv_at hl 1 rfl) ?_
        refine mk_calli (As := [.int (iz p0)]) (rest := [.int (iz 0), .int (iz 0), .ref mo]) ⟨hx, hb, hml, hown, hts⟩ (k_isNone l dC dI mo ma cs I F p0 H.size hB (by omega) (by omega)) (cwV 1 hts (kx_gV kq_04_msmall_3 kq_04_msmall_4 kq_04_msmall_5 kq_04_msmall_6 kq_04_msmall_7 rfl) rfl rfl rfl (by decide +kernel) ⟨Nat.le_of_ble_eq_true rfl, Nat.le_of_ble_eq_true rfl⟩) hP hD hK hG hZ hS hA rfl hl.1 rfl (Nat.le_of_ble_eq_true rfl) dX6_page_26 ⟨Nat.le_of_ble_eq_true rfl, Nat.le_of_ble_eq_true rfl⟩ (fun z_117 I_119 F_120 H locs hq_118 hP hD hS => ?_)
        try dsimp only at hq_118
        obtain ⟨rfl, rfl, hq_118⟩ := hq_118
        rcases hq_118 with ⟨rfl, hq_118⟩ | ⟨rfl, hq_118⟩
        · skip
          refine ki_if_ne (tgt := 46) hx hb dX6_page_29 (by decide) (by omega) (by omega) (fun c_121 => ?_) (fun c_121 => ?_)
          · skip
            refine lv_iconst (v := iz 0) hx hb dX6_page_46 (by decide) ?_
            refine mk_calli (As := [.int (iz 0), .int (iz 0), .int (iz 0)]) (rest := []) ⟨hx, hb, hml, hown, hts⟩ (k_refused0 l dC dI mo ma cs I F  H.size ) (cwV 3 hts (kx_gV kq_04_msmall_8 kq_04_msmall_9 kq_04_msmall_10 kq_04_msmall_6 kq_04_msmall_11 rfl) rfl rfl rfl (by decide +kernel) ⟨Nat.le_of_ble_eq_true rfl, Nat.le_of_ble_eq_true rfl⟩) hP hD hK hG hZ hS hA rfl hl.1 rfl (Nat.le_of_ble_eq_true rfl) dX6_page_47 ⟨Nat.le_of_ble_eq_true rfl, Nat.le_of_ble_eq_true rfl⟩ (fun z_122 I_124 F_125 H locs hq_123 hP hD hS => ?_)
            try dsimp only at hq_123
            obtain ⟨rfl, rfl, rfl⟩ := hq_123
            refine ki_if_eq (tgt := 55) hx hb dX6_page_50 (by decide) (by omega) (by omega) (fun c_126 => ?_) (fun c_126 => ?_)
            · skip
              refine lv_aload_n hx hb dX6_page_55 rfl (lv_at hl 0 rfl) ?_
              refine lv_iload_n hx hb dX6_page_56 rfl (lv_at hl 1 rfl) ?_
              refine lv_iload_n hx hb dX6_page_57 rfl (lv_at hl 2 rfl) ?_
              refine lv_iload_n hx hb dX6_page_58 rfl (lv_at hl 3 rfl) ?_
              refine lv_iload_n hx hb dX6_page_59 rfl (lv_at hl 3 rfl) ?_
              refine lv_iconst (v := iz 0) hx hb dX6_page_60 (by decide) ?_
              refine mk_callv (As := [.int (iz p0), .int (iz kd), .int (iz p2), .int (iz p2), .int (iz 0)]) (rest := []) ⟨hx, hb, hml, hown, hts⟩ (k_keep l dC dI mo ma cs (va_up I 0 0) F p0 kd p2 p2 0 H.size (mB_i hB 0 (by omega) (by omega)) (by omega) (by split at hnp <;> omega)) (cwV 5 hts (kx_gV kq_04_msmall_34 kq_04_msmall_35 kq_04_msmall_36 kq_04_msmall_6 kq_04_msmall_37 rfl) rfl rfl rfl (by decide +kernel) ⟨Nat.le_of_ble_eq_true rfl, Nat.le_of_ble_eq_true rfl⟩) hP hD hK hG hZ hS hA rfl hl.1 rfl (Nat.le_of_ble_eq_true rfl) dX6_page_61 ⟨Nat.le_of_ble_eq_true rfl, Nat.le_of_ble_eq_true rfl⟩ (fun I_129 F_130 H locs hq_128 hP hD hS => ?_)
              try dsimp only at hq_128
              obtain ⟨rfl, rfl⟩ := hq_128
              refine lv_aload_n hx hb dX6_page_64 rfl (lv_at hl 0 rfl) ?_
              refine lv_iload_n hx hb dX6_page_65 rfl (lv_at hl 1 rfl) ?_
              refine mk_calli (As := [.int (iz p0)]) (rest := []) ⟨hx, hb, hml, hown, hts⟩ (k_toldOf l dC dI mo ma cs (va_up I 0 0) (va_up (va_up (va_up (va_up (va_up F 6 (upI (F 6) (20 * p0 + F 10 p0) kd)) 7 (upI (F 7) (20 * p0 + F 10 p0) p2)) 8 (upI (F 8) (20 * p0 + F 10 p0) p2)) 9 (upI (F 9) (20 * p0 + F 10 p0) (vp_nar .boolean (iz 0)).toInt)) 10 (upI (F 10) p0 (F 10 p0 + 1))) p0 H.size (mB_f (mB_f (mB_f (mB_f (mB_f (mB_i hB 0 (by omega) (by omega)) 6 (20 * p0 + F 10 p0) (by omega) (by omega)) 7 (20 * p0 + F 10 p0) (by omega) (by omega)) 8 (20 * p0 + F 10 p0) (by omega) (by omega)) 9 (20 * p0 + F 10 p0) (iz_lo _) (iz_hi _)) 10 p0 (by omega) (by omega)) (by omega)) (cwV 1 hts (kx_gV kq_04_msmall_27 kq_04_msmall_28 kq_04_msmall_29 kq_04_msmall_6 kq_04_msmall_30 rfl) rfl rfl rfl (by decide +kernel) ⟨Nat.le_of_ble_eq_true rfl, Nat.le_of_ble_eq_true rfl⟩) hP hD hK hG hZ hS hA rfl hl.1 rfl (Nat.le_of_ble_eq_true rfl) dX6_page_66 ⟨Nat.le_of_ble_eq_true rfl, Nat.le_of_ble_eq_true rfl⟩ (fun z_131 I_133 F_134 H locs hq_132 hP hD hS => ?_)
              try dsimp only at hq_132
              obtain ⟨rfl, rfl, hq_132⟩ := hq_132
              simp [va_up, upI] at hq_132
              exact mk_ireti hx hb hr hlocks hP hD hK hS dX6_page_69 (Or.inr (Or.inr (Or.inr ⟨rfl, rfl, by omega, by omega, by omega, by omega⟩)))
            · omega
          · omega
        · skip
          refine ki_if_ne (tgt := 46) hx hb dX6_page_29 (by decide) (by omega) (by omega) (fun c_135 => ?_) (fun c_135 => ?_)
          · omega
          · skip
            refine lv_aload_n hx hb dX6_page_32 rfl (lv_at hl 0 rfl) ?_
            refine lv_iload_n hx hb dX6_page_33 rfl (lv_at hl 1 rfl) ?_
            refine mk_calli (As := [.int (iz p0)]) (rest := [.int (iz 0), .int (iz 0), .ref mo]) ⟨hx, hb, hml, hown, hts⟩ (k_toldOf l dC dI mo ma cs I F p0 H.size hB (by omega)) (cwV 1 hts (kx_gV kq_04_msmall_27 kq_04_msmall_28 kq_04_msmall_29 kq_04_msmall_6 kq_04_msmall_30 rfl) rfl rfl rfl (by decide +kernel) ⟨Nat.le_of_ble_eq_true rfl, Nat.le_of_ble_eq_true rfl⟩) hP hD hK hG hZ hS hA rfl hl.1 rfl (Nat.le_of_ble_eq_true rfl) dX6_page_34 ⟨Nat.le_of_ble_eq_true rfl, Nat.le_of_ble_eq_true rfl⟩ (fun z_136 I_138 F_139 H locs hq_137 hP hD hS => ?_)
            try dsimp only at hq_137
            obtain ⟨rfl, rfl, hq_137⟩ := hq_137
            refine lv_bipush (v := iz 20) hx hb dX6_page_37 (by decide) ?_
            refine ki_icmp_ne (tgt := 46) hx hb dX6_page_39 (by decide) (by omega) (by omega) (by omega) (by omega) (fun c_140 => ?_) (fun c_140 => ?_)
            · skip
              refine lv_iconst (v := iz 0) hx hb dX6_page_46 (by decide) ?_
              refine mk_calli (As := [.int (iz 0), .int (iz 0), .int (iz 0)]) (rest := []) ⟨hx, hb, hml, hown, hts⟩ (k_refused0 l dC dI mo ma cs I F  H.size ) (cwV 3 hts (kx_gV kq_04_msmall_8 kq_04_msmall_9 kq_04_msmall_10 kq_04_msmall_6 kq_04_msmall_11 rfl) rfl rfl rfl (by decide +kernel) ⟨Nat.le_of_ble_eq_true rfl, Nat.le_of_ble_eq_true rfl⟩) hP hD hK hG hZ hS hA rfl hl.1 rfl (Nat.le_of_ble_eq_true rfl) dX6_page_47 ⟨Nat.le_of_ble_eq_true rfl, Nat.le_of_ble_eq_true rfl⟩ (fun z_141 I_143 F_144 H locs hq_142 hP hD hS => ?_)
              try dsimp only at hq_142
              obtain ⟨rfl, rfl, rfl⟩ := hq_142
              refine ki_if_eq (tgt := 55) hx hb dX6_page_50 (by decide) (by omega) (by omega) (fun c_145 => ?_) (fun c_145 => ?_)
              · skip
                refine lv_aload_n hx hb dX6_page_55 rfl (lv_at hl 0 rfl) ?_
                refine lv_iload_n hx hb dX6_page_56 rfl (lv_at hl 1 rfl) ?_
                refine lv_iload_n hx hb dX6_page_57 rfl (lv_at hl 2 rfl) ?_
                refine lv_iload_n hx hb dX6_page_58 rfl (lv_at hl 3 rfl) ?_
                refine lv_iload_n hx hb dX6_page_59 rfl (lv_at hl 3 rfl) ?_
                refine lv_iconst (v := iz 0) hx hb dX6_page_60 (by decide) ?_
                refine mk_callv (As := [.int (iz p0), .int (iz kd), .int (iz p2), .int (iz p2), .int (iz 0)]) (rest := []) ⟨hx, hb, hml, hown, hts⟩ (k_keep l dC dI mo ma cs (va_up I 0 0) F p0 kd p2 p2 0 H.size (mB_i hB 0 (by omega) (by omega)) (by omega) (by split at hnp <;> omega)) (cwV 5 hts (kx_gV kq_04_msmall_34 kq_04_msmall_35 kq_04_msmall_36 kq_04_msmall_6 kq_04_msmall_37 rfl) rfl rfl rfl (by decide +kernel) ⟨Nat.le_of_ble_eq_true rfl, Nat.le_of_ble_eq_true rfl⟩) hP hD hK hG hZ hS hA rfl hl.1 rfl (Nat.le_of_ble_eq_true rfl) dX6_page_61 ⟨Nat.le_of_ble_eq_true rfl, Nat.le_of_ble_eq_true rfl⟩ (fun I_148 F_149 H locs hq_147 hP hD hS => ?_)
                try dsimp only at hq_147
                obtain ⟨rfl, rfl⟩ := hq_147
                refine lv_aload_n hx hb dX6_page_64 rfl (lv_at hl 0 rfl) ?_
                refine lv_iload_n hx hb dX6_page_65 rfl (lv_at hl 1 rfl) ?_
                refine mk_calli (As := [.int (iz p0)]) (rest := []) ⟨hx, hb, hml, hown, hts⟩ (k_toldOf l dC dI mo ma cs (va_up I 0 0) (va_up (va_up (va_up (va_up (va_up F 6 (upI (F 6) (20 * p0 + F 10 p0) kd)) 7 (upI (F 7) (20 * p0 + F 10 p0) p2)) 8 (upI (F 8) (20 * p0 + F 10 p0) p2)) 9 (upI (F 9) (20 * p0 + F 10 p0) (vp_nar .boolean (iz 0)).toInt)) 10 (upI (F 10) p0 (F 10 p0 + 1))) p0 H.size (mB_f (mB_f (mB_f (mB_f (mB_f (mB_i hB 0 (by omega) (by omega)) 6 (20 * p0 + F 10 p0) (by omega) (by omega)) 7 (20 * p0 + F 10 p0) (by omega) (by omega)) 8 (20 * p0 + F 10 p0) (by omega) (by omega)) 9 (20 * p0 + F 10 p0) (iz_lo _) (iz_hi _)) 10 p0 (by omega) (by omega)) (by omega)) (cwV 1 hts (kx_gV kq_04_msmall_27 kq_04_msmall_28 kq_04_msmall_29 kq_04_msmall_6 kq_04_msmall_30 rfl) rfl rfl rfl (by decide +kernel) ⟨Nat.le_of_ble_eq_true rfl, Nat.le_of_ble_eq_true rfl⟩) hP hD hK hG hZ hS hA rfl hl.1 rfl (Nat.le_of_ble_eq_true rfl) dX6_page_66 ⟨Nat.le_of_ble_eq_true rfl, Nat.le_of_ble_eq_true rfl⟩ (fun z_150 I_152 F_153 H locs hq_151 hP hD hS => ?_)
                try dsimp only at hq_151
                obtain ⟨rfl, rfl, hq_151⟩ := hq_151
                simp [va_up, upI] at hq_151
                exact mk_ireti hx hb hr hlocks hP hD hK hS dX6_page_69 (Or.inr (Or.inr (Or.inr ⟨rfl, rfl, by omega, by omega, by omega, by omega⟩)))
              · omega
            · skip
              refine lv_iconst (v := iz 1) hx hb dX6_page_42 (by decide) ?_
              refine lv_goto (tgt := 47) hx hb dX6_page_43 (by decide) ?_
              refine mk_calli (As := [.int (iz 0), .int (iz 0), .int (iz 1)]) (rest := []) ⟨hx, hb, hml, hown, hts⟩ (k_refused3 l dC dI mo ma cs I F  H.size ) (cwV 3 hts (kx_gV kq_04_msmall_8 kq_04_msmall_9 kq_04_msmall_10 kq_04_msmall_6 kq_04_msmall_11 rfl) rfl rfl rfl (by decide +kernel) ⟨Nat.le_of_ble_eq_true rfl, Nat.le_of_ble_eq_true rfl⟩) hP hD hK hG hZ hS hA rfl hl.1 rfl (Nat.le_of_ble_eq_true rfl) dX6_page_47 ⟨Nat.le_of_ble_eq_true rfl, Nat.le_of_ble_eq_true rfl⟩ (fun z_154 I_156 F_157 H locs hq_155 hP hD hS => ?_)
              try dsimp only at hq_155
              obtain ⟨rfl, rfl, rfl⟩ := hq_155
              refine ki_if_eq (tgt := 55) hx hb dX6_page_50 (by decide) (by omega) (by omega) (fun c_158 => ?_) (fun c_158 => ?_)
              · omega
              · skip
                refine lv_iconst (v := iz 0) hx hb dX6_page_53 (by decide) ?_
                exact mk_ireti hx hb hr hlocks hP hD hK hS dX6_page_54 (Or.inr (Or.inr (Or.inl ⟨by omega, rfl, rfl, by omega, by omega, by omega⟩)))
      · skip
        refine lv_iconst (v := iz 1) hx hb dX6_page_19 (by decide) ?_
        refine lv_goto (tgt := 24) hx hb dX6_page_20 (by decide) ?_
        refine lv_aload_n hx hb dX6_page_24 rfl (lv_at hl 0 rfl) ?_
        refine lv_iload_n hx hb dX6_page_25 rfl (lv_at hl 1 rfl) ?_
        refine mk_calli (As := [.int (iz p0)]) (rest := [.int (iz 1), .int (iz 0), .ref mo]) ⟨hx, hb, hml, hown, hts⟩ (k_isNone l dC dI mo ma cs I F p0 H.size hB (by omega) (by omega)) (cwV 1 hts (kx_gV kq_04_msmall_3 kq_04_msmall_4 kq_04_msmall_5 kq_04_msmall_6 kq_04_msmall_7 rfl) rfl rfl rfl (by decide +kernel) ⟨Nat.le_of_ble_eq_true rfl, Nat.le_of_ble_eq_true rfl⟩) hP hD hK hG hZ hS hA rfl hl.1 rfl (Nat.le_of_ble_eq_true rfl) dX6_page_26 ⟨Nat.le_of_ble_eq_true rfl, Nat.le_of_ble_eq_true rfl⟩ (fun z_159 I_161 F_162 H locs hq_160 hP hD hS => ?_)
        try dsimp only at hq_160
        obtain ⟨rfl, rfl, hq_160⟩ := hq_160
        rcases hq_160 with ⟨rfl, hq_160⟩ | ⟨rfl, hq_160⟩
        · skip
          refine ki_if_ne (tgt := 46) hx hb dX6_page_29 (by decide) (by omega) (by omega) (fun c_163 => ?_) (fun c_163 => ?_)
          · skip
            refine lv_iconst (v := iz 0) hx hb dX6_page_46 (by decide) ?_
            refine mk_calli (As := [.int (iz 0), .int (iz 1), .int (iz 0)]) (rest := []) ⟨hx, hb, hml, hown, hts⟩ (k_refused2 l dC dI mo ma cs I F 0 H.size (by omega) (by omega)) (cwV 3 hts (kx_gV kq_04_msmall_8 kq_04_msmall_9 kq_04_msmall_10 kq_04_msmall_6 kq_04_msmall_11 rfl) rfl rfl rfl (by decide +kernel) ⟨Nat.le_of_ble_eq_true rfl, Nat.le_of_ble_eq_true rfl⟩) hP hD hK hG hZ hS hA rfl hl.1 rfl (Nat.le_of_ble_eq_true rfl) dX6_page_47 ⟨Nat.le_of_ble_eq_true rfl, Nat.le_of_ble_eq_true rfl⟩ (fun z_164 I_166 F_167 H locs hq_165 hP hD hS => ?_)
            try dsimp only at hq_165
            obtain ⟨rfl, rfl, rfl⟩ := hq_165
            refine ki_if_eq (tgt := 55) hx hb dX6_page_50 (by decide) (by omega) (by omega) (fun c_168 => ?_) (fun c_168 => ?_)
            · omega
            · skip
              refine lv_iconst (v := iz 0) hx hb dX6_page_53 (by decide) ?_
              exact mk_ireti hx hb hr hlocks hP hD hK hS dX6_page_54 (Or.inr (Or.inl ⟨by omega, rfl, rfl, by omega, by omega⟩))
          · omega
        · skip
          refine ki_if_ne (tgt := 46) hx hb dX6_page_29 (by decide) (by omega) (by omega) (fun c_169 => ?_) (fun c_169 => ?_)
          · omega
          · skip
            refine lv_aload_n hx hb dX6_page_32 rfl (lv_at hl 0 rfl) ?_
            refine lv_iload_n hx hb dX6_page_33 rfl (lv_at hl 1 rfl) ?_
            refine mk_calli (As := [.int (iz p0)]) (rest := [.int (iz 1), .int (iz 0), .ref mo]) ⟨hx, hb, hml, hown, hts⟩ (k_toldOf l dC dI mo ma cs I F p0 H.size hB (by omega)) (cwV 1 hts (kx_gV kq_04_msmall_27 kq_04_msmall_28 kq_04_msmall_29 kq_04_msmall_6 kq_04_msmall_30 rfl) rfl rfl rfl (by decide +kernel) ⟨Nat.le_of_ble_eq_true rfl, Nat.le_of_ble_eq_true rfl⟩) hP hD hK hG hZ hS hA rfl hl.1 rfl (Nat.le_of_ble_eq_true rfl) dX6_page_34 ⟨Nat.le_of_ble_eq_true rfl, Nat.le_of_ble_eq_true rfl⟩ (fun z_170 I_172 F_173 H locs hq_171 hP hD hS => ?_)
            try dsimp only at hq_171
            obtain ⟨rfl, rfl, hq_171⟩ := hq_171
            refine lv_bipush (v := iz 20) hx hb dX6_page_37 (by decide) ?_
            refine ki_icmp_ne (tgt := 46) hx hb dX6_page_39 (by decide) (by omega) (by omega) (by omega) (by omega) (fun c_174 => ?_) (fun c_174 => ?_)
            · skip
              refine lv_iconst (v := iz 0) hx hb dX6_page_46 (by decide) ?_
              refine mk_calli (As := [.int (iz 0), .int (iz 1), .int (iz 0)]) (rest := []) ⟨hx, hb, hml, hown, hts⟩ (k_refused2 l dC dI mo ma cs I F 0 H.size (by omega) (by omega)) (cwV 3 hts (kx_gV kq_04_msmall_8 kq_04_msmall_9 kq_04_msmall_10 kq_04_msmall_6 kq_04_msmall_11 rfl) rfl rfl rfl (by decide +kernel) ⟨Nat.le_of_ble_eq_true rfl, Nat.le_of_ble_eq_true rfl⟩) hP hD hK hG hZ hS hA rfl hl.1 rfl (Nat.le_of_ble_eq_true rfl) dX6_page_47 ⟨Nat.le_of_ble_eq_true rfl, Nat.le_of_ble_eq_true rfl⟩ (fun z_175 I_177 F_178 H locs hq_176 hP hD hS => ?_)
              try dsimp only at hq_176
              obtain ⟨rfl, rfl, rfl⟩ := hq_176
              refine ki_if_eq (tgt := 55) hx hb dX6_page_50 (by decide) (by omega) (by omega) (fun c_179 => ?_) (fun c_179 => ?_)
              · omega
              · skip
                refine lv_iconst (v := iz 0) hx hb dX6_page_53 (by decide) ?_
                exact mk_ireti hx hb hr hlocks hP hD hK hS dX6_page_54 (Or.inr (Or.inl ⟨by omega, rfl, rfl, by omega, by omega⟩))
            · skip
              refine lv_iconst (v := iz 1) hx hb dX6_page_42 (by decide) ?_
              refine lv_goto (tgt := 47) hx hb dX6_page_43 (by decide) ?_
              refine mk_calli (As := [.int (iz 0), .int (iz 1), .int (iz 1)]) (rest := []) ⟨hx, hb, hml, hown, hts⟩ (k_refused2 l dC dI mo ma cs I F 1 H.size (by omega) (by omega)) (cwV 3 hts (kx_gV kq_04_msmall_8 kq_04_msmall_9 kq_04_msmall_10 kq_04_msmall_6 kq_04_msmall_11 rfl) rfl rfl rfl (by decide +kernel) ⟨Nat.le_of_ble_eq_true rfl, Nat.le_of_ble_eq_true rfl⟩) hP hD hK hG hZ hS hA rfl hl.1 rfl (Nat.le_of_ble_eq_true rfl) dX6_page_47 ⟨Nat.le_of_ble_eq_true rfl, Nat.le_of_ble_eq_true rfl⟩ (fun z_180 I_182 F_183 H locs hq_181 hP hD hS => ?_)
              try dsimp only at hq_181
              obtain ⟨rfl, rfl, rfl⟩ := hq_181
              refine ki_if_eq (tgt := 55) hx hb dX6_page_50 (by decide) (by omega) (by omega) (fun c_184 => ?_) (fun c_184 => ?_)
              · omega
              · skip
                refine lv_iconst (v := iz 0) hx hb dX6_page_53 (by decide) ?_
                exact mk_ireti hx hb hr hlocks hP hD hK hS dX6_page_54 (Or.inr (Or.inl ⟨by omega, rfl, rfl, by omega, by omega⟩))
