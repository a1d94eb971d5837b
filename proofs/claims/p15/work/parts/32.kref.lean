/-! the reference, exact: units and orders -/

set_option maxHeartbeats 4000000 in
set_option maxRecDepth 100000 in
theorem k_isNumber2 (l : Launch) (dC : Nat → ClassId) (dI : Nat → Nat → Nat) (p0 : Int) (sz : Nat) (hp01 : -2147483648 ≤ p0) (hp02 : p0 < 2147483648) : mMs l yX6_isNumber (.code yX6_isNumber cX6_isNumber 1 (some .boolean)) 0 0 dC dI [.int (iz p0)] sz (fun (r : Int) => (r = 1 ∧ kf_kd p0) ∨ (r = 0 ∧ ¬ kf_kd p0)) := by
  refine Met.ofW (cc := cX6_isNumber) (maxL := 1) (ret := (some .boolean)) (by decide) rfl ?_
  intro p e s m args below meth c s₁ B hml hv
  obtain ⟨rfl, hsz, hP, hK, hD0, hG, hZ⟩ := hv
  have hx := B.exec
  have hb := B.bytes
  have hr := B.returns
  have hts := kx_hts (a := ([.int (iz p0)] : List Value).toArray) hG
  have hown : s.vm.findClass RX6 = some m.cls := findClass_of_methodNamed B.named
  have hlocks := B.notSynchronized
  subst hsz
  have hD := hD0.self (sz := s.heap.size)
  generalize hAe : va_A [] s.heap.size = A at hD hZ ⊢
  have hA : ∀ q : Nat, s.heap.size ≤ q → A q := fun q h => by rw [← hAe]; exact Or.inr h
  have hS : va_S A s.heap s.heap [] := va_S.rf
  have hl := lv_entry ([.int (iz p0)]) (n := 1) (Nat.le_of_ble_eq_true rfl)
  rw [lg_entry_eq]
  generalize (lg_sl ([.int (iz p0)]) ++ List.replicate (1 - (lg_sl ([.int (iz p0)])).length) Slot.unset).toArray = ls at hl ⊢
  have hl : lv_has ls 1 [(0, .int (iz p0))] := hl
  refine lv_iload_n hx hb dX6_isNumber_0 rfl (lv_at hl 0 rfl) ?_
  refine lv_bipush (v := iz 48) hx hb dX6_isNumber_1 (by decide) ?_
  refine ki_icmp_lt (tgt := 16) hx hb dX6_isNumber_3 (by decide) (by omega) (by omega) (by omega) (by omega) (fun c_1 => ?_) (fun c_1 => ?_)
  · skip
    refine lv_iconst (v := iz 0) hx hb dX6_isNumber_16 (by decide) ?_
    exact W.zret (v := iz 0) hx hb hr (mz_bool (by omega)).1 (fun t ht hW => ⟨⟨iz 0, 0, rfl, ⟨rfl, by omega⟩, by rw [ht]; exact hP, va_K.moved hW.alike hK, hD⟩, hS.F ht⟩) hS.2.2 dX6_isNumber_17
  · skip
    refine lv_iload_n hx hb dX6_isNumber_6 rfl (lv_at hl 0 rfl) ?_
    refine lv_bipush (v := iz 57) hx hb dX6_isNumber_7 (by decide) ?_
    refine ki_icmp_gt (tgt := 16) hx hb dX6_isNumber_9 (by decide) (by omega) (by omega) (by omega) (by omega) (fun c_2 => ?_) (fun c_2 => ?_)
    · skip
      refine lv_iconst (v := iz 0) hx hb dX6_isNumber_16 (by decide) ?_
      exact W.zret (v := iz 0) hx hb hr (mz_bool (by omega)).1 (fun t ht hW => ⟨⟨iz 0, 0, rfl, ⟨rfl, by omega⟩, by rw [ht]; exact hP, va_K.moved hW.alike hK, hD⟩, hS.F ht⟩) hS.2.2 dX6_isNumber_17
    · skip
      refine lv_iconst (v := iz 1) hx hb dX6_isNumber_12 (by decide) ?_
      refine lv_goto (tgt := 17) hx hb dX6_isNumber_13 (by decide) ?_
      exact W.zret (v := iz 1) hx hb hr (mz_bool (by omega)).1 (fun t ht hW => ⟨⟨iz 1, 1, rfl, ⟨rfl, by omega⟩, by rw [ht]; exact hP, va_K.moved hW.alike hK, hD⟩, hS.F ht⟩) hS.2.2 dX6_isNumber_17
set_option maxHeartbeats 4000000 in
set_option maxRecDepth 100000 in
theorem k_letterOf2 (l : Launch) (dC : Nat → ClassId) (dI : Nat → Nat → Nat) (p0 : Int) (sz : Nat) (hp01 : -2147483648 ≤ p0) (hp02 : p0 < 2147483648) (hrp0 : 0 ≤ p0 ∧ p0 ≤ 255) : mMs l yX6_letterOf (.code yX6_letterOf cX6_letterOf 2 (some .int)) 0 0 dC dI [.int (iz p0)] sz (fun (r : Int) => r = kf_kl p0) := by
  refine Met.ofW (cc := cX6_letterOf) (maxL := 2) (ret := (some .int)) (by decide) rfl ?_
  intro p e s m args below meth c s₁ B hml hv
  obtain ⟨rfl, hsz, hP, hK, hD0, hG, hZ⟩ := hv
  have hx := B.exec
  have hb := B.bytes
  have hr := B.returns
  have hts := kx_hts (a := ([.int (iz p0)] : List Value).toArray) hG
  have hown : s.vm.findClass RX6 = some m.cls := findClass_of_methodNamed B.named
  have hlocks := B.notSynchronized
  subst hsz
  have hD := hD0.self (sz := s.heap.size)
  generalize hAe : va_A [] s.heap.size = A at hD hZ ⊢
  have hA : ∀ q : Nat, s.heap.size ≤ q → A q := fun q h => by rw [← hAe]; exact Or.inr h
  have hS : va_S A s.heap s.heap [] := va_S.rf
  have hl := lv_entry ([.int (iz p0)]) (n := 2) (Nat.le_of_ble_eq_true rfl)
  rw [lg_entry_eq]
  generalize (lg_sl ([.int (iz p0)]) ++ List.replicate (2 - (lg_sl ([.int (iz p0)])).length) Slot.unset).toArray = ls at hl ⊢
  have hl : lv_has ls 2 [(0, .int (iz p0))] := hl
  have hkl := kf_kl_sp p0
  refine lv_iload_n hx hb dX6_letterOf_0 rfl (lv_at hl 0 rfl) ?_
  refine lv_sipush (v := iz 128) hx hb dX6_letterOf_1 (by decide) ?_
  refine ki_irem hx hb dX6_letterOf_4 (by omega) (by omega) (by omega) (by omega) ?_
  refine lv_istore_n (lv' := [(1, .int (iz (p0 % 128))), (0, .int (iz p0))]) hx hb dX6_letterOf_5 rfl hl (by decide) rfl (fun ls hl => ?_)
  refine lv_iload_n hx hb dX6_letterOf_6 rfl (lv_at hl 0 rfl) ?_
  refine lv_bipush (v := iz 97) hx hb dX6_letterOf_7 (by decide) ?_
  refine ki_icmp_lt (tgt := 22) hx hb dX6_letterOf_9 (by decide) (by omega) (by omega) (by omega) (by omega) (fun c_1 => ?_) (fun c_1 => ?_)
  · skip
    refine lv_iload_n hx hb dX6_letterOf_22 rfl (lv_at hl 0 rfl) ?_
    refine lv_bipush (v := iz 65) hx hb dX6_letterOf_23 (by decide) ?_
    refine ki_icmp_lt (tgt := 41) hx hb dX6_letterOf_25 (by decide) (by omega) (by omega) (by omega) (by omega) (fun c_2 => ?_) (fun c_2 => ?_)
    · skip
      refine lv_iconst (v := iz 0) hx hb dX6_letterOf_41 (by decide) ?_
      exact W.iret (v := iz 0) hx hb hr (fun t ht hW => ⟨⟨iz 0, 0, rfl, ⟨rfl, by omega⟩, by rw [ht]; exact hP, va_K.moved hW.alike hK, hD⟩, hS.F ht⟩) hS.2.2 dX6_letterOf_42
    · skip
      refine lv_iload_n hx hb dX6_letterOf_28 rfl (lv_at hl 0 rfl) ?_
      refine lv_bipush (v := iz 90) hx hb dX6_letterOf_29 (by decide) ?_
      refine ki_icmp_gt (tgt := 41) hx hb dX6_letterOf_31 (by decide) (by omega) (by omega) (by omega) (by omega) (fun c_3 => ?_) (fun c_3 => ?_)
      · skip
        refine lv_iconst (v := iz 0) hx hb dX6_letterOf_41 (by decide) ?_
        exact W.iret (v := iz 0) hx hb hr (fun t ht hW => ⟨⟨iz 0, 0, rfl, ⟨rfl, by omega⟩, by rw [ht]; exact hP, va_K.moved hW.alike hK, hD⟩, hS.F ht⟩) hS.2.2 dX6_letterOf_42
      · skip
        refine lv_iload_n hx hb dX6_letterOf_34 rfl (lv_at hl 0 rfl) ?_
        refine lv_bipush (v := iz 32) hx hb dX6_letterOf_35 (by decide) ?_
        refine ki_iadd hx hb dX6_letterOf_37 ?_
        refine lv_goto (tgt := 42) hx hb dX6_letterOf_38 (by decide) ?_
        exact W.iret (v := iz ((p0 % 128) + 32)) hx hb hr (fun t ht hW => ⟨⟨iz ((p0 % 128) + 32), (p0 % 128) + 32, rfl, ⟨rfl, by omega⟩, by rw [ht]; exact hP, va_K.moved hW.alike hK, hD⟩, hS.F ht⟩) hS.2.2 dX6_letterOf_42
  · skip
    refine lv_iload_n hx hb dX6_letterOf_12 rfl (lv_at hl 0 rfl) ?_
    refine lv_bipush (v := iz 122) hx hb dX6_letterOf_13 (by decide) ?_
    refine ki_icmp_gt (tgt := 22) hx hb dX6_letterOf_15 (by decide) (by omega) (by omega) (by omega) (by omega) (fun c_4 => ?_) (fun c_4 => ?_)
    · skip
      refine lv_iload_n hx hb dX6_letterOf_22 rfl (lv_at hl 0 rfl) ?_
      refine lv_bipush (v := iz 65) hx hb dX6_letterOf_23 (by decide) ?_
      refine ki_icmp_lt (tgt := 41) hx hb dX6_letterOf_25 (by decide) (by omega) (by omega) (by omega) (by omega) (fun c_5 => ?_) (fun c_5 => ?_)
      · skip
        refine lv_iconst (v := iz 0) hx hb dX6_letterOf_41 (by decide) ?_
        exact W.iret (v := iz 0) hx hb hr (fun t ht hW => ⟨⟨iz 0, 0, rfl, ⟨rfl, by omega⟩, by rw [ht]; exact hP, va_K.moved hW.alike hK, hD⟩, hS.F ht⟩) hS.2.2 dX6_letterOf_42
      · skip
        refine lv_iload_n hx hb dX6_letterOf_28 rfl (lv_at hl 0 rfl) ?_
        refine lv_bipush (v := iz 90) hx hb dX6_letterOf_29 (by decide) ?_
        refine ki_icmp_gt (tgt := 41) hx hb dX6_letterOf_31 (by decide) (by omega) (by omega) (by omega) (by omega) (fun c_6 => ?_) (fun c_6 => ?_)
        · skip
          refine lv_iconst (v := iz 0) hx hb dX6_letterOf_41 (by decide) ?_
          exact W.iret (v := iz 0) hx hb hr (fun t ht hW => ⟨⟨iz 0, 0, rfl, ⟨rfl, by omega⟩, by rw [ht]; exact hP, va_K.moved hW.alike hK, hD⟩, hS.F ht⟩) hS.2.2 dX6_letterOf_42
        · skip
          refine lv_iload_n hx hb dX6_letterOf_34 rfl (lv_at hl 0 rfl) ?_
          refine lv_bipush (v := iz 32) hx hb dX6_letterOf_35 (by decide) ?_
          refine ki_iadd hx hb dX6_letterOf_37 ?_
          refine lv_goto (tgt := 42) hx hb dX6_letterOf_38 (by decide) ?_
          exact W.iret (v := iz ((p0 % 128) + 32)) hx hb hr (fun t ht hW => ⟨⟨iz ((p0 % 128) + 32), (p0 % 128) + 32, rfl, ⟨rfl, by omega⟩, by rw [ht]; exact hP, va_K.moved hW.alike hK, hD⟩, hS.F ht⟩) hS.2.2 dX6_letterOf_42
    · skip
      refine lv_iload_n hx hb dX6_letterOf_18 rfl (lv_at hl 0 rfl) ?_
      refine lv_goto (tgt := 42) hx hb dX6_letterOf_19 (by decide) ?_
      exact W.iret (v := iz (p0 % 128)) hx hb hr (fun t ht hW => ⟨⟨iz (p0 % 128), p0 % 128, rfl, ⟨rfl, by omega⟩, by rw [ht]; exact hP, va_K.moved hW.alike hK, hD⟩, hS.F ht⟩) hS.2.2 dX6_letterOf_42
set_option maxHeartbeats 4000000 in
set_option maxRecDepth 100000 in
/-- step: the next unit of an entry, exact -/
theorem k_step2 (l : Launch) (dC : Nat → ClassId) (dI : Nat → Nat → Nat) (mo : Nat) (ma : Nat → Nat) (cs : Nat → ClassId) (I : Nat → Int) (F : Nat → Int → Int) (sd : Int) (p0 : Int) (sz : Nat) (hB : mB I F) (hsd : 0 ≤ sd ∧ sd < 2) (h0 : 0 ≤ p0 ∧ p0 < 80) (hn : ∀ e, 0 ≤ F 5 e ∧ F 5 e ≤ 20) (hpl : 0 ≤ F 20 sd ∧ F 20 sd ≤ F 5 p0) (hsg : kf_mSg F p0) (hdg : I 14 = 0 ∨ I 14 = 1) (hwd : I 15 = 0 ∨ I 15 = 1) (hbg : F 21 sd = 0 ∨ F 21 sd = 1) (hbo : kf_kbo (kf_sg F p0) (F 5 p0) (I 14) (F 20 sd)) : mMv l yX6_step (.code yX6_step cX6_step 7 none) 1 21 dC dI mo ma cs I F [.ref mo, .int (iz sd), .int (iz p0)] sz (fun (I' : Nat → Int) (F' : Nat → Int → Int) => I = I' ∧ mB I F' ∧ mfr [] [20, 21, 22, 23, 24] I F I F' ∧ mo1 sd F F' ∧ (0 ≤ F' 20 sd ∧ F' 20 sd ≤ F 5 p0 ∧ F 20 sd ≤ F' 20 sd) ∧ (F' 22 sd = -1 ∨ F 20 sd < F' 20 sd) ∧ (F' 22 sd = 1 → 0 ≤ F' 23 sd ∧ 0 ≤ F' 24 sd ∧ F' 23 sd + F' 24 sd ≤ 1600) ∧ kf_euk (F' 22 sd) (F' 23 sd) (F' 24 sd) ∧ (F' 21 sd = 0 ∨ F' 21 sd = 1) ∧ (F' 22 sd = -1 → F' 20 sd = F 5 p0) ∧ kf_kbo (kf_sg F p0) (F 5 p0) (I 14) (F' 20 sd) ∧ kf_kI (kf_sg F p0) (F 5 p0) (I 14) (I 15) (F 20 sd) 0 (F 21 sd) = kf_eu (F 4) (F' 22 sd) (F' 23 sd) (F' 24 sd) ++ kf_kI (kf_sg F p0) (F 5 p0) (I 14) (I 15) (F' 20 sd) 0 (F' 21 sd)) := by
  refine Met.ofW (cc := cX6_step) (maxL := 7) (ret := none) (by decide) rfl ?_
  intro p e s m args below meth c s₁ B hml hv
  obtain ⟨rfl, hsz, hP, hK, hD0, hG, hZ⟩ := hv
  have hx := B.exec
  have hb := B.bytes
  have hr := B.returns
  have hts := kx_hts (a := ([.ref mo, .int (iz sd), .int (iz p0)] : List Value).toArray) hG
  have hown : s.vm.findClass RX6 = some m.cls := findClass_of_methodNamed B.named
  have hlocks := B.notSynchronized
  subst hsz
  have hD := hD0.self (sz := s.heap.size)
  generalize hAe : va_A (mW mo ma cs I F) s.heap.size = A at hD hZ ⊢
  have hA : ∀ q : Nat, s.heap.size ≤ q → A q := fun q h => by rw [← hAe]; exact Or.inr h
  have hS : va_S A s.heap s.heap [] := va_S.rf
  have hl := lv_entry ([.ref mo, .int (iz sd), .int (iz p0)]) (n := 7) (Nat.le_of_ble_eq_true rfl)
  rw [lg_entry_eq]
  generalize (lg_sl ([.ref mo, .int (iz sd), .int (iz p0)]) ++ List.replicate (7 - (lg_sl ([.ref mo, .int (iz sd), .int (iz p0)])).length) Slot.unset).toArray = ls at hl ⊢
  have hl : lv_has ls 7 [(0, .ref mo), (1, .int (iz sd)), (2, .int (iz p0))] := hl
  generalize hQe : MQ below (mQv dC dI mo ma cs A (fun (I' : Nat → Int) (F' : Nat → Int → Int) => I = I' ∧ mB I F' ∧ mfr [] [20, 21, 22, 23, 24] I F I F' ∧ mo1 sd F F' ∧ (0 ≤ F' 20 sd ∧ F' 20 sd ≤ F 5 p0 ∧ F 20 sd ≤ F' 20 sd) ∧ (F' 22 sd = -1 ∨ F 20 sd < F' 20 sd) ∧ (F' 22 sd = 1 → 0 ≤ F' 23 sd ∧ 0 ≤ F' 24 sd ∧ F' 23 sd + F' 24 sd ≤ 1600) ∧ kf_euk (F' 22 sd) (F' 23 sd) (F' 24 sd) ∧ (F' 21 sd = 0 ∨ F' 21 sd = 1) ∧ (F' 22 sd = -1 → F' 20 sd = F 5 p0) ∧ kf_kbo (kf_sg F p0) (F 5 p0) (I 14) (F' 20 sd) ∧ kf_kI (kf_sg F p0) (F 5 p0) (I 14) (I 15) (F 20 sd) 0 (F 21 sd) = kf_eu (F 4) (F' 22 sd) (F' 23 sd) (F' 24 sd) ++ kf_kI (kf_sg F p0) (F 5 p0) (I 14) (I 15) (F' 20 sd) 0 (F' 21 sd))) ([.ref mo, .int (iz sd), .int (iz p0)] : List Value).toArray s 0 0 A = QQ
  have hnp := hn p0
  have hsg : ∀ i, 0 ≤ i → i < F 5 p0 → 0 ≤ kf_sg F p0 i ∧ kf_sg F p0 i ≤ 255 := hsg
  have stp : ∀ pa ps : Int, 0 ≤ pa → pa < F 5 p0 → kf_kl (kf_sg F p0 pa) = 0 → ¬ kf_kd (kf_sg F p0 pa) → ((ps = 0 ∧ kf_kI (kf_sg F p0) (F 5 p0) (I 14) (I 15) (F 20 sd) 0 (F 21 sd) = kf_kI (kf_sg F p0) (F 5 p0) (I 14) (I 15) pa 0 (F 21 sd)) ∨ (ps = 1 ∧ I 15 = 1 ∧ F 21 sd = 1 ∧ kf_kI (kf_sg F p0) (F 5 p0) (I 14) (I 15) (F 20 sd) 0 (F 21 sd) = kf_kI (kf_sg F p0) (F 5 p0) (I 14) (I 15) pa 1 (F 21 sd)) ∨ (ps = 1 ∧ ¬ (I 15 = 1 ∧ F 21 sd = 1) ∧ kf_kI (kf_sg F p0) (F 5 p0) (I 14) (I 15) (F 20 sd) 0 (F 21 sd) = kf_kI (kf_sg F p0) (F 5 p0) (I 14) (I 15) pa 0 (F 21 sd))) → (((1 : Int) = 0 ∧ kf_kI (kf_sg F p0) (F 5 p0) (I 14) (I 15) (F 20 sd) 0 (F 21 sd) = kf_kI (kf_sg F p0) (F 5 p0) (I 14) (I 15) (pa + 1) 0 (F 21 sd)) ∨ ((1 : Int) = 1 ∧ I 15 = 1 ∧ F 21 sd = 1 ∧ kf_kI (kf_sg F p0) (F 5 p0) (I 14) (I 15) (F 20 sd) 0 (F 21 sd) = kf_kI (kf_sg F p0) (F 5 p0) (I 14) (I 15) (pa + 1) 1 (F 21 sd)) ∨ ((1 : Int) = 1 ∧ ¬ (I 15 = 1 ∧ F 21 sd = 1) ∧ kf_kI (kf_sg F p0) (F 5 p0) (I 14) (I 15) (F 20 sd) 0 (F 21 sd) = kf_kI (kf_sg F p0) (F 5 p0) (I 14) (I 15) (pa + 1) 0 (F 21 sd))) := by
    intro pa ps h1 h2 h3 h4 h5
    by_cases c : I 15 = 1 ∧ F 21 sd = 1
    · refine Or.inr (Or.inl ⟨rfl, c.1, c.2, ?_⟩)
      rcases h5 with ⟨-, h9⟩ | ⟨-, -, -, h9⟩ | ⟨-, -, h9⟩ <;> rw [h9] <;> exact kf_kI_sep (kf_sg F p0) (F 5 p0) (I 14) (I 15) pa _ (F 21 sd) 1 h2 ⟨h3, h4⟩ (by omega)
    · refine Or.inr (Or.inr ⟨rfl, c, ?_⟩)
      rcases h5 with ⟨-, h9⟩ | ⟨-, h8, h7, h9⟩ | ⟨-, -, h9⟩
      · rw [h9]; exact kf_kI_sep (kf_sg F p0) (F 5 p0) (I 14) (I 15) pa _ (F 21 sd) 0 h2 ⟨h3, h4⟩ (by omega)
      · exact absurd ⟨h8, h7⟩ c
      · rw [h9]; exact kf_kI_sep (kf_sg F p0) (F 5 p0) (I 14) (I 15) pa _ (F 21 sd) 0 h2 ⟨h3, h4⟩ (by omega)
  refine lv_aload_n hx hb dX6_step_0 rfl (lv_at hl 0 rfl) ?_
  refine va_get (D := (dC, dI)) (ci := 6) (v := .ref (ma 20)) (C := RX6) (T := TX6) (N := 44) hx hb hts kt_X6 hown hK hP 0 rfl rfl 20 (by decide) (kx_word hG kq_05_morder_0 rfl) (fun _ h9 => h9) rfl dX6_step_1 ?_
  refine lv_iload_n hx hb dX6_step_4 rfl (lv_at hl 1 rfl) ?_
  refine ki_iald (F := F 20) hx hb hK hP 15 14 rfl rfl (by omega) (by omega) (by decide) dX6_step_5 ?_
  have hbd_1 := hB.2 20 sd
  refine lv_istore_n (lv' := [(3, .int (iz (F 20 sd))), (0, .ref mo), (1, .int (iz sd)), (2, .int (iz p0))]) hx hb dX6_step_6 rfl hl (by decide) rfl (fun ls hl => ?_)
  refine lv_iconst (v := iz 0) hx hb dX6_step_7 (by decide) ?_
  refine lv_istore (lv' := [(4, .int (iz 0)), (3, .int (iz (F 20 sd))), (0, .ref mo), (1, .int (iz sd)), (2, .int (iz p0))]) hx hb dX6_step_8 hl (by decide) rfl (fun ls hl => ?_)
  have lp10 : ∀ (n : Nat) (pa ps : Int), ((F 20 sd ≤ pa ∧ pa ≤ F 5 p0) ∧ ((ps = 0 ∧ pa = F 20 sd) ∨ (ps = 1 ∧ F 20 sd < pa)) ∧ ((ps = 0 ∧ kf_kI (kf_sg F p0) (F 5 p0) (I 14) (I 15) (F 20 sd) 0 (F 21 sd) = kf_kI (kf_sg F p0) (F 5 p0) (I 14) (I 15) pa 0 (F 21 sd)) ∨ (ps = 1 ∧ I 15 = 1 ∧ F 21 sd = 1 ∧ kf_kI (kf_sg F p0) (F 5 p0) (I 14) (I 15) (F 20 sd) 0 (F 21 sd) = kf_kI (kf_sg F p0) (F 5 p0) (I 14) (I 15) pa 1 (F 21 sd)) ∨ (ps = 1 ∧ ¬ (I 15 = 1 ∧ F 21 sd = 1) ∧ kf_kI (kf_sg F p0) (F 5 p0) (I 14) (I 15) (F 20 sd) 0 (F 21 sd) = kf_kI (kf_sg F p0) (F 5 p0) (I 14) (I 15) pa 0 (F 21 sd))) ∧ (ps = 1 → kf_kl (kf_sg F p0 (pa - 1)) = 0 ∧ ¬ kf_kd (kf_sg F p0 (pa - 1)))) → (F 5 p0 - pa).toNat < n → ∀ (H : Heap) (locs : List Loc), va_P (dC, dI) kxCl (mW mo ma cs I F) H → va_D A (mW mo ma cs I F) → va_S A s.heap H locs → ∀ ls : Array Slot, lv_has ls 7 [(4, .int (iz ps)), (3, .int (iz pa)), (0, .ref mo), (1, .int (iz sd)), (2, .int (iz p0))] → W p l e (headSpec [.code yX6_step cX6_step 7 none] ({ frames := 1, cells := 0, slots := 0, locals := 21 })).room s m ([.ref mo, .int (iz sd), .int (iz p0)] : List Value).toArray below meth c H locs 0 0 QQ (F0 m 10 ls []) := by
    intro n
    induction n with
    | zero => intro pa ps hinv hm; exact absurd hm (Nat.not_lt_zero _)
    | succ n ih10 =>
      intro pa ps hinv hm H locs hP hD hS ls hl
      obtain ⟨hpa, hps, hKy, hprev⟩ := hinv
      refine lv_iload_n hx hb dX6_step_10 rfl (lv_at hl 1 rfl) ?_
      refine lv_aload_n hx hb dX6_step_11 rfl (lv_at hl 2 rfl) ?_
      refine va_get (D := (dC, dI)) (ci := 6) (v := .ref (ma 5)) (C := RX6) (T := TX6) (N := 44) hx hb hts kt_X6 hown hK hP 0 rfl rfl 5 (by decide) (kx_word hG kq_04_msmall_15 rfl) (fun _ h9 => h9) rfl dX6_step_12 ?_
      refine lv_iload_n hx hb dX6_step_15 rfl (lv_at hl 4 rfl) ?_
      refine ki_iald (F := F 5) hx hb hK hP 4 3 rfl rfl (by omega) (by omega) (by decide) dX6_step_16 ?_
      have hbd_2 := hB.2 5 p0
      refine ki_icmp_ge (tgt := 63) hx hb dX6_step_17 (by decide) (by omega) (by omega) (by omega) (by omega) (fun c_3 => ?_) (fun c_3 => ?_)
      · skip
        refine lv_aload_n hx hb dX6_step_63 rfl (lv_at hl 2 rfl) ?_
        refine va_get (D := (dC, dI)) (ci := 6) (v := .ref (ma 20)) (C := RX6) (T := TX6) (N := 44) hx hb hts kt_X6 hown hK hP 0 rfl rfl 20 (by decide) (kx_word hG kq_05_morder_0 rfl) (fun _ h9 => h9) rfl dX6_step_64 ?_
        refine lv_iload_n hx hb dX6_step_67 rfl (lv_at hl 3 rfl) ?_
        refine lv_iload_n hx hb dX6_step_68 rfl (lv_at hl 1 rfl) ?_
        refine ki_iast (F := F 20) hx hb hK hP hD hS 15 14 rfl rfl (by omega) (by omega) (by decide) dX6_step_69 (fun H locs hP hD hS => ?_)
        have hP : va_P (dC, dI) kxCl (mW mo ma cs I (va_up F 20 (upI (F 20) sd pa))) H := hP
        have hD : va_D A (mW mo ma cs I (va_up F 20 (upI (F 20) sd pa))) := hD
        refine lv_aload_n hx hb dX6_step_70 rfl (lv_at hl 2 rfl) ?_
        refine va_get (D := (dC, dI)) (ci := 6) (v := .ref (ma 22)) (C := RX6) (T := TX6) (N := 44) hx hb hts kt_X6 hown hK hP 0 rfl rfl 22 (by decide) (kx_word hG kq_05_morder_2 rfl) (fun _ h9 => h9) rfl dX6_step_71 ?_
        refine lv_iload_n hx hb dX6_step_74 rfl (lv_at hl 3 rfl) ?_
        refine lv_iconst (v := iz (-1)) hx hb dX6_step_75 (by decide) ?_
        refine ki_iast (F := F 22) hx hb hK hP hD hS 17 16 rfl rfl (by omega) (by omega) (by decide) dX6_step_76 (fun H locs hP hD hS => ?_)
        have hP : va_P (dC, dI) kxCl (mW mo ma cs I (va_up (va_up F 20 (upI (F 20) sd pa)) 22 (upI (F 22) sd (-1)))) H := hP
        have hD : va_D A (mW mo ma cs I (va_up (va_up F 20 (upI (F 20) sd pa)) 22 (upI (F 22) sd (-1)))) := hD
        refine lv_aload_n hx hb dX6_step_77 rfl (lv_at hl 2 rfl) ?_
        refine va_get (D := (dC, dI)) (ci := 6) (v := .ref (ma 23)) (C := RX6) (T := TX6) (N := 44) hx hb hts kt_X6 hown hK hP 0 rfl rfl 23 (by decide) (kx_word hG kq_05_morder_3 rfl) (fun _ h9 => h9) rfl dX6_step_78 ?_
        refine lv_iload_n hx hb dX6_step_81 rfl (lv_at hl 3 rfl) ?_
        refine lv_iconst (v := iz 0) hx hb dX6_step_82 (by decide) ?_
        refine ki_iast (F := F 23) hx hb hK hP hD hS 18 17 rfl rfl (by omega) (by omega) (by decide) dX6_step_83 (fun H locs hP hD hS => ?_)
        have hP : va_P (dC, dI) kxCl (mW mo ma cs I (va_up (va_up (va_up F 20 (upI (F 20) sd pa)) 22 (upI (F 22) sd (-1))) 23 (upI (F 23) sd 0))) H := hP
        have hD : va_D A (mW mo ma cs I (va_up (va_up (va_up F 20 (upI (F 20) sd pa)) 22 (upI (F 22) sd (-1))) 23 (upI (F 23) sd 0))) := hD
        refine lv_aload_n hx hb dX6_step_84 rfl (lv_at hl 2 rfl) ?_
        refine va_get (D := (dC, dI)) (ci := 6) (v := .ref (ma 24)) (C := RX6) (T := TX6) (N := 44) hx hb hts kt_X6 hown hK hP 0 rfl rfl 24 (by decide) (kx_word hG kq_05_morder_4 rfl) (fun _ h9 => h9) rfl dX6_step_85 ?_
        refine lv_iload_n hx hb dX6_step_88 rfl (lv_at hl 3 rfl) ?_
        refine lv_iconst (v := iz 0) hx hb dX6_step_89 (by decide) ?_
        refine ki_iast (F := F 24) hx hb hK hP hD hS 19 18 rfl rfl (by omega) (by omega) (by decide) dX6_step_90 (fun H locs hP hD hS => ?_)
        have hP : va_P (dC, dI) kxCl (mW mo ma cs I (va_up (va_up (va_up (va_up F 20 (upI (F 20) sd pa)) 22 (upI (F 22) sd (-1))) 23 (upI (F 23) sd 0)) 24 (upI (F 24) sd 0))) H := hP
        have hD : va_D A (mW mo ma cs I (va_up (va_up (va_up (va_up F 20 (upI (F 20) sd pa)) 22 (upI (F 22) sd (-1))) 23 (upI (F 23) sd 0)) 24 (upI (F 24) sd 0))) := hD
        refine lv_iload_n hx hb dX6_step_91 rfl (lv_at hl 1 rfl) ?_
        refine lv_aload_n hx hb dX6_step_92 rfl (lv_at hl 2 rfl) ?_
        refine va_get (D := (dC, dI)) (ci := 6) (v := .ref (ma 5)) (C := RX6) (T := TX6) (N := 44) hx hb hts kt_X6 hown hK hP 0 rfl rfl 5 (by decide) (kx_word hG kq_04_msmall_15 rfl) (fun _ h9 => h9) rfl dX6_step_93 ?_
        refine lv_iload_n hx hb dX6_step_96 rfl (lv_at hl 4 rfl) ?_
        refine ki_iald (F := F 5) hx hb hK hP 4 3 rfl rfl (by omega) (by omega) (by decide) dX6_step_97 ?_
        refine ki_icmp_ne (tgt := 102) hx hb dX6_step_98 (by decide) (by omega) (by omega) (by omega) (by omega) (fun c_4 => ?_) (fun c_4 => ?_)
        · omega
        · skip
          have hend : kf_kI (kf_sg F p0) (F 5 p0) (I 14) (I 15) (F 20 sd) 0 (F 21 sd) = kf_kI (kf_sg F p0) (F 5 p0) (I 14) (I 15) pa 0 (F 21 sd) := by rcases hKy with ⟨-, h9⟩ | ⟨-, -, -, h9⟩ | ⟨-, -, h9⟩ <;> exact h9.trans ((kf_kI_end (kf_sg F p0) (F 5 p0) (I 14) (I 15) pa _ _ (by omega)).trans (kf_kI_end (kf_sg F p0) (F 5 p0) (I 14) (I 15) pa _ _ (by omega)).symm)
          have ev20 : (va_up (va_up (va_up (va_up F 20 (upI (F 20) sd pa)) 22 (upI (F 22) sd (-1))) 23 (upI (F 23) sd 0)) 24 (upI (F 24) sd 0)) 20 sd = pa := upI_self _ _ _
          have ev21 : (va_up (va_up (va_up (va_up F 20 (upI (F 20) sd pa)) 22 (upI (F 22) sd (-1))) 23 (upI (F 23) sd 0)) 24 (upI (F 24) sd 0)) 21 sd = F 21 sd := rfl
          have ev22 : (va_up (va_up (va_up (va_up F 20 (upI (F 20) sd pa)) 22 (upI (F 22) sd (-1))) 23 (upI (F 23) sd 0)) 24 (upI (F 24) sd 0)) 22 sd = (-1) := upI_self _ _ _
          have ev23 : (va_up (va_up (va_up (va_up F 20 (upI (F 20) sd pa)) 22 (upI (F 22) sd (-1))) 23 (upI (F 23) sd 0)) 24 (upI (F 24) sd 0)) 23 sd = 0 := upI_self _ _ _
          have ev24 : (va_up (va_up (va_up (va_up F 20 (upI (F 20) sd pa)) 22 (upI (F 22) sd (-1))) 23 (upI (F 23) sd 0)) 24 (upI (F 24) sd 0)) 24 sd = 0 := upI_self _ _ _
          have ezn0 : (vp_nar .boolean (iz 1)).toInt = 1 := by decide
          have e_5 : (va_up (va_up (va_up (va_up F 20 (upI (F 20) sd pa)) 22 (upI (F 22) sd (-1))) 23 (upI (F 23) sd 0)) 24 (upI (F 24) sd 0)) 20 sd = pa := upI_self _ _ _
          have e_6 : (va_up (va_up (va_up (va_up F 20 (upI (F 20) sd pa)) 22 (upI (F 22) sd (-1))) 23 (upI (F 23) sd 0)) 24 (upI (F 24) sd 0)) 22 sd = (-1) := upI_self _ _ _
          have e_7 : (va_up (va_up (va_up (va_up F 20 (upI (F 20) sd pa)) 22 (upI (F 22) sd (-1))) 23 (upI (F 23) sd 0)) 24 (upI (F 24) sd 0)) 23 sd = 0 := upI_self _ _ _
          have e_8 : (va_up (va_up (va_up (va_up F 20 (upI (F 20) sd pa)) 22 (upI (F 22) sd (-1))) 23 (upI (F 23) sd 0)) 24 (upI (F 24) sd 0)) 24 sd = 0 := upI_self _ _ _
          rw [← hQe]
          exact mk_ret hx hb hr hlocks hP hD hK hS dX6_step_101 (⟨rfl, (mB_f (mB_f (mB_f (mB_f hB 20 sd (by omega) (by omega)) 22 sd (by omega) (by omega)) 23 sd (by omega) (by omega)) 24 sd (by omega) (by omega)), (mfr.upF (mfr.upF (mfr.upF (mfr.upF mfr.rf (by decide) _) (by decide) _) (by decide) _) (by decide) _), (mo1.up (mo1.up (mo1.up (mo1.up mo1.rf 20 _) 22 _) 23 _) 24 _), by omega, by omega, by omega, by rw [ev22, ev23, ev24]; exact Or.inl ⟨rfl, rfl, rfl⟩, by rw [ev21]; exact hbg, by omega, by rw [ev20]; exact Or.inr (by omega), by rw [ev22, ev23, ev24, ev20, ev21, hend]; rfl⟩)
      · skip
        refine lv_aload_n hx hb dX6_step_20 rfl (lv_at hl 2 rfl) ?_
        refine va_get (D := (dC, dI)) (ci := 6) (v := .ref (ma 4)) (C := RX6) (T := TX6) (N := 44) hx hb hts kt_X6 hown hK hP 0 rfl rfl 4 (by decide) (kx_word hG kq_04_msmall_16 rfl) (fun _ h9 => h9) rfl dX6_step_21 ?_
        refine lv_bipush (v := iz 20) hx hb dX6_step_24 (by decide) ?_
        refine lv_iload_n hx hb dX6_step_26 rfl (lv_at hl 4 rfl) ?_
        refine ki_imul hx hb dX6_step_27 ?_
        refine lv_iload_n hx hb dX6_step_28 rfl (lv_at hl 1 rfl) ?_
        refine ki_iadd hx hb dX6_step_29 ?_
        refine ki_iald (F := F 4) hx hb hK hP 3 2 rfl rfl (by omega) (by omega) (by decide) dX6_step_30 ?_
        have hbd_9 := hB.2 4 ((20 * p0) + pa)
        refine ki_is (show iz (F 4 ((20 * p0) + pa)) = iz (kf_sg F p0 pa) from rfl) ?_
        have hsk_10 := hsg pa (by omega) (by omega)
        refine mk_calls (As := [.int (iz (kf_sg F p0 pa))]) (rest := []) ⟨hx, hb, hml, hown, hts⟩ (k_letterOf2 l dC dI (kf_sg F p0 pa) H.size (by omega) (by omega) (hsg pa (by omega) (by omega))) (va_cwS 1 hts (kx_gS kq_05_morder_5 kq_05_morder_6 kq_04_msmall_6 kq_05_morder_7 rfl) rfl rfl rfl (by decide +kernel) ⟨Nat.le_of_ble_eq_true rfl, Nat.le_of_ble_eq_true rfl⟩) hP hD hK hG hZ hS hA rfl hl.1 rfl (Nat.le_of_ble_eq_true rfl) dX6_step_31 ⟨Nat.le_of_ble_eq_true rfl, Nat.le_of_ble_eq_true rfl⟩ (fun z_11 H locs hq_12 hP hS => ?_)
        try dsimp only at hq_12
        subst hq_12
        refine W.eq (g2 := F0 m 34 ls [.int (iz (kf_kl (kf_sg F p0 pa)))]) rfl ?_
        have hklb_13 := kf_kl_bd (kf_sg F p0 pa)
        refine ki_if_ne (tgt := 63) hx hb dX6_step_34 (by decide) (by omega) (by omega) (fun c_14 => ?_) (fun c_14 => ?_)
        · skip
          refine lv_aload_n hx hb dX6_step_63 rfl (lv_at hl 2 rfl) ?_
          refine va_get (D := (dC, dI)) (ci := 6) (v := .ref (ma 20)) (C := RX6) (T := TX6) (N := 44) hx hb hts kt_X6 hown hK hP 0 rfl rfl 20 (by decide) (kx_word hG kq_05_morder_0 rfl) (fun _ h9 => h9) rfl dX6_step_64 ?_
          refine lv_iload_n hx hb dX6_step_67 rfl (lv_at hl 3 rfl) ?_
          refine lv_iload_n hx hb dX6_step_68 rfl (lv_at hl 1 rfl) ?_
          refine ki_iast (F := F 20) hx hb hK hP hD hS 15 14 rfl rfl (by omega) (by omega) (by decide) dX6_step_69 (fun H locs hP hD hS => ?_)
          have hP : va_P (dC, dI) kxCl (mW mo ma cs I (va_up F 20 (upI (F 20) sd pa))) H := hP
          have hD : va_D A (mW mo ma cs I (va_up F 20 (upI (F 20) sd pa))) := hD
          refine lv_aload_n hx hb dX6_step_70 rfl (lv_at hl 2 rfl) ?_
          refine va_get (D := (dC, dI)) (ci := 6) (v := .ref (ma 22)) (C := RX6) (T := TX6) (N := 44) hx hb hts kt_X6 hown hK hP 0 rfl rfl 22 (by decide) (kx_word hG kq_05_morder_2 rfl) (fun _ h9 => h9) rfl dX6_step_71 ?_
          refine lv_iload_n hx hb dX6_step_74 rfl (lv_at hl 3 rfl) ?_
          refine lv_iconst (v := iz (-1)) hx hb dX6_step_75 (by decide) ?_
          refine ki_iast (F := F 22) hx hb hK hP hD hS 17 16 rfl rfl (by omega) (by omega) (by decide) dX6_step_76 (fun H locs hP hD hS => ?_)
          have hP : va_P (dC, dI) kxCl (mW mo ma cs I (va_up (va_up F 20 (upI (F 20) sd pa)) 22 (upI (F 22) sd (-1)))) H := hP
          have hD : va_D A (mW mo ma cs I (va_up (va_up F 20 (upI (F 20) sd pa)) 22 (upI (F 22) sd (-1)))) := hD
          refine lv_aload_n hx hb dX6_step_77 rfl (lv_at hl 2 rfl) ?_
          refine va_get (D := (dC, dI)) (ci := 6) (v := .ref (ma 23)) (C := RX6) (T := TX6) (N := 44) hx hb hts kt_X6 hown hK hP 0 rfl rfl 23 (by decide) (kx_word hG kq_05_morder_3 rfl) (fun _ h9 => h9) rfl dX6_step_78 ?_
          refine lv_iload_n hx hb dX6_step_81 rfl (lv_at hl 3 rfl) ?_
          refine lv_iconst (v := iz 0) hx hb dX6_step_82 (by decide) ?_
          refine ki_iast (F := F 23) hx hb hK hP hD hS 18 17 rfl rfl (by omega) (by omega) (by decide) dX6_step_83 (fun H locs hP hD hS => ?_)
          have hP : va_P (dC, dI) kxCl (mW mo ma cs I (va_up (va_up (va_up F 20 (upI (F 20) sd pa)) 22 (upI (F 22) sd (-1))) 23 (upI (F 23) sd 0))) H := hP
          have hD : va_D A (mW mo ma cs I (va_up (va_up (va_up F 20 (upI (F 20) sd pa)) 22 (upI (F 22) sd (-1))) 23 (upI (F 23) sd 0))) := hD
          refine lv_aload_n hx hb dX6_step_84 rfl (lv_at hl 2 rfl) ?_
          refine va_get (D := (dC, dI)) (ci := 6) (v := .ref (ma 24)) (C := RX6) (T := TX6) (N := 44) hx hb hts kt_X6 hown hK hP 0 rfl rfl 24 (by decide) (kx_word hG kq_05_morder_4 rfl) (fun _ h9 => h9) rfl dX6_step_85 ?_
          refine lv_iload_n hx hb dX6_step_88 rfl (lv_at hl 3 rfl) ?_
          refine lv_iconst (v := iz 0) hx hb dX6_step_89 (by decide) ?_
          refine ki_iast (F := F 24) hx hb hK hP hD hS 19 18 rfl rfl (by omega) (by omega) (by decide) dX6_step_90 (fun H locs hP hD hS => ?_)
          have hP : va_P (dC, dI) kxCl (mW mo ma cs I (va_up (va_up (va_up (va_up F 20 (upI (F 20) sd pa)) 22 (upI (F 22) sd (-1))) 23 (upI (F 23) sd 0)) 24 (upI (F 24) sd 0))) H := hP
          have hD : va_D A (mW mo ma cs I (va_up (va_up (va_up (va_up F 20 (upI (F 20) sd pa)) 22 (upI (F 22) sd (-1))) 23 (upI (F 23) sd 0)) 24 (upI (F 24) sd 0))) := hD
          refine lv_iload_n hx hb dX6_step_91 rfl (lv_at hl 1 rfl) ?_
          refine lv_aload_n hx hb dX6_step_92 rfl (lv_at hl 2 rfl) ?_
          refine va_get (D := (dC, dI)) (ci := 6) (v := .ref (ma 5)) (C := RX6) (T := TX6) (N := 44) hx hb hts kt_X6 hown hK hP 0 rfl rfl 5 (by decide) (kx_word hG kq_04_msmall_15 rfl) (fun _ h9 => h9) rfl dX6_step_93 ?_
          refine lv_iload_n hx hb dX6_step_96 rfl (lv_at hl 4 rfl) ?_
          refine ki_iald (F := F 5) hx hb hK hP 4 3 rfl rfl (by omega) (by omega) (by decide) dX6_step_97 ?_
          refine ki_icmp_ne (tgt := 102) hx hb dX6_step_98 (by decide) (by omega) (by omega) (by omega) (by omega) (fun c_15 => ?_) (fun c_15 => ?_)
          · skip
            refine lv_iload hx hb dX6_step_102 (lv_at hl 0 rfl) ?_
            refine ki_if_eq (tgt := 131) hx hb dX6_step_104 (by decide) (by omega) (by omega) (fun c_16 => ?_) (fun c_16 => ?_)
            · skip
              have hK0 : kf_kI (kf_sg F p0) (F 5 p0) (I 14) (I 15) (F 20 sd) 0 (F 21 sd) = kf_kI (kf_sg F p0) (F 5 p0) (I 14) (I 15) pa 0 (F 21 sd) := by rcases hKy with ⟨-, h9⟩ | ⟨h7, h8, h6, -⟩ | ⟨-, -, h9⟩; exact h9; exact absurd h8 (by omega); exact h9
              have hboP : kf_kbo (kf_sg F p0) (F 5 p0) (I 14) pa := by rcases hps with h9 | h9; rw [h9.2]; exact hbo; exact Or.inr (by have h8 := hprev h9.1; omega)
              refine lv_aload_n hx hb dX6_step_131 rfl (lv_at hl 2 rfl) ?_
              refine va_get (D := (dC, dI)) (ci := 6) (v := .ref (ma 21)) (C := RX6) (T := TX6) (N := 44) hx hb hts kt_X6 hown hK hP 0 rfl rfl 21 (by decide) (kx_word hG kq_05_morder_1 rfl) (fun _ h9 => h9) rfl dX6_step_132 ?_
              refine lv_iload_n hx hb dX6_step_135 rfl (lv_at hl 3 rfl) ?_
              refine lv_iconst (v := iz 1) hx hb dX6_step_136 (by decide) ?_
              refine ki_zast (F := F 21) hx hb hK hP hD hS 16 15 rfl rfl (by omega) (by omega) (by decide) dX6_step_137 (fun H locs hP hD hS => ?_)
              have hP : va_P (dC, dI) kxCl (mW mo ma cs I (va_up (va_up (va_up (va_up (va_up F 20 (upI (F 20) sd pa)) 22 (upI (F 22) sd (-1))) 23 (upI (F 23) sd 0)) 24 (upI (F 24) sd 0)) 21 (upI (F 21) sd (vp_nar .boolean (iz 1)).toInt))) H := hP
              have hD : va_D A (mW mo ma cs I (va_up (va_up (va_up (va_up (va_up F 20 (upI (F 20) sd pa)) 22 (upI (F 22) sd (-1))) 23 (upI (F 23) sd 0)) 24 (upI (F 24) sd 0)) 21 (upI (F 21) sd (vp_nar .boolean (iz 1)).toInt))) := hD
              refine lv_aload_n hx hb dX6_step_138 rfl (lv_at hl 2 rfl) ?_
              refine va_get (D := (dC, dI)) (ci := 6) (v := .ref (ma 4)) (C := RX6) (T := TX6) (N := 44) hx hb hts kt_X6 hown hK hP 0 rfl rfl 4 (by decide) (kx_word hG kq_04_msmall_16 rfl) (fun _ h9 => h9) rfl dX6_step_139 ?_
              refine lv_bipush (v := iz 20) hx hb dX6_step_142 (by decide) ?_
              refine lv_iload_n hx hb dX6_step_144 rfl (lv_at hl 4 rfl) ?_
              refine ki_imul hx hb dX6_step_145 ?_
              refine lv_iload_n hx hb dX6_step_146 rfl (lv_at hl 1 rfl) ?_
              refine ki_iadd hx hb dX6_step_147 ?_
              refine ki_iald (F := F 4) hx hb hK hP 3 2 rfl rfl (by omega) (by omega) (by decide) dX6_step_148 ?_
              refine ki_is (show iz (F 4 ((20 * p0) + pa)) = iz (kf_sg F p0 pa) from rfl) ?_
              have hsk_17 := hsg pa (by omega) (by omega)
              refine lv_istore (lv' := [(5, .int (iz (kf_sg F p0 pa))), (4, .int (iz ps)), (3, .int (iz pa)), (0, .ref mo), (1, .int (iz sd)), (2, .int (iz p0))]) hx hb dX6_step_149 hl (by decide) rfl (fun ls hl => ?_)
              refine lv_iload hx hb dX6_step_151 (lv_at hl 0 rfl) ?_
              refine mk_calls (As := [.int (iz (kf_sg F p0 pa))]) (rest := []) ⟨hx, hb, hml, hown, hts⟩ (k_letterOf2 l dC dI (kf_sg F p0 pa) H.size (by omega) (by omega) (hsg pa (by omega) (by omega))) (va_cwS 1 hts (kx_gS kq_05_morder_5 kq_05_morder_6 kq_04_msmall_6 kq_05_morder_7 rfl) rfl rfl rfl (by decide +kernel) ⟨Nat.le_of_ble_eq_true rfl, Nat.le_of_ble_eq_true rfl⟩) hP hD hK hG hZ hS hA rfl hl.1 rfl (Nat.le_of_ble_eq_true rfl) dX6_step_153 ⟨Nat.le_of_ble_eq_true rfl, Nat.le_of_ble_eq_true rfl⟩ (fun z_18 H locs hq_19 hP hS => ?_)
              try dsimp only at hq_19
              subst hq_19
              refine W.eq (g2 := F0 m 156 ls [.int (iz (kf_kl (kf_sg F p0 pa)))]) rfl ?_
              have hklb_20 := kf_kl_bd (kf_sg F p0 pa)
              refine ki_if_le (tgt := 187) hx hb dX6_step_156 (by decide) (by omega) (by omega) (fun c_21 => ?_) (fun c_21 => ?_)
              · omega
              · skip
                have hlet := hK0.trans (kf_kI_let (kf_sg F p0) (F 5 p0) (I 14) (I 15) pa 0 (F 21 sd) 1 (by omega) (by omega) rfl (by omega))
                refine lv_aload_n hx hb dX6_step_159 rfl (lv_at hl 3 rfl) ?_
                refine va_get (D := (dC, dI)) (ci := 6) (v := .ref (ma 22)) (C := RX6) (T := TX6) (N := 44) hx hb hts kt_X6 hown hK hP 0 rfl rfl 22 (by decide) (kx_word hG kq_05_morder_2 rfl) (fun _ h9 => h9) rfl dX6_step_160 ?_
                refine lv_iload_n hx hb dX6_step_163 rfl (lv_at hl 4 rfl) ?_
                refine lv_iconst (v := iz 2) hx hb dX6_step_164 (by decide) ?_
                refine ki_iast (F := upI (F 22) sd (-1)) hx hb hK hP hD hS 17 16 rfl rfl (by omega) (by omega) (by decide) dX6_step_165 (fun H locs hP hD hS => ?_)
                have hP : va_P (dC, dI) kxCl (mW mo ma cs I (va_up (va_up (va_up (va_up (va_up (va_up F 20 (upI (F 20) sd pa)) 22 (upI (F 22) sd (-1))) 23 (upI (F 23) sd 0)) 24 (upI (F 24) sd 0)) 21 (upI (F 21) sd (vp_nar .boolean (iz 1)).toInt)) 22 (upI (upI (F 22) sd (-1)) sd 2))) H := hP
                have hD : va_D A (mW mo ma cs I (va_up (va_up (va_up (va_up (va_up (va_up F 20 (upI (F 20) sd pa)) 22 (upI (F 22) sd (-1))) 23 (upI (F 23) sd 0)) 24 (upI (F 24) sd 0)) 21 (upI (F 21) sd (vp_nar .boolean (iz 1)).toInt)) 22 (upI (upI (F 22) sd (-1)) sd 2))) := hD
                refine lv_aload_n hx hb dX6_step_166 rfl (lv_at hl 3 rfl) ?_
                refine va_get (D := (dC, dI)) (ci := 6) (v := .ref (ma 23)) (C := RX6) (T := TX6) (N := 44) hx hb hts kt_X6 hown hK hP 0 rfl rfl 23 (by decide) (kx_word hG kq_05_morder_3 rfl) (fun _ h9 => h9) rfl dX6_step_167 ?_
                refine lv_iload_n hx hb dX6_step_170 rfl (lv_at hl 4 rfl) ?_
                refine lv_iload hx hb dX6_step_171 (lv_at hl 0 rfl) ?_
                refine mk_calls (As := [.int (iz (kf_sg F p0 pa))]) (rest := [.int (iz sd), .ref (ma 23)]) ⟨hx, hb, hml, hown, hts⟩ (k_letterOf2 l dC dI (kf_sg F p0 pa) H.size (by omega) (by omega) (hsg pa (by omega) (by omega))) (va_cwS 1 hts (kx_gS kq_05_morder_5 kq_05_morder_6 kq_04_msmall_6 kq_05_morder_7 rfl) rfl rfl rfl (by decide +kernel) ⟨Nat.le_of_ble_eq_true rfl, Nat.le_of_ble_eq_true rfl⟩) hP hD hK hG hZ hS hA rfl hl.1 rfl (Nat.le_of_ble_eq_true rfl) dX6_step_173 ⟨Nat.le_of_ble_eq_true rfl, Nat.le_of_ble_eq_true rfl⟩ (fun z_22 H locs hq_23 hP hS => ?_)
                try dsimp only at hq_23
                subst hq_23
                refine W.eq (g2 := F0 m 176 ls [.int (iz (kf_kl (kf_sg F p0 pa))), .int (iz sd), .ref (ma 23)]) rfl ?_
                have hklb_24 := kf_kl_bd (kf_sg F p0 pa)
                refine ki_iast (F := upI (F 23) sd 0) hx hb hK hP hD hS 18 17 rfl rfl (by omega) (by omega) (by decide) dX6_step_176 (fun H locs hP hD hS => ?_)
                have hP : va_P (dC, dI) kxCl (mW mo ma cs I (va_up (va_up (va_up (va_up (va_up (va_up (va_up F 20 (upI (F 20) sd pa)) 22 (upI (F 22) sd (-1))) 23 (upI (F 23) sd 0)) 24 (upI (F 24) sd 0)) 21 (upI (F 21) sd (vp_nar .boolean (iz 1)).toInt)) 22 (upI (upI (F 22) sd (-1)) sd 2)) 23 (upI (upI (F 23) sd 0) sd (kf_kl (kf_sg F p0 pa))))) H := hP
                have hD : va_D A (mW mo ma cs I (va_up (va_up (va_up (va_up (va_up (va_up (va_up F 20 (upI (F 20) sd pa)) 22 (upI (F 22) sd (-1))) 23 (upI (F 23) sd 0)) 24 (upI (F 24) sd 0)) 21 (upI (F 21) sd (vp_nar .boolean (iz 1)).toInt)) 22 (upI (upI (F 22) sd (-1)) sd 2)) 23 (upI (upI (F 23) sd 0) sd (kf_kl (kf_sg F p0 pa))))) := hD
                refine lv_aload_n hx hb dX6_step_177 rfl (lv_at hl 3 rfl) ?_
                refine va_get (D := (dC, dI)) (ci := 6) (v := .ref (ma 20)) (C := RX6) (T := TX6) (N := 44) hx hb hts kt_X6 hown hK hP 0 rfl rfl 20 (by decide) (kx_word hG kq_05_morder_0 rfl) (fun _ h9 => h9) rfl dX6_step_178 ?_
                refine lv_iload_n hx hb dX6_step_181 rfl (lv_at hl 4 rfl) ?_
                refine lv_iload_n hx hb dX6_step_182 rfl (lv_at hl 2 rfl) ?_
                refine lv_iconst (v := iz 1) hx hb dX6_step_183 (by decide) ?_
                refine ki_iadd hx hb dX6_step_184 ?_
                refine ki_iast (F := upI (F 20) sd pa) hx hb hK hP hD hS 15 14 rfl rfl (by omega) (by omega) (by decide) dX6_step_185 (fun H locs hP hD hS => ?_)
                have hP : va_P (dC, dI) kxCl (mW mo ma cs I (va_up (va_up (va_up (va_up (va_up (va_up (va_up (va_up F 20 (upI (F 20) sd pa)) 22 (upI (F 22) sd (-1))) 23 (upI (F 23) sd 0)) 24 (upI (F 24) sd 0)) 21 (upI (F 21) sd (vp_nar .boolean (iz 1)).toInt)) 22 (upI (upI (F 22) sd (-1)) sd 2)) 23 (upI (upI (F 23) sd 0) sd (kf_kl (kf_sg F p0 pa)))) 20 (upI (upI (F 20) sd pa) sd (pa + 1)))) H := hP
                have hD : va_D A (mW mo ma cs I (va_up (va_up (va_up (va_up (va_up (va_up (va_up (va_up F 20 (upI (F 20) sd pa)) 22 (upI (F 22) sd (-1))) 23 (upI (F 23) sd 0)) 24 (upI (F 24) sd 0)) 21 (upI (F 21) sd (vp_nar .boolean (iz 1)).toInt)) 22 (upI (upI (F 22) sd (-1)) sd 2)) 23 (upI (upI (F 23) sd 0) sd (kf_kl (kf_sg F p0 pa)))) 20 (upI (upI (F 20) sd pa) sd (pa + 1)))) := hD
                have ev20 : (va_up (va_up (va_up (va_up (va_up (va_up (va_up (va_up F 20 (upI (F 20) sd pa)) 22 (upI (F 22) sd (-1))) 23 (upI (F 23) sd 0)) 24 (upI (F 24) sd 0)) 21 (upI (F 21) sd (vp_nar .boolean (iz 1)).toInt)) 22 (upI (upI (F 22) sd (-1)) sd 2)) 23 (upI (upI (F 23) sd 0) sd (kf_kl (kf_sg F p0 pa)))) 20 (upI (upI (F 20) sd pa) sd (pa + 1))) 20 sd = (pa + 1) := upI_self _ _ _
                have ev21 : (va_up (va_up (va_up (va_up (va_up (va_up (va_up (va_up F 20 (upI (F 20) sd pa)) 22 (upI (F 22) sd (-1))) 23 (upI (F 23) sd 0)) 24 (upI (F 24) sd 0)) 21 (upI (F 21) sd (vp_nar .boolean (iz 1)).toInt)) 22 (upI (upI (F 22) sd (-1)) sd 2)) 23 (upI (upI (F 23) sd 0) sd (kf_kl (kf_sg F p0 pa)))) 20 (upI (upI (F 20) sd pa) sd (pa + 1))) 21 sd = (vp_nar .boolean (iz 1)).toInt := upI_self _ _ _
                have ev22 : (va_up (va_up (va_up (va_up (va_up (va_up (va_up (va_up F 20 (upI (F 20) sd pa)) 22 (upI (F 22) sd (-1))) 23 (upI (F 23) sd 0)) 24 (upI (F 24) sd 0)) 21 (upI (F 21) sd (vp_nar .boolean (iz 1)).toInt)) 22 (upI (upI (F 22) sd (-1)) sd 2)) 23 (upI (upI (F 23) sd 0) sd (kf_kl (kf_sg F p0 pa)))) 20 (upI (upI (F 20) sd pa) sd (pa + 1))) 22 sd = 2 := upI_self _ _ _
                have ev23 : (va_up (va_up (va_up (va_up (va_up (va_up (va_up (va_up F 20 (upI (F 20) sd pa)) 22 (upI (F 22) sd (-1))) 23 (upI (F 23) sd 0)) 24 (upI (F 24) sd 0)) 21 (upI (F 21) sd (vp_nar .boolean (iz 1)).toInt)) 22 (upI (upI (F 22) sd (-1)) sd 2)) 23 (upI (upI (F 23) sd 0) sd (kf_kl (kf_sg F p0 pa)))) 20 (upI (upI (F 20) sd pa) sd (pa + 1))) 23 sd = (kf_kl (kf_sg F p0 pa)) := upI_self _ _ _
                have ev24 : (va_up (va_up (va_up (va_up (va_up (va_up (va_up (va_up F 20 (upI (F 20) sd pa)) 22 (upI (F 22) sd (-1))) 23 (upI (F 23) sd 0)) 24 (upI (F 24) sd 0)) 21 (upI (F 21) sd (vp_nar .boolean (iz 1)).toInt)) 22 (upI (upI (F 22) sd (-1)) sd 2)) 23 (upI (upI (F 23) sd 0) sd (kf_kl (kf_sg F p0 pa)))) 20 (upI (upI (F 20) sd pa) sd (pa + 1))) 24 sd = 0 := upI_self _ _ _
                have ezn0 : (vp_nar .boolean (iz 1)).toInt = 1 := by decide
                have e_25 : (va_up (va_up (va_up (va_up (va_up (va_up (va_up (va_up F 20 (upI (F 20) sd pa)) 22 (upI (F 22) sd (-1))) 23 (upI (F 23) sd 0)) 24 (upI (F 24) sd 0)) 21 (upI (F 21) sd (vp_nar .boolean (iz 1)).toInt)) 22 (upI (upI (F 22) sd (-1)) sd 2)) 23 (upI (upI (F 23) sd 0) sd (kf_kl (kf_sg F p0 pa)))) 20 (upI (upI (F 20) sd pa) sd (pa + 1))) 20 sd = pa + 1 := upI_self _ _ _
                have e_26 : (va_up (va_up (va_up (va_up (va_up (va_up (va_up (va_up F 20 (upI (F 20) sd pa)) 22 (upI (F 22) sd (-1))) 23 (upI (F 23) sd 0)) 24 (upI (F 24) sd 0)) 21 (upI (F 21) sd (vp_nar .boolean (iz 1)).toInt)) 22 (upI (upI (F 22) sd (-1)) sd 2)) 23 (upI (upI (F 23) sd 0) sd (kf_kl (kf_sg F p0 pa)))) 20 (upI (upI (F 20) sd pa) sd (pa + 1))) 22 sd = 2 := upI_self _ _ _
                have e_27 : (va_up (va_up (va_up (va_up (va_up (va_up (va_up (va_up F 20 (upI (F 20) sd pa)) 22 (upI (F 22) sd (-1))) 23 (upI (F 23) sd 0)) 24 (upI (F 24) sd 0)) 21 (upI (F 21) sd (vp_nar .boolean (iz 1)).toInt)) 22 (upI (upI (F 22) sd (-1)) sd 2)) 23 (upI (upI (F 23) sd 0) sd (kf_kl (kf_sg F p0 pa)))) 20 (upI (upI (F 20) sd pa) sd (pa + 1))) 23 sd = kf_kl (kf_sg F p0 pa) := upI_self _ _ _
                have e_28 : (va_up (va_up (va_up (va_up (va_up (va_up (va_up (va_up F 20 (upI (F 20) sd pa)) 22 (upI (F 22) sd (-1))) 23 (upI (F 23) sd 0)) 24 (upI (F 24) sd 0)) 21 (upI (F 21) sd (vp_nar .boolean (iz 1)).toInt)) 22 (upI (upI (F 22) sd (-1)) sd 2)) 23 (upI (upI (F 23) sd 0) sd (kf_kl (kf_sg F p0 pa)))) 20 (upI (upI (F 20) sd pa) sd (pa + 1))) 24 sd = 0 := upI_self _ _ _
                have e_29 : (va_up (va_up (va_up (va_up (va_up (va_up (va_up (va_up F 20 (upI (F 20) sd pa)) 22 (upI (F 22) sd (-1))) 23 (upI (F 23) sd 0)) 24 (upI (F 24) sd 0)) 21 (upI (F 21) sd (vp_nar .boolean (iz 1)).toInt)) 22 (upI (upI (F 22) sd (-1)) sd 2)) 23 (upI (upI (F 23) sd 0) sd (kf_kl (kf_sg F p0 pa)))) 20 (upI (upI (F 20) sd pa) sd (pa + 1))) 21 sd = (vp_nar .boolean (iz 1)).toInt := upI_self _ _ _
                rw [← hQe]
                exact mk_ret hx hb hr hlocks hP hD hK hS dX6_step_186 (⟨rfl, (mB_f (mB_f (mB_f (mB_f (mB_f (mB_f (mB_f (mB_f hB 20 sd (by omega) (by omega)) 22 sd (by omega) (by omega)) 23 sd (by omega) (by omega)) 24 sd (by omega) (by omega)) 21 sd (iz_lo _) (iz_hi _)) 22 sd (by omega) (by omega)) 23 sd (by omega) (by omega)) 20 sd (by omega) (by omega)), (mfr.upF (mfr.upF (mfr.upF (mfr.upF (mfr.upF (mfr.upF (mfr.upF (mfr.upF mfr.rf (by decide) _) (by decide) _) (by decide) _) (by decide) _) (by decide) _) (by decide) _) (by decide) _) (by decide) _), (mo1.up (mo1.up (mo1.up (mo1.up (mo1.up (mo1.up (mo1.up (mo1.up mo1.rf 20 _) 22 _) 23 _) 24 _) 21 _) 22 _) 23 _) 20 _), by omega, by omega, by omega, by rw [ev22, ev23, ev24]; exact Or.inr (Or.inr (Or.inr ⟨rfl, by omega, by omega⟩)), by rw [ev21]; exact Or.inr ezn0, by omega, by rw [ev20]; exact Or.inr (fun h9 => by have h8 := h9.2.2.2; rw [show pa + 1 - 1 = pa by omega] at h8; exact absurd (kf_kl_kd h8) (by omega)), by rw [ev22, ev23, ev24, ev20, ev21, ezn0, hlet]; rfl⟩)
            · skip
              refine lv_aload_n hx hb dX6_step_107 rfl (lv_at hl 2 rfl) ?_
              refine va_get (D := (dC, dI)) (ci := 6) (v := .int (iz (I 15))) (C := RX6) (T := TX6) (N := 44) hx hb hts kt_X6 hown hK hP 0 rfl rfl 15 (by decide) (kx_word hG kq_04_msmall_18 rfl) (fun _ h9 => h9) rfl dX6_step_108 ?_
              have hbd_30 := hB.1 15
              refine ki_if_eq (tgt := 131) hx hb dX6_step_111 (by decide) (by omega) (by omega) (fun c_31 => ?_) (fun c_31 => ?_)
              · skip
                have hK0 : kf_kI (kf_sg F p0) (F 5 p0) (I 14) (I 15) (F 20 sd) 0 (F 21 sd) = kf_kI (kf_sg F p0) (F 5 p0) (I 14) (I 15) pa 0 (F 21 sd) := by rcases hKy with ⟨-, h9⟩ | ⟨h7, h8, h6, -⟩ | ⟨-, -, h9⟩; exact h9; exact absurd h8 (by omega); exact h9
                have hboP : kf_kbo (kf_sg F p0) (F 5 p0) (I 14) pa := by rcases hps with h9 | h9; rw [h9.2]; exact hbo; exact Or.inr (by have h8 := hprev h9.1; omega)
                refine lv_aload_n hx hb dX6_step_131 rfl (lv_at hl 2 rfl) ?_
                refine va_get (D := (dC, dI)) (ci := 6) (v := .ref (ma 21)) (C := RX6) (T := TX6) (N := 44) hx hb hts kt_X6 hown hK hP 0 rfl rfl 21 (by decide) (kx_word hG kq_05_morder_1 rfl) (fun _ h9 => h9) rfl dX6_step_132 ?_
                refine lv_iload_n hx hb dX6_step_135 rfl (lv_at hl 3 rfl) ?_
                refine lv_iconst (v := iz 1) hx hb dX6_step_136 (by decide) ?_
                refine ki_zast (F := F 21) hx hb hK hP hD hS 16 15 rfl rfl (by omega) (by omega) (by decide) dX6_step_137 (fun H locs hP hD hS => ?_)
                have hP : va_P (dC, dI) kxCl (mW mo ma cs I (va_up (va_up (va_up (va_up (va_up F 20 (upI (F 20) sd pa)) 22 (upI (F 22) sd (-1))) 23 (upI (F 23) sd 0)) 24 (upI (F 24) sd 0)) 21 (upI (F 21) sd (vp_nar .boolean (iz 1)).toInt))) H := hP
                have hD : va_D A (mW mo ma cs I (va_up (va_up (va_up (va_up (va_up F 20 (upI (F 20) sd pa)) 22 (upI (F 22) sd (-1))) 23 (upI (F 23) sd 0)) 24 (upI (F 24) sd 0)) 21 (upI (F 21) sd (vp_nar .boolean (iz 1)).toInt))) := hD
                refine lv_aload_n hx hb dX6_step_138 rfl (lv_at hl 2 rfl) ?_
                refine va_get (D := (dC, dI)) (ci := 6) (v := .ref (ma 4)) (C := RX6) (T := TX6) (N := 44) hx hb hts kt_X6 hown hK hP 0 rfl rfl 4 (by decide) (kx_word hG kq_04_msmall_16 rfl) (fun _ h9 => h9) rfl dX6_step_139 ?_
                refine lv_bipush (v := iz 20) hx hb dX6_step_142 (by decide) ?_
                refine lv_iload_n hx hb dX6_step_144 rfl (lv_at hl 4 rfl) ?_
                refine ki_imul hx hb dX6_step_145 ?_
                refine lv_iload_n hx hb dX6_step_146 rfl (lv_at hl 1 rfl) ?_
                refine ki_iadd hx hb dX6_step_147 ?_
                refine ki_iald (F := F 4) hx hb hK hP 3 2 rfl rfl (by omega) (by omega) (by decide) dX6_step_148 ?_
                refine ki_is (show iz (F 4 ((20 * p0) + pa)) = iz (kf_sg F p0 pa) from rfl) ?_
                have hsk_32 := hsg pa (by omega) (by omega)
                refine lv_istore (lv' := [(5, .int (iz (kf_sg F p0 pa))), (4, .int (iz ps)), (3, .int (iz pa)), (0, .ref mo), (1, .int (iz sd)), (2, .int (iz p0))]) hx hb dX6_step_149 hl (by decide) rfl (fun ls hl => ?_)
                refine lv_iload hx hb dX6_step_151 (lv_at hl 0 rfl) ?_
                refine mk_calls (As := [.int (iz (kf_sg F p0 pa))]) (rest := []) ⟨hx, hb, hml, hown, hts⟩ (k_letterOf2 l dC dI (kf_sg F p0 pa) H.size (by omega) (by omega) (hsg pa (by omega) (by omega))) (va_cwS 1 hts (kx_gS kq_05_morder_5 kq_05_morder_6 kq_04_msmall_6 kq_05_morder_7 rfl) rfl rfl rfl (by decide +kernel) ⟨Nat.le_of_ble_eq_true rfl, Nat.le_of_ble_eq_true rfl⟩) hP hD hK hG hZ hS hA rfl hl.1 rfl (Nat.le_of_ble_eq_true rfl) dX6_step_153 ⟨Nat.le_of_ble_eq_true rfl, Nat.le_of_ble_eq_true rfl⟩ (fun z_33 H locs hq_34 hP hS => ?_)
                try dsimp only at hq_34
                subst hq_34
                refine W.eq (g2 := F0 m 156 ls [.int (iz (kf_kl (kf_sg F p0 pa)))]) rfl ?_
                have hklb_35 := kf_kl_bd (kf_sg F p0 pa)
                refine ki_if_le (tgt := 187) hx hb dX6_step_156 (by decide) (by omega) (by omega) (fun c_36 => ?_) (fun c_36 => ?_)
                · omega
                · skip
                  have hlet := hK0.trans (kf_kI_let (kf_sg F p0) (F 5 p0) (I 14) (I 15) pa 0 (F 21 sd) 1 (by omega) (by omega) rfl (by omega))
                  refine lv_aload_n hx hb dX6_step_159 rfl (lv_at hl 3 rfl) ?_
                  refine va_get (D := (dC, dI)) (ci := 6) (v := .ref (ma 22)) (C := RX6) (T := TX6) (N := 44) hx hb hts kt_X6 hown hK hP 0 rfl rfl 22 (by decide) (kx_word hG kq_05_morder_2 rfl) (fun _ h9 => h9) rfl dX6_step_160 ?_
                  refine lv_iload_n hx hb dX6_step_163 rfl (lv_at hl 4 rfl) ?_
                  refine lv_iconst (v := iz 2) hx hb dX6_step_164 (by decide) ?_
                  refine ki_iast (F := upI (F 22) sd (-1)) hx hb hK hP hD hS 17 16 rfl rfl (by omega) (by omega) (by decide) dX6_step_165 (fun H locs hP hD hS => ?_)
                  have hP : va_P (dC, dI) kxCl (mW mo ma cs I (va_up (va_up (va_up (va_up (va_up (va_up F 20 (upI (F 20) sd pa)) 22 (upI (F 22) sd (-1))) 23 (upI (F 23) sd 0)) 24 (upI (F 24) sd 0)) 21 (upI (F 21) sd (vp_nar .boolean (iz 1)).toInt)) 22 (upI (upI (F 22) sd (-1)) sd 2))) H := hP
                  have hD : va_D A (mW mo ma cs I (va_up (va_up (va_up (va_up (va_up (va_up F 20 (upI (F 20) sd pa)) 22 (upI (F 22) sd (-1))) 23 (upI (F 23) sd 0)) 24 (upI (F 24) sd 0)) 21 (upI (F 21) sd (vp_nar .boolean (iz 1)).toInt)) 22 (upI (upI (F 22) sd (-1)) sd 2))) := hD
                  refine lv_aload_n hx hb dX6_step_166 rfl (lv_at hl 3 rfl) ?_
                  refine va_get (D := (dC, dI)) (ci := 6) (v := .ref (ma 23)) (C := RX6) (T := TX6) (N := 44) hx hb hts kt_X6 hown hK hP 0 rfl rfl 23 (by decide) (kx_word hG kq_05_morder_3 rfl) (fun _ h9 => h9) rfl dX6_step_167 ?_
                  refine lv_iload_n hx hb dX6_step_170 rfl (lv_at hl 4 rfl) ?_
                  refine lv_iload hx hb dX6_step_171 (lv_at hl 0 rfl) ?_
                  refine mk_calls (As := [.int (iz (kf_sg F p0 pa))]) (rest := [.int (iz sd), .ref (ma 23)]) ⟨hx, hb, hml, hown, hts⟩ (k_letterOf2 l dC dI (kf_sg F p0 pa) H.size (by omega) (by omega) (hsg pa (by omega) (by omega))) (va_cwS 1 hts (kx_gS kq_05_morder_5 kq_05_morder_6 kq_04_msmall_6 kq_05_morder_7 rfl) rfl rfl rfl (by decide +kernel) ⟨Nat.le_of_ble_eq_true rfl, Nat.le_of_ble_eq_true rfl⟩) hP hD hK hG hZ hS hA rfl hl.1 rfl (Nat.le_of_ble_eq_true rfl) dX6_step_173 ⟨Nat.le_of_ble_eq_true rfl, Nat.le_of_ble_eq_true rfl⟩ (fun z_37 H locs hq_38 hP hS => ?_)
                  try dsimp only at hq_38
                  subst hq_38
                  refine W.eq (g2 := F0 m 176 ls [.int (iz (kf_kl (kf_sg F p0 pa))), .int (iz sd), .ref (ma 23)]) rfl ?_
                  have hklb_39 := kf_kl_bd (kf_sg F p0 pa)
                  refine ki_iast (F := upI (F 23) sd 0) hx hb hK hP hD hS 18 17 rfl rfl (by omega) (by omega) (by decide) dX6_step_176 (fun H locs hP hD hS => ?_)
                  have hP : va_P (dC, dI) kxCl (mW mo ma cs I (va_up (va_up (va_up (va_up (va_up (va_up (va_up F 20 (upI (F 20) sd pa)) 22 (upI (F 22) sd (-1))) 23 (upI (F 23) sd 0)) 24 (upI (F 24) sd 0)) 21 (upI (F 21) sd (vp_nar .boolean (iz 1)).toInt)) 22 (upI (upI (F 22) sd (-1)) sd 2)) 23 (upI (upI (F 23) sd 0) sd (kf_kl (kf_sg F p0 pa))))) H := hP
                  have hD : va_D A (mW mo ma cs I (va_up (va_up (va_up (va_up (va_up (va_up (va_up F 20 (upI (F 20) sd pa)) 22 (upI (F 22) sd (-1))) 23 (upI (F 23) sd 0)) 24 (upI (F 24) sd 0)) 21 (upI (F 21) sd (vp_nar .boolean (iz 1)).toInt)) 22 (upI (upI (F 22) sd (-1)) sd 2)) 23 (upI (upI (F 23) sd 0) sd (kf_kl (kf_sg F p0 pa))))) := hD
                  refine lv_aload_n hx hb dX6_step_177 rfl (lv_at hl 3 rfl) ?_
                  refine va_get (D := (dC, dI)) (ci := 6) (v := .ref (ma 20)) (C := RX6) (T := TX6) (N := 44) hx hb hts kt_X6 hown hK hP 0 rfl rfl 20 (by decide) (kx_word hG kq_05_morder_0 rfl) (fun _ h9 => h9) rfl dX6_step_178 ?_
                  refine lv_iload_n hx hb dX6_step_181 rfl (lv_at hl 4 rfl) ?_
                  refine lv_iload_n hx hb dX6_step_182 rfl (lv_at hl 2 rfl) ?_
                  refine lv_iconst (v := iz 1) hx hb dX6_step_183 (by decide) ?_
                  refine ki_iadd hx hb dX6_step_184 ?_
                  refine ki_iast (F := upI (F 20) sd pa) hx hb hK hP hD hS 15 14 rfl rfl (by omega) (by omega) (by decide) dX6_step_185 (fun H locs hP hD hS => ?_)
                  have hP : va_P (dC, dI) kxCl (mW mo ma cs I (va_up (va_up (va_up (va_up (va_up (va_up (va_up (va_up F 20 (upI (F 20) sd pa)) 22 (upI (F 22) sd (-1))) 23 (upI (F 23) sd 0)) 24 (upI (F 24) sd 0)) 21 (upI (F 21) sd (vp_nar .boolean (iz 1)).toInt)) 22 (upI (upI (F 22) sd (-1)) sd 2)) 23 (upI (upI (F 23) sd 0) sd (kf_kl (kf_sg F p0 pa)))) 20 (upI (upI (F 20) sd pa) sd (pa + 1)))) H := hP
                  have hD : va_D A (mW mo ma cs I (va_up (va_up (va_up (va_up (va_up (va_up (va_up (va_up F 20 (upI (F 20) sd pa)) 22 (upI (F 22) sd (-1))) 23 (upI (F 23) sd 0)) 24 (upI (F 24) sd 0)) 21 (upI (F 21) sd (vp_nar .boolean (iz 1)).toInt)) 22 (upI (upI (F 22) sd (-1)) sd 2)) 23 (upI (upI (F 23) sd 0) sd (kf_kl (kf_sg F p0 pa)))) 20 (upI (upI (F 20) sd pa) sd (pa + 1)))) := hD
                  have ev20 : (va_up (va_up (va_up (va_up (va_up (va_up (va_up (va_up F 20 (upI (F 20) sd pa)) 22 (upI (F 22) sd (-1))) 23 (upI (F 23) sd 0)) 24 (upI (F 24) sd 0)) 21 (upI (F 21) sd (vp_nar .boolean (iz 1)).toInt)) 22 (upI (upI (F 22) sd (-1)) sd 2)) 23 (upI (upI (F 23) sd 0) sd (kf_kl (kf_sg F p0 pa)))) 20 (upI (upI (F 20) sd pa) sd (pa + 1))) 20 sd = (pa + 1) := upI_self _ _ _
                  have ev21 : (va_up (va_up (va_up (va_up (va_up (va_up (va_up (va_up F 20 (upI (F 20) sd pa)) 22 (upI (F 22) sd (-1))) 23 (upI (F 23) sd 0)) 24 (upI (F 24) sd 0)) 21 (upI (F 21) sd (vp_nar .boolean (iz 1)).toInt)) 22 (upI (upI (F 22) sd (-1)) sd 2)) 23 (upI (upI (F 23) sd 0) sd (kf_kl (kf_sg F p0 pa)))) 20 (upI (upI (F 20) sd pa) sd (pa + 1))) 21 sd = (vp_nar .boolean (iz 1)).toInt := upI_self _ _ _
                  have ev22 : (va_up (va_up (va_up (va_up (va_up (va_up (va_up (va_up F 20 (upI (F 20) sd pa)) 22 (upI (F 22) sd (-1))) 23 (upI (F 23) sd 0)) 24 (upI (F 24) sd 0)) 21 (upI (F 21) sd (vp_nar .boolean (iz 1)).toInt)) 22 (upI (upI (F 22) sd (-1)) sd 2)) 23 (upI (upI (F 23) sd 0) sd (kf_kl (kf_sg F p0 pa)))) 20 (upI (upI (F 20) sd pa) sd (pa + 1))) 22 sd = 2 := upI_self _ _ _
                  have ev23 : (va_up (va_up (va_up (va_up (va_up (va_up (va_up (va_up F 20 (upI (F 20) sd pa)) 22 (upI (F 22) sd (-1))) 23 (upI (F 23) sd 0)) 24 (upI (F 24) sd 0)) 21 (upI (F 21) sd (vp_nar .boolean (iz 1)).toInt)) 22 (upI (upI (F 22) sd (-1)) sd 2)) 23 (upI (upI (F 23) sd 0) sd (kf_kl (kf_sg F p0 pa)))) 20 (upI (upI (F 20) sd pa) sd (pa + 1))) 23 sd = (kf_kl (kf_sg F p0 pa)) := upI_self _ _ _
                  have ev24 : (va_up (va_up (va_up (va_up (va_up (va_up (va_up (va_up F 20 (upI (F 20) sd pa)) 22 (upI (F 22) sd (-1))) 23 (upI (F 23) sd 0)) 24 (upI (F 24) sd 0)) 21 (upI (F 21) sd (vp_nar .boolean (iz 1)).toInt)) 22 (upI (upI (F 22) sd (-1)) sd 2)) 23 (upI (upI (F 23) sd 0) sd (kf_kl (kf_sg F p0 pa)))) 20 (upI (upI (F 20) sd pa) sd (pa + 1))) 24 sd = 0 := upI_self _ _ _
                  have ezn0 : (vp_nar .boolean (iz 1)).toInt = 1 := by decide
                  have e_40 : (va_up (va_up (va_up (va_up (va_up (va_up (va_up (va_up F 20 (upI (F 20) sd pa)) 22 (upI (F 22) sd (-1))) 23 (upI (F 23) sd 0)) 24 (upI (F 24) sd 0)) 21 (upI (F 21) sd (vp_nar .boolean (iz 1)).toInt)) 22 (upI (upI (F 22) sd (-1)) sd 2)) 23 (upI (upI (F 23) sd 0) sd (kf_kl (kf_sg F p0 pa)))) 20 (upI (upI (F 20) sd pa) sd (pa + 1))) 20 sd = pa + 1 := upI_self _ _ _
                  have e_41 : (va_up (va_up (va_up (va_up (va_up (va_up (va_up (va_up F 20 (upI (F 20) sd pa)) 22 (upI (F 22) sd (-1))) 23 (upI (F 23) sd 0)) 24 (upI (F 24) sd 0)) 21 (upI (F 21) sd (vp_nar .boolean (iz 1)).toInt)) 22 (upI (upI (F 22) sd (-1)) sd 2)) 23 (upI (upI (F 23) sd 0) sd (kf_kl (kf_sg F p0 pa)))) 20 (upI (upI (F 20) sd pa) sd (pa + 1))) 22 sd = 2 := upI_self _ _ _
                  have e_42 : (va_up (va_up (va_up (va_up (va_up (va_up (va_up (va_up F 20 (upI (F 20) sd pa)) 22 (upI (F 22) sd (-1))) 23 (upI (F 23) sd 0)) 24 (upI (F 24) sd 0)) 21 (upI (F 21) sd (vp_nar .boolean (iz 1)).toInt)) 22 (upI (upI (F 22) sd (-1)) sd 2)) 23 (upI (upI (F 23) sd 0) sd (kf_kl (kf_sg F p0 pa)))) 20 (upI (upI (F 20) sd pa) sd (pa + 1))) 23 sd = kf_kl (kf_sg F p0 pa) := upI_self _ _ _
                  have e_43 : (va_up (va_up (va_up (va_up (va_up (va_up (va_up (va_up F 20 (upI (F 20) sd pa)) 22 (upI (F 22) sd (-1))) 23 (upI (F 23) sd 0)) 24 (upI (F 24) sd 0)) 21 (upI (F 21) sd (vp_nar .boolean (iz 1)).toInt)) 22 (upI (upI (F 22) sd (-1)) sd 2)) 23 (upI (upI (F 23) sd 0) sd (kf_kl (kf_sg F p0 pa)))) 20 (upI (upI (F 20) sd pa) sd (pa + 1))) 24 sd = 0 := upI_self _ _ _
                  have e_44 : (va_up (va_up (va_up (va_up (va_up (va_up (va_up (va_up F 20 (upI (F 20) sd pa)) 22 (upI (F 22) sd (-1))) 23 (upI (F 23) sd 0)) 24 (upI (F 24) sd 0)) 21 (upI (F 21) sd (vp_nar .boolean (iz 1)).toInt)) 22 (upI (upI (F 22) sd (-1)) sd 2)) 23 (upI (upI (F 23) sd 0) sd (kf_kl (kf_sg F p0 pa)))) 20 (upI (upI (F 20) sd pa) sd (pa + 1))) 21 sd = (vp_nar .boolean (iz 1)).toInt := upI_self _ _ _
                  rw [← hQe]
                  exact mk_ret hx hb hr hlocks hP hD hK hS dX6_step_186 (⟨rfl, (mB_f (mB_f (mB_f (mB_f (mB_f (mB_f (mB_f (mB_f hB 20 sd (by omega) (by omega)) 22 sd (by omega) (by omega)) 23 sd (by omega) (by omega)) 24 sd (by omega) (by omega)) 21 sd (iz_lo _) (iz_hi _)) 22 sd (by omega) (by omega)) 23 sd (by omega) (by omega)) 20 sd (by omega) (by omega)), (mfr.upF (mfr.upF (mfr.upF (mfr.upF (mfr.upF (mfr.upF (mfr.upF (mfr.upF mfr.rf (by decide) _) (by decide) _) (by decide) _) (by decide) _) (by decide) _) (by decide) _) (by decide) _) (by decide) _), (mo1.up (mo1.up (mo1.up (mo1.up (mo1.up (mo1.up (mo1.up (mo1.up mo1.rf 20 _) 22 _) 23 _) 24 _) 21 _) 22 _) 23 _) 20 _), by omega, by omega, by omega, by rw [ev22, ev23, ev24]; exact Or.inr (Or.inr (Or.inr ⟨rfl, by omega, by omega⟩)), by rw [ev21]; exact Or.inr ezn0, by omega, by rw [ev20]; exact Or.inr (fun h9 => by have h8 := h9.2.2.2; rw [show pa + 1 - 1 = pa by omega] at h8; exact absurd (kf_kl_kd h8) (by omega)), by rw [ev22, ev23, ev24, ev20, ev21, ezn0, hlet]; rfl⟩)
              · skip
                refine lv_aload_n hx hb dX6_step_114 rfl (lv_at hl 2 rfl) ?_
                refine va_get (D := (dC, dI)) (ci := 6) (v := .ref (ma 21)) (C := RX6) (T := TX6) (N := 44) hx hb hts kt_X6 hown hK hP 0 rfl rfl 21 (by decide) (kx_word hG kq_05_morder_1 rfl) (fun _ h9 => h9) rfl dX6_step_115 ?_
                refine lv_iload_n hx hb dX6_step_118 rfl (lv_at hl 3 rfl) ?_
                refine ki_zald (F := F 21) hx hb hK hP 16 15 rfl rfl (by omega) (by omega) (by decide) dX6_step_119 ?_
                have hbd_45 := hB.2 21 sd
                refine ki_if_eq (tgt := 131) hx hb dX6_step_120 (by decide) (by omega) (by omega) (fun c_46 => ?_) (fun c_46 => ?_)
                · skip
                  have hK0 : kf_kI (kf_sg F p0) (F 5 p0) (I 14) (I 15) (F 20 sd) 0 (F 21 sd) = kf_kI (kf_sg F p0) (F 5 p0) (I 14) (I 15) pa 0 (F 21 sd) := by rcases hKy with ⟨-, h9⟩ | ⟨h7, h8, h6, -⟩ | ⟨-, -, h9⟩; exact h9; exact absurd h8 (by omega); exact h9
                  have hboP : kf_kbo (kf_sg F p0) (F 5 p0) (I 14) pa := by rcases hps with h9 | h9; rw [h9.2]; exact hbo; exact Or.inr (by have h8 := hprev h9.1; omega)
                  refine lv_aload_n hx hb dX6_step_131 rfl (lv_at hl 2 rfl) ?_
                  refine va_get (D := (dC, dI)) (ci := 6) (v := .ref (ma 21)) (C := RX6) (T := TX6) (N := 44) hx hb hts kt_X6 hown hK hP 0 rfl rfl 21 (by decide) (kx_word hG kq_05_morder_1 rfl) (fun _ h9 => h9) rfl dX6_step_132 ?_
                  refine lv_iload_n hx hb dX6_step_135 rfl (lv_at hl 3 rfl) ?_
                  refine lv_iconst (v := iz 1) hx hb dX6_step_136 (by decide) ?_
                  refine ki_zast (F := F 21) hx hb hK hP hD hS 16 15 rfl rfl (by omega) (by omega) (by decide) dX6_step_137 (fun H locs hP hD hS => ?_)
                  have hP : va_P (dC, dI) kxCl (mW mo ma cs I (va_up (va_up (va_up (va_up (va_up F 20 (upI (F 20) sd pa)) 22 (upI (F 22) sd (-1))) 23 (upI (F 23) sd 0)) 24 (upI (F 24) sd 0)) 21 (upI (F 21) sd (vp_nar .boolean (iz 1)).toInt))) H := hP
                  have hD : va_D A (mW mo ma cs I (va_up (va_up (va_up (va_up (va_up F 20 (upI (F 20) sd pa)) 22 (upI (F 22) sd (-1))) 23 (upI (F 23) sd 0)) 24 (upI (F 24) sd 0)) 21 (upI (F 21) sd (vp_nar .boolean (iz 1)).toInt))) := hD
                  refine lv_aload_n hx hb dX6_step_138 rfl (lv_at hl 2 rfl) ?_
                  refine va_get (D := (dC, dI)) (ci := 6) (v := .ref (ma 4)) (C := RX6) (T := TX6) (N := 44) hx hb hts kt_X6 hown hK hP 0 rfl rfl 4 (by decide) (kx_word hG kq_04_msmall_16 rfl) (fun _ h9 => h9) rfl dX6_step_139 ?_
                  refine lv_bipush (v := iz 20) hx hb dX6_step_142 (by decide) ?_
                  refine lv_iload_n hx hb dX6_step_144 rfl (lv_at hl 4 rfl) ?_
                  refine ki_imul hx hb dX6_step_145 ?_
                  refine lv_iload_n hx hb dX6_step_146 rfl (lv_at hl 1 rfl) ?_
                  refine ki_iadd hx hb dX6_step_147 ?_
                  refine ki_iald (F := F 4) hx hb hK hP 3 2 rfl rfl (by omega) (by omega) (by decide) dX6_step_148 ?_
                  refine ki_is (show iz (F 4 ((20 * p0) + pa)) = iz (kf_sg F p0 pa) from rfl) ?_
                  have hsk_47 := hsg pa (by omega) (by omega)
                  refine lv_istore (lv' := [(5, .int (iz (kf_sg F p0 pa))), (4, .int (iz ps)), (3, .int (iz pa)), (0, .ref mo), (1, .int (iz sd)), (2, .int (iz p0))]) hx hb dX6_step_149 hl (by decide) rfl (fun ls hl => ?_)
                  refine lv_iload hx hb dX6_step_151 (lv_at hl 0 rfl) ?_
                  refine mk_calls (As := [.int (iz (kf_sg F p0 pa))]) (rest := []) ⟨hx, hb, hml, hown, hts⟩ (k_letterOf2 l dC dI (kf_sg F p0 pa) H.size (by omega) (by omega) (hsg pa (by omega) (by omega))) (va_cwS 1 hts (kx_gS kq_05_morder_5 kq_05_morder_6 kq_04_msmall_6 kq_05_morder_7 rfl) rfl rfl rfl (by decide +kernel) ⟨Nat.le_of_ble_eq_true rfl, Nat.le_of_ble_eq_true rfl⟩) hP hD hK hG hZ hS hA rfl hl.1 rfl (Nat.le_of_ble_eq_true rfl) dX6_step_153 ⟨Nat.le_of_ble_eq_true rfl, Nat.le_of_ble_eq_true rfl⟩ (fun z_48 H locs hq_49 hP hS => ?_)
                  try dsimp only at hq_49
                  subst hq_49
                  refine W.eq (g2 := F0 m 156 ls [.int (iz (kf_kl (kf_sg F p0 pa)))]) rfl ?_
                  have hklb_50 := kf_kl_bd (kf_sg F p0 pa)
                  refine ki_if_le (tgt := 187) hx hb dX6_step_156 (by decide) (by omega) (by omega) (fun c_51 => ?_) (fun c_51 => ?_)
                  · omega
                  · skip
                    have hlet := hK0.trans (kf_kI_let (kf_sg F p0) (F 5 p0) (I 14) (I 15) pa 0 (F 21 sd) 1 (by omega) (by omega) rfl (by omega))
                    refine lv_aload_n hx hb dX6_step_159 rfl (lv_at hl 3 rfl) ?_
                    refine va_get (D := (dC, dI)) (ci := 6) (v := .ref (ma 22)) (C := RX6) (T := TX6) (N := 44) hx hb hts kt_X6 hown hK hP 0 rfl rfl 22 (by decide) (kx_word hG kq_05_morder_2 rfl) (fun _ h9 => h9) rfl dX6_step_160 ?_
                    refine lv_iload_n hx hb dX6_step_163 rfl (lv_at hl 4 rfl) ?_
                    refine lv_iconst (v := iz 2) hx hb dX6_step_164 (by decide) ?_
                    refine ki_iast (F := upI (F 22) sd (-1)) hx hb hK hP hD hS 17 16 rfl rfl (by omega) (by omega) (by decide) dX6_step_165 (fun H locs hP hD hS => ?_)
                    have hP : va_P (dC, dI) kxCl (mW mo ma cs I (va_up (va_up (va_up (va_up (va_up (va_up F 20 (upI (F 20) sd pa)) 22 (upI (F 22) sd (-1))) 23 (upI (F 23) sd 0)) 24 (upI (F 24) sd 0)) 21 (upI (F 21) sd (vp_nar .boolean (iz 1)).toInt)) 22 (upI (upI (F 22) sd (-1)) sd 2))) H := hP
                    have hD : va_D A (mW mo ma cs I (va_up (va_up (va_up (va_up (va_up (va_up F 20 (upI (F 20) sd pa)) 22 (upI (F 22) sd (-1))) 23 (upI (F 23) sd 0)) 24 (upI (F 24) sd 0)) 21 (upI (F 21) sd (vp_nar .boolean (iz 1)).toInt)) 22 (upI (upI (F 22) sd (-1)) sd 2))) := hD
                    refine lv_aload_n hx hb dX6_step_166 rfl (lv_at hl 3 rfl) ?_
                    refine va_get (D := (dC, dI)) (ci := 6) (v := .ref (ma 23)) (C := RX6) (T := TX6) (N := 44) hx hb hts kt_X6 hown hK hP 0 rfl rfl 23 (by decide) (kx_word hG kq_05_morder_3 rfl) (fun _ h9 => h9) rfl dX6_step_167 ?_
                    refine lv_iload_n hx hb dX6_step_170 rfl (lv_at hl 4 rfl) ?_
                    refine lv_iload hx hb dX6_step_171 (lv_at hl 0 rfl) ?_
                    refine mk_calls (As := [.int (iz (kf_sg F p0 pa))]) (rest := [.int (iz sd), .ref (ma 23)]) ⟨hx, hb, hml, hown, hts⟩ (k_letterOf2 l dC dI (kf_sg F p0 pa) H.size (by omega) (by omega) (hsg pa (by omega) (by omega))) (va_cwS 1 hts (kx_gS kq_05_morder_5 kq_05_morder_6 kq_04_msmall_6 kq_05_morder_7 rfl) rfl rfl rfl (by decide +kernel) ⟨Nat.le_of_ble_eq_true rfl, Nat.le_of_ble_eq_true rfl⟩) hP hD hK hG hZ hS hA rfl hl.1 rfl (Nat.le_of_ble_eq_true rfl) dX6_step_173 ⟨Nat.le_of_ble_eq_true rfl, Nat.le_of_ble_eq_true rfl⟩ (fun z_52 H locs hq_53 hP hS => ?_)
                    try dsimp only at hq_53
                    subst hq_53
                    refine W.eq (g2 := F0 m 176 ls [.int (iz (kf_kl (kf_sg F p0 pa))), .int (iz sd), .ref (ma 23)]) rfl ?_
                    have hklb_54 := kf_kl_bd (kf_sg F p0 pa)
                    refine ki_iast (F := upI (F 23) sd 0) hx hb hK hP hD hS 18 17 rfl rfl (by omega) (by omega) (by decide) dX6_step_176 (fun H locs hP hD hS => ?_)
                    have hP : va_P (dC, dI) kxCl (mW mo ma cs I (va_up (va_up (va_up (va_up (va_up (va_up (va_up F 20 (upI (F 20) sd pa)) 22 (upI (F 22) sd (-1))) 23 (upI (F 23) sd 0)) 24 (upI (F 24) sd 0)) 21 (upI (F 21) sd (vp_nar .boolean (iz 1)).toInt)) 22 (upI (upI (F 22) sd (-1)) sd 2)) 23 (upI (upI (F 23) sd 0) sd (kf_kl (kf_sg F p0 pa))))) H := hP
                    have hD : va_D A (mW mo ma cs I (va_up (va_up (va_up (va_up (va_up (va_up (va_up F 20 (upI (F 20) sd pa)) 22 (upI (F 22) sd (-1))) 23 (upI (F 23) sd 0)) 24 (upI (F 24) sd 0)) 21 (upI (F 21) sd (vp_nar .boolean (iz 1)).toInt)) 22 (upI (upI (F 22) sd (-1)) sd 2)) 23 (upI (upI (F 23) sd 0) sd (kf_kl (kf_sg F p0 pa))))) := hD
                    refine lv_aload_n hx hb dX6_step_177 rfl (lv_at hl 3 rfl) ?_
                    refine va_get (D := (dC, dI)) (ci := 6) (v := .ref (ma 20)) (C := RX6) (T := TX6) (N := 44) hx hb hts kt_X6 hown hK hP 0 rfl rfl 20 (by decide) (kx_word hG kq_05_morder_0 rfl) (fun _ h9 => h9) rfl dX6_step_178 ?_
                    refine lv_iload_n hx hb dX6_step_181 rfl (lv_at hl 4 rfl) ?_
                    refine lv_iload_n hx hb dX6_step_182 rfl (lv_at hl 2 rfl) ?_
                    refine lv_iconst (v := iz 1) hx hb dX6_step_183 (by decide) ?_
                    refine ki_iadd hx hb dX6_step_184 ?_
                    refine ki_iast (F := upI (F 20) sd pa) hx hb hK hP hD hS 15 14 rfl rfl (by omega) (by omega) (by decide) dX6_step_185 (fun H locs hP hD hS => ?_)
                    have hP : va_P (dC, dI) kxCl (mW mo ma cs I (va_up (va_up (va_up (va_up (va_up (va_up (va_up (va_up F 20 (upI (F 20) sd pa)) 22 (upI (F 22) sd (-1))) 23 (upI (F 23) sd 0)) 24 (upI (F 24) sd 0)) 21 (upI (F 21) sd (vp_nar .boolean (iz 1)).toInt)) 22 (upI (upI (F 22) sd (-1)) sd 2)) 23 (upI (upI (F 23) sd 0) sd (kf_kl (kf_sg F p0 pa)))) 20 (upI (upI (F 20) sd pa) sd (pa + 1)))) H := hP
                    have hD : va_D A (mW mo ma cs I (va_up (va_up (va_up (va_up (va_up (va_up (va_up (va_up F 20 (upI (F 20) sd pa)) 22 (upI (F 22) sd (-1))) 23 (upI (F 23) sd 0)) 24 (upI (F 24) sd 0)) 21 (upI (F 21) sd (vp_nar .boolean (iz 1)).toInt)) 22 (upI (upI (F 22) sd (-1)) sd 2)) 23 (upI (upI (F 23) sd 0) sd (kf_kl (kf_sg F p0 pa)))) 20 (upI (upI (F 20) sd pa) sd (pa + 1)))) := hD
                    have ev20 : (va_up (va_up (va_up (va_up (va_up (va_up (va_up (va_up F 20 (upI (F 20) sd pa)) 22 (upI (F 22) sd (-1))) 23 (upI (F 23) sd 0)) 24 (upI (F 24) sd 0)) 21 (upI (F 21) sd (vp_nar .boolean (iz 1)).toInt)) 22 (upI (upI (F 22) sd (-1)) sd 2)) 23 (upI (upI (F 23) sd 0) sd (kf_kl (kf_sg F p0 pa)))) 20 (upI (upI (F 20) sd pa) sd (pa + 1))) 20 sd = (pa + 1) := upI_self _ _ _
                    have ev21 : (va_up (va_up (va_up (va_up (va_up (va_up (va_up (va_up F 20 (upI (F 20) sd pa)) 22 (upI (F 22) sd (-1))) 23 (upI (F 23) sd 0)) 24 (upI (F 24) sd 0)) 21 (upI (F 21) sd (vp_nar .boolean (iz 1)).toInt)) 22 (upI (upI (F 22) sd (-1)) sd 2)) 23 (upI (upI (F 23) sd 0) sd (kf_kl (kf_sg F p0 pa)))) 20 (upI (upI (F 20) sd pa) sd (pa + 1))) 21 sd = (vp_nar .boolean (iz 1)).toInt := upI_self _ _ _
                    have ev22 : (va_up (va_up (va_up (va_up (va_up (va_up (va_up (va_up F 20 (upI (F 20) sd pa)) 22 (upI (F 22) sd (-1))) 23 (upI (F 23) sd 0)) 24 (upI (F 24) sd 0)) 21 (upI (F 21) sd (vp_nar .boolean (iz 1)).toInt)) 22 (upI (upI (F 22) sd (-1)) sd 2)) 23 (upI (upI (F 23) sd 0) sd (kf_kl (kf_sg F p0 pa)))) 20 (upI (upI (F 20) sd pa) sd (pa + 1))) 22 sd = 2 := upI_self _ _ _
                    have ev23 : (va_up (va_up (va_up (va_up (va_up (va_up (va_up (va_up F 20 (upI (F 20) sd pa)) 22 (upI (F 22) sd (-1))) 23 (upI (F 23) sd 0)) 24 (upI (F 24) sd 0)) 21 (upI (F 21) sd (vp_nar .boolean (iz 1)).toInt)) 22 (upI (upI (F 22) sd (-1)) sd 2)) 23 (upI (upI (F 23) sd 0) sd (kf_kl (kf_sg F p0 pa)))) 20 (upI (upI (F 20) sd pa) sd (pa + 1))) 23 sd = (kf_kl (kf_sg F p0 pa)) := upI_self _ _ _
                    have ev24 : (va_up (va_up (va_up (va_up (va_up (va_up (va_up (va_up F 20 (upI (F 20) sd pa)) 22 (upI (F 22) sd (-1))) 23 (upI (F 23) sd 0)) 24 (upI (F 24) sd 0)) 21 (upI (F 21) sd (vp_nar .boolean (iz 1)).toInt)) 22 (upI (upI (F 22) sd (-1)) sd 2)) 23 (upI (upI (F 23) sd 0) sd (kf_kl (kf_sg F p0 pa)))) 20 (upI (upI (F 20) sd pa) sd (pa + 1))) 24 sd = 0 := upI_self _ _ _
                    have ezn0 : (vp_nar .boolean (iz 1)).toInt = 1 := by decide
                    have e_55 : (va_up (va_up (va_up (va_up (va_up (va_up (va_up (va_up F 20 (upI (F 20) sd pa)) 22 (upI (F 22) sd (-1))) 23 (upI (F 23) sd 0)) 24 (upI (F 24) sd 0)) 21 (upI (F 21) sd (vp_nar .boolean (iz 1)).toInt)) 22 (upI (upI (F 22) sd (-1)) sd 2)) 23 (upI (upI (F 23) sd 0) sd (kf_kl (kf_sg F p0 pa)))) 20 (upI (upI (F 20) sd pa) sd (pa + 1))) 20 sd = pa + 1 := upI_self _ _ _
                    have e_56 : (va_up (va_up (va_up (va_up (va_up (va_up (va_up (va_up F 20 (upI (F 20) sd pa)) 22 (upI (F 22) sd (-1))) 23 (upI (F 23) sd 0)) 24 (upI (F 24) sd 0)) 21 (upI (F 21) sd (vp_nar .boolean (iz 1)).toInt)) 22 (upI (upI (F 22) sd (-1)) sd 2)) 23 (upI (upI (F 23) sd 0) sd (kf_kl (kf_sg F p0 pa)))) 20 (upI (upI (F 20) sd pa) sd (pa + 1))) 22 sd = 2 := upI_self _ _ _
                    have e_57 : (va_up (va_up (va_up (va_up (va_up (va_up (va_up (va_up F 20 (upI (F 20) sd pa)) 22 (upI (F 22) sd (-1))) 23 (upI (F 23) sd 0)) 24 (upI (F 24) sd 0)) 21 (upI (F 21) sd (vp_nar .boolean (iz 1)).toInt)) 22 (upI (upI (F 22) sd (-1)) sd 2)) 23 (upI (upI (F 23) sd 0) sd (kf_kl (kf_sg F p0 pa)))) 20 (upI (upI (F 20) sd pa) sd (pa + 1))) 23 sd = kf_kl (kf_sg F p0 pa) := upI_self _ _ _
                    have e_58 : (va_up (va_up (va_up (va_up (va_up (va_up (va_up (va_up F 20 (upI (F 20) sd pa)) 22 (upI (F 22) sd (-1))) 23 (upI (F 23) sd 0)) 24 (upI (F 24) sd 0)) 21 (upI (F 21) sd (vp_nar .boolean (iz 1)).toInt)) 22 (upI (upI (F 22) sd (-1)) sd 2)) 23 (upI (upI (F 23) sd 0) sd (kf_kl (kf_sg F p0 pa)))) 20 (upI (upI (F 20) sd pa) sd (pa + 1))) 24 sd = 0 := upI_self _ _ _
                    have e_59 : (va_up (va_up (va_up (va_up (va_up (va_up (va_up (va_up F 20 (upI (F 20) sd pa)) 22 (upI (F 22) sd (-1))) 23 (upI (F 23) sd 0)) 24 (upI (F 24) sd 0)) 21 (upI (F 21) sd (vp_nar .boolean (iz 1)).toInt)) 22 (upI (upI (F 22) sd (-1)) sd 2)) 23 (upI (upI (F 23) sd 0) sd (kf_kl (kf_sg F p0 pa)))) 20 (upI (upI (F 20) sd pa) sd (pa + 1))) 21 sd = (vp_nar .boolean (iz 1)).toInt := upI_self _ _ _
                    rw [← hQe]
                    exact mk_ret hx hb hr hlocks hP hD hK hS dX6_step_186 (⟨rfl, (mB_f (mB_f (mB_f (mB_f (mB_f (mB_f (mB_f (mB_f hB 20 sd (by omega) (by omega)) 22 sd (by omega) (by omega)) 23 sd (by omega) (by omega)) 24 sd (by omega) (by omega)) 21 sd (iz_lo _) (iz_hi _)) 22 sd (by omega) (by omega)) 23 sd (by omega) (by omega)) 20 sd (by omega) (by omega)), (mfr.upF (mfr.upF (mfr.upF (mfr.upF (mfr.upF (mfr.upF (mfr.upF (mfr.upF mfr.rf (by decide) _) (by decide) _) (by decide) _) (by decide) _) (by decide) _) (by decide) _) (by decide) _) (by decide) _), (mo1.up (mo1.up (mo1.up (mo1.up (mo1.up (mo1.up (mo1.up (mo1.up mo1.rf 20 _) 22 _) 23 _) 24 _) 21 _) 22 _) 23 _) 20 _), by omega, by omega, by omega, by rw [ev22, ev23, ev24]; exact Or.inr (Or.inr (Or.inr ⟨rfl, by omega, by omega⟩)), by rw [ev21]; exact Or.inr ezn0, by omega, by rw [ev20]; exact Or.inr (fun h9 => by have h8 := h9.2.2.2; rw [show pa + 1 - 1 = pa by omega] at h8; exact absurd (kf_kl_kd h8) (by omega)), by rw [ev22, ev23, ev24, ev20, ev21, ezn0, hlet]; rfl⟩)
                · skip
                  have hK1 : kf_kI (kf_sg F p0) (F 5 p0) (I 14) (I 15) (F 20 sd) 0 (F 21 sd) = kf_kI (kf_sg F p0) (F 5 p0) (I 14) (I 15) pa 1 (F 21 sd) := by rcases hKy with ⟨h8, -⟩ | ⟨-, -, -, h9⟩ | ⟨-, h8, -⟩; exact absurd h8 (by omega); exact h9; exact absurd h8 (by omega)
                  have hbrk := hK1.trans (kf_kI_brk (kf_sg F p0) (F 5 p0) (I 14) (I 15) pa 1 (F 21 sd) (by omega) (by omega) rfl)
                  have hboP : kf_kbo (kf_sg F p0) (F 5 p0) (I 14) pa := Or.inr (by have h9 := hprev (by omega); omega)
                  refine lv_aload_n hx hb dX6_step_123 rfl (lv_at hl 2 rfl) ?_
                  refine va_get (D := (dC, dI)) (ci := 6) (v := .ref (ma 22)) (C := RX6) (T := TX6) (N := 44) hx hb hts kt_X6 hown hK hP 0 rfl rfl 22 (by decide) (kx_word hG kq_05_morder_2 rfl) (fun _ h9 => h9) rfl dX6_step_124 ?_
                  refine lv_iload_n hx hb dX6_step_127 rfl (lv_at hl 3 rfl) ?_
                  refine lv_iconst (v := iz 0) hx hb dX6_step_128 (by decide) ?_
                  refine ki_iast (F := upI (F 22) sd (-1)) hx hb hK hP hD hS 17 16 rfl rfl (by omega) (by omega) (by decide) dX6_step_129 (fun H locs hP hD hS => ?_)
                  have hP : va_P (dC, dI) kxCl (mW mo ma cs I (va_up (va_up (va_up (va_up (va_up F 20 (upI (F 20) sd pa)) 22 (upI (F 22) sd (-1))) 23 (upI (F 23) sd 0)) 24 (upI (F 24) sd 0)) 22 (upI (upI (F 22) sd (-1)) sd 0))) H := hP
                  have hD : va_D A (mW mo ma cs I (va_up (va_up (va_up (va_up (va_up F 20 (upI (F 20) sd pa)) 22 (upI (F 22) sd (-1))) 23 (upI (F 23) sd 0)) 24 (upI (F 24) sd 0)) 22 (upI (upI (F 22) sd (-1)) sd 0))) := hD
                  have ev20 : (va_up (va_up (va_up (va_up (va_up F 20 (upI (F 20) sd pa)) 22 (upI (F 22) sd (-1))) 23 (upI (F 23) sd 0)) 24 (upI (F 24) sd 0)) 22 (upI (upI (F 22) sd (-1)) sd 0)) 20 sd = pa := upI_self _ _ _
                  have ev21 : (va_up (va_up (va_up (va_up (va_up F 20 (upI (F 20) sd pa)) 22 (upI (F 22) sd (-1))) 23 (upI (F 23) sd 0)) 24 (upI (F 24) sd 0)) 22 (upI (upI (F 22) sd (-1)) sd 0)) 21 sd = F 21 sd := rfl
                  have ev22 : (va_up (va_up (va_up (va_up (va_up F 20 (upI (F 20) sd pa)) 22 (upI (F 22) sd (-1))) 23 (upI (F 23) sd 0)) 24 (upI (F 24) sd 0)) 22 (upI (upI (F 22) sd (-1)) sd 0)) 22 sd = 0 := upI_self _ _ _
                  have ev23 : (va_up (va_up (va_up (va_up (va_up F 20 (upI (F 20) sd pa)) 22 (upI (F 22) sd (-1))) 23 (upI (F 23) sd 0)) 24 (upI (F 24) sd 0)) 22 (upI (upI (F 22) sd (-1)) sd 0)) 23 sd = 0 := upI_self _ _ _
                  have ev24 : (va_up (va_up (va_up (va_up (va_up F 20 (upI (F 20) sd pa)) 22 (upI (F 22) sd (-1))) 23 (upI (F 23) sd 0)) 24 (upI (F 24) sd 0)) 22 (upI (upI (F 22) sd (-1)) sd 0)) 24 sd = 0 := upI_self _ _ _
                  have ezn0 : (vp_nar .boolean (iz 1)).toInt = 1 := by decide
                  have e_60 : (va_up (va_up (va_up (va_up (va_up F 20 (upI (F 20) sd pa)) 22 (upI (F 22) sd (-1))) 23 (upI (F 23) sd 0)) 24 (upI (F 24) sd 0)) 22 (upI (upI (F 22) sd (-1)) sd 0)) 20 sd = pa := upI_self _ _ _
                  have e_61 : (va_up (va_up (va_up (va_up (va_up F 20 (upI (F 20) sd pa)) 22 (upI (F 22) sd (-1))) 23 (upI (F 23) sd 0)) 24 (upI (F 24) sd 0)) 22 (upI (upI (F 22) sd (-1)) sd 0)) 22 sd = 0 := upI_self _ _ _
                  have e_62 : (va_up (va_up (va_up (va_up (va_up F 20 (upI (F 20) sd pa)) 22 (upI (F 22) sd (-1))) 23 (upI (F 23) sd 0)) 24 (upI (F 24) sd 0)) 22 (upI (upI (F 22) sd (-1)) sd 0)) 23 sd = 0 := upI_self _ _ _
                  have e_63 : (va_up (va_up (va_up (va_up (va_up F 20 (upI (F 20) sd pa)) 22 (upI (F 22) sd (-1))) 23 (upI (F 23) sd 0)) 24 (upI (F 24) sd 0)) 22 (upI (upI (F 22) sd (-1)) sd 0)) 24 sd = 0 := upI_self _ _ _
                  rw [← hQe]
                  exact mk_ret hx hb hr hlocks hP hD hK hS dX6_step_130 (⟨rfl, (mB_f (mB_f (mB_f (mB_f (mB_f hB 20 sd (by omega) (by omega)) 22 sd (by omega) (by omega)) 23 sd (by omega) (by omega)) 24 sd (by omega) (by omega)) 22 sd (by omega) (by omega)), (mfr.upF (mfr.upF (mfr.upF (mfr.upF (mfr.upF mfr.rf (by decide) _) (by decide) _) (by decide) _) (by decide) _) (by decide) _), (mo1.up (mo1.up (mo1.up (mo1.up (mo1.up mo1.rf 20 _) 22 _) 23 _) 24 _) 22 _), by omega, by omega, by omega, by rw [ev22, ev23, ev24]; exact Or.inr (Or.inl ⟨rfl, rfl, rfl⟩), by rw [ev21]; exact hbg, by omega, by rw [ev20]; exact hboP, by rw [ev22, ev23, ev24, ev20, ev21, hbrk]; rfl⟩)
          · omega
        · skip
          refine lv_aload_n hx hb dX6_step_37 rfl (lv_at hl 2 rfl) ?_
          refine va_get (D := (dC, dI)) (ci := 6) (v := .ref (ma 4)) (C := RX6) (T := TX6) (N := 44) hx hb hts kt_X6 hown hK hP 0 rfl rfl 4 (by decide) (kx_word hG kq_04_msmall_16 rfl) (fun _ h9 => h9) rfl dX6_step_38 ?_
          refine lv_bipush (v := iz 20) hx hb dX6_step_41 (by decide) ?_
          refine lv_iload_n hx hb dX6_step_43 rfl (lv_at hl 4 rfl) ?_
          refine ki_imul hx hb dX6_step_44 ?_
          refine lv_iload_n hx hb dX6_step_45 rfl (lv_at hl 1 rfl) ?_
          refine ki_iadd hx hb dX6_step_46 ?_
          refine ki_iald (F := F 4) hx hb hK hP 3 2 rfl rfl (by omega) (by omega) (by decide) dX6_step_47 ?_
          refine ki_is (show iz (F 4 ((20 * p0) + pa)) = iz (kf_sg F p0 pa) from rfl) ?_
          have hsk_64 := hsg pa (by omega) (by omega)
          refine mk_calls (As := [.int (iz (kf_sg F p0 pa))]) (rest := []) ⟨hx, hb, hml, hown, hts⟩ (k_isNumber2 l dC dI (kf_sg F p0 pa) H.size (by omega) (by omega)) (va_cwS 1 hts (kx_gS kq_05_morder_8 kq_05_morder_9 kq_04_msmall_6 kq_05_morder_10 rfl) rfl rfl rfl (by decide +kernel) ⟨Nat.le_of_ble_eq_true rfl, Nat.le_of_ble_eq_true rfl⟩) hP hD hK hG hZ hS hA rfl hl.1 rfl (Nat.le_of_ble_eq_true rfl) dX6_step_48 ⟨Nat.le_of_ble_eq_true rfl, Nat.le_of_ble_eq_true rfl⟩ (fun z_65 H locs hq_66 hP hS => ?_)
          try dsimp only at hq_66
          rcases hq_66 with ⟨rfl, hq_66⟩ | ⟨rfl, hq_66⟩
          · skip
            refine ki_if_ne (tgt := 63) hx hb dX6_step_51 (by decide) (by omega) (by omega) (fun c_67 => ?_) (fun c_67 => ?_)
            · skip
              refine lv_aload_n hx hb dX6_step_63 rfl (lv_at hl 2 rfl) ?_
              refine va_get (D := (dC, dI)) (ci := 6) (v := .ref (ma 20)) (C := RX6) (T := TX6) (N := 44) hx hb hts kt_X6 hown hK hP 0 rfl rfl 20 (by decide) (kx_word hG kq_05_morder_0 rfl) (fun _ h9 => h9) rfl dX6_step_64 ?_
              refine lv_iload_n hx hb dX6_step_67 rfl (lv_at hl 3 rfl) ?_
              refine lv_iload_n hx hb dX6_step_68 rfl (lv_at hl 1 rfl) ?_
              refine ki_iast (F := F 20) hx hb hK hP hD hS 15 14 rfl rfl (by omega) (by omega) (by decide) dX6_step_69 (fun H locs hP hD hS => ?_)
              have hP : va_P (dC, dI) kxCl (mW mo ma cs I (va_up F 20 (upI (F 20) sd pa))) H := hP
              have hD : va_D A (mW mo ma cs I (va_up F 20 (upI (F 20) sd pa))) := hD
              refine lv_aload_n hx hb dX6_step_70 rfl (lv_at hl 2 rfl) ?_
              refine va_get (D := (dC, dI)) (ci := 6) (v := .ref (ma 22)) (C := RX6) (T := TX6) (N := 44) hx hb hts kt_X6 hown hK hP 0 rfl rfl 22 (by decide) (kx_word hG kq_05_morder_2 rfl) (fun _ h9 => h9) rfl dX6_step_71 ?_
              refine lv_iload_n hx hb dX6_step_74 rfl (lv_at hl 3 rfl) ?_
              refine lv_iconst (v := iz (-1)) hx hb dX6_step_75 (by decide) ?_
              refine ki_iast (F := F 22) hx hb hK hP hD hS 17 16 rfl rfl (by omega) (by omega) (by decide) dX6_step_76 (fun H locs hP hD hS => ?_)
              have hP : va_P (dC, dI) kxCl (mW mo ma cs I (va_up (va_up F 20 (upI (F 20) sd pa)) 22 (upI (F 22) sd (-1)))) H := hP
              have hD : va_D A (mW mo ma cs I (va_up (va_up F 20 (upI (F 20) sd pa)) 22 (upI (F 22) sd (-1)))) := hD
              refine lv_aload_n hx hb dX6_step_77 rfl (lv_at hl 2 rfl) ?_
              refine va_get (D := (dC, dI)) (ci := 6) (v := .ref (ma 23)) (C := RX6) (T := TX6) (N := 44) hx hb hts kt_X6 hown hK hP 0 rfl rfl 23 (by decide) (kx_word hG kq_05_morder_3 rfl) (fun _ h9 => h9) rfl dX6_step_78 ?_
              refine lv_iload_n hx hb dX6_step_81 rfl (lv_at hl 3 rfl) ?_
              refine lv_iconst (v := iz 0) hx hb dX6_step_82 (by decide) ?_
              refine ki_iast (F := F 23) hx hb hK hP hD hS 18 17 rfl rfl (by omega) (by omega) (by decide) dX6_step_83 (fun H locs hP hD hS => ?_)
              have hP : va_P (dC, dI) kxCl (mW mo ma cs I (va_up (va_up (va_up F 20 (upI (F 20) sd pa)) 22 (upI (F 22) sd (-1))) 23 (upI (F 23) sd 0))) H := hP
              have hD : va_D A (mW mo ma cs I (va_up (va_up (va_up F 20 (upI (F 20) sd pa)) 22 (upI (F 22) sd (-1))) 23 (upI (F 23) sd 0))) := hD
              refine lv_aload_n hx hb dX6_step_84 rfl (lv_at hl 2 rfl) ?_
              refine va_get (D := (dC, dI)) (ci := 6) (v := .ref (ma 24)) (C := RX6) (T := TX6) (N := 44) hx hb hts kt_X6 hown hK hP 0 rfl rfl 24 (by decide) (kx_word hG kq_05_morder_4 rfl) (fun _ h9 => h9) rfl dX6_step_85 ?_
              refine lv_iload_n hx hb dX6_step_88 rfl (lv_at hl 3 rfl) ?_
              refine lv_iconst (v := iz 0) hx hb dX6_step_89 (by decide) ?_
              refine ki_iast (F := F 24) hx hb hK hP hD hS 19 18 rfl rfl (by omega) (by omega) (by decide) dX6_step_90 (fun H locs hP hD hS => ?_)
              have hP : va_P (dC, dI) kxCl (mW mo ma cs I (va_up (va_up (va_up (va_up F 20 (upI (F 20) sd pa)) 22 (upI (F 22) sd (-1))) 23 (upI (F 23) sd 0)) 24 (upI (F 24) sd 0))) H := hP
              have hD : va_D A (mW mo ma cs I (va_up (va_up (va_up (va_up F 20 (upI (F 20) sd pa)) 22 (upI (F 22) sd (-1))) 23 (upI (F 23) sd 0)) 24 (upI (F 24) sd 0))) := hD
              refine lv_iload_n hx hb dX6_step_91 rfl (lv_at hl 1 rfl) ?_
              refine lv_aload_n hx hb dX6_step_92 rfl (lv_at hl 2 rfl) ?_
              refine va_get (D := (dC, dI)) (ci := 6) (v := .ref (ma 5)) (C := RX6) (T := TX6) (N := 44) hx hb hts kt_X6 hown hK hP 0 rfl rfl 5 (by decide) (kx_word hG kq_04_msmall_15 rfl) (fun _ h9 => h9) rfl dX6_step_93 ?_
              refine lv_iload_n hx hb dX6_step_96 rfl (lv_at hl 4 rfl) ?_
              refine ki_iald (F := F 5) hx hb hK hP 4 3 rfl rfl (by omega) (by omega) (by decide) dX6_step_97 ?_
              refine ki_icmp_ne (tgt := 102) hx hb dX6_step_98 (by decide) (by omega) (by omega) (by omega) (by omega) (fun c_68 => ?_) (fun c_68 => ?_)
              · skip
                refine lv_iload hx hb dX6_step_102 (lv_at hl 0 rfl) ?_
                refine ki_if_eq (tgt := 131) hx hb dX6_step_104 (by decide) (by omega) (by omega) (fun c_69 => ?_) (fun c_69 => ?_)
                · skip
                  have hK0 : kf_kI (kf_sg F p0) (F 5 p0) (I 14) (I 15) (F 20 sd) 0 (F 21 sd) = kf_kI (kf_sg F p0) (F 5 p0) (I 14) (I 15) pa 0 (F 21 sd) := by rcases hKy with ⟨-, h9⟩ | ⟨h7, h8, h6, -⟩ | ⟨-, -, h9⟩; exact h9; exact absurd h8 (by omega); exact h9
                  have hboP : kf_kbo (kf_sg F p0) (F 5 p0) (I 14) pa := by rcases hps with h9 | h9; rw [h9.2]; exact hbo; exact Or.inr (by have h8 := hprev h9.1; omega)
                  refine lv_aload_n hx hb dX6_step_131 rfl (lv_at hl 2 rfl) ?_
                  refine va_get (D := (dC, dI)) (ci := 6) (v := .ref (ma 21)) (C := RX6) (T := TX6) (N := 44) hx hb hts kt_X6 hown hK hP 0 rfl rfl 21 (by decide) (kx_word hG kq_05_morder_1 rfl) (fun _ h9 => h9) rfl dX6_step_132 ?_
                  refine lv_iload_n hx hb dX6_step_135 rfl (lv_at hl 3 rfl) ?_
                  refine lv_iconst (v := iz 1) hx hb dX6_step_136 (by decide) ?_
                  refine ki_zast (F := F 21) hx hb hK hP hD hS 16 15 rfl rfl (by omega) (by omega) (by decide) dX6_step_137 (fun H locs hP hD hS => ?_)
                  have hP : va_P (dC, dI) kxCl (mW mo ma cs I (va_up (va_up (va_up (va_up (va_up F 20 (upI (F 20) sd pa)) 22 (upI (F 22) sd (-1))) 23 (upI (F 23) sd 0)) 24 (upI (F 24) sd 0)) 21 (upI (F 21) sd (vp_nar .boolean (iz 1)).toInt))) H := hP
                  have hD : va_D A (mW mo ma cs I (va_up (va_up (va_up (va_up (va_up F 20 (upI (F 20) sd pa)) 22 (upI (F 22) sd (-1))) 23 (upI (F 23) sd 0)) 24 (upI (F 24) sd 0)) 21 (upI (F 21) sd (vp_nar .boolean (iz 1)).toInt))) := hD
                  refine lv_aload_n hx hb dX6_step_138 rfl (lv_at hl 2 rfl) ?_
                  refine va_get (D := (dC, dI)) (ci := 6) (v := .ref (ma 4)) (C := RX6) (T := TX6) (N := 44) hx hb hts kt_X6 hown hK hP 0 rfl rfl 4 (by decide) (kx_word hG kq_04_msmall_16 rfl) (fun _ h9 => h9) rfl dX6_step_139 ?_
                  refine lv_bipush (v := iz 20) hx hb dX6_step_142 (by decide) ?_
                  refine lv_iload_n hx hb dX6_step_144 rfl (lv_at hl 4 rfl) ?_
                  refine ki_imul hx hb dX6_step_145 ?_
                  refine lv_iload_n hx hb dX6_step_146 rfl (lv_at hl 1 rfl) ?_
                  refine ki_iadd hx hb dX6_step_147 ?_
                  refine ki_iald (F := F 4) hx hb hK hP 3 2 rfl rfl (by omega) (by omega) (by decide) dX6_step_148 ?_
                  refine ki_is (show iz (F 4 ((20 * p0) + pa)) = iz (kf_sg F p0 pa) from rfl) ?_
                  have hsk_70 := hsg pa (by omega) (by omega)
                  refine lv_istore (lv' := [(5, .int (iz (kf_sg F p0 pa))), (4, .int (iz ps)), (3, .int (iz pa)), (0, .ref mo), (1, .int (iz sd)), (2, .int (iz p0))]) hx hb dX6_step_149 hl (by decide) rfl (fun ls hl => ?_)
                  refine lv_iload hx hb dX6_step_151 (lv_at hl 0 rfl) ?_
                  refine mk_calls (As := [.int (iz (kf_sg F p0 pa))]) (rest := []) ⟨hx, hb, hml, hown, hts⟩ (k_letterOf2 l dC dI (kf_sg F p0 pa) H.size (by omega) (by omega) (hsg pa (by omega) (by omega))) (va_cwS 1 hts (kx_gS kq_05_morder_5 kq_05_morder_6 kq_04_msmall_6 kq_05_morder_7 rfl) rfl rfl rfl (by decide +kernel) ⟨Nat.le_of_ble_eq_true rfl, Nat.le_of_ble_eq_true rfl⟩) hP hD hK hG hZ hS hA rfl hl.1 rfl (Nat.le_of_ble_eq_true rfl) dX6_step_153 ⟨Nat.le_of_ble_eq_true rfl, Nat.le_of_ble_eq_true rfl⟩ (fun z_71 H locs hq_72 hP hS => ?_)
                  try dsimp only at hq_72
                  subst hq_72
                  refine W.eq (g2 := F0 m 156 ls [.int (iz (kf_kl (kf_sg F p0 pa)))]) rfl ?_
                  have hklb_73 := kf_kl_bd (kf_sg F p0 pa)
                  refine ki_if_le (tgt := 187) hx hb dX6_step_156 (by decide) (by omega) (by omega) (fun c_74 => ?_) (fun c_74 => ?_)
                  · skip
                    have hkd : kf_kd (kf_sg F p0 pa) := by omega
                    have hbo2 : ¬ I 14 = 0 → ¬ (0 < pa ∧ kf_kd (kf_sg F p0 (pa - 1))) := fun h9 => by rcases hboP with h8 | h8; exact absurd h8 h9; exact fun h7 => h8 ⟨by omega, h7.1, hkd, h7.2⟩
                    refine lv_iload_n hx hb dX6_step_187 rfl (lv_at hl 2 rfl) ?_
                    refine lv_iconst (v := iz 1) hx hb dX6_step_188 (by decide) ?_
                    refine ki_iadd hx hb dX6_step_189 ?_
                    refine lv_istore (lv' := [(6, .int (iz (pa + 1))), (5, .int (iz (kf_sg F p0 pa))), (4, .int (iz ps)), (3, .int (iz pa)), (0, .ref mo), (1, .int (iz sd)), (2, .int (iz p0))]) hx hb dX6_step_190 hl (by decide) rfl (fun ls hl => ?_)
                    have lp192 : ∀ (n : Nat) (en : Int), ((pa + 1 ≤ en ∧ en ≤ F 5 p0) ∧ (en = pa + 1 ∨ ¬ I 14 = 0) ∧ (¬ I 14 = 0 → kf_ke (kf_sg F p0) (F 5 p0) (F 5 p0 - pa).toNat pa = kf_ke (kf_sg F p0) (F 5 p0) (F 5 p0 - en).toNat en)) → (F 5 p0 - en).toNat < n → ∀ (H : Heap) (locs : List Loc), va_P (dC, dI) kxCl (mW mo ma cs I (va_up (va_up (va_up (va_up (va_up F 20 (upI (F 20) sd pa)) 22 (upI (F 22) sd (-1))) 23 (upI (F 23) sd 0)) 24 (upI (F 24) sd 0)) 21 (upI (F 21) sd (vp_nar .boolean (iz 1)).toInt))) H → va_D A (mW mo ma cs I (va_up (va_up (va_up (va_up (va_up F 20 (upI (F 20) sd pa)) 22 (upI (F 22) sd (-1))) 23 (upI (F 23) sd 0)) 24 (upI (F 24) sd 0)) 21 (upI (F 21) sd (vp_nar .boolean (iz 1)).toInt))) → va_S A s.heap H locs → ∀ ls : Array Slot, lv_has ls 7 [(6, .int (iz en)), (5, .int (iz (kf_sg F p0 pa))), (4, .int (iz ps)), (3, .int (iz pa)), (0, .ref mo), (1, .int (iz sd)), (2, .int (iz p0))] → W p l e (headSpec [.code yX6_step cX6_step 7 none] ({ frames := 1, cells := 0, slots := 0, locals := 21 })).room s m ([.ref mo, .int (iz sd), .int (iz p0)] : List Value).toArray below meth c H locs 0 0 QQ (F0 m 192 ls []) := by
                      intro n
                      induction n with
                      | zero => intro en hinv hm; exact absurd hm (Nat.not_lt_zero _)
                      | succ n ih192 =>
                        intro en hinv hm H locs hP hD hS ls hl
                        obtain ⟨hen, hen0, hke⟩ := hinv
                        refine lv_aload_n hx hb dX6_step_192 rfl (lv_at hl 4 rfl) ?_
                        refine va_get (D := (dC, dI)) (ci := 6) (v := .int (iz (I 14))) (C := RX6) (T := TX6) (N := 44) hx hb hts kt_X6 hown hK hP 0 rfl rfl 14 (by decide) (kx_word hG kq_04_msmall_17 rfl) (fun _ h9 => h9) rfl dX6_step_193 ?_
                        have hbd_75 := hB.1 14
                        refine ki_if_eq (tgt := 234) hx hb dX6_step_196 (by decide) (by omega) (by omega) (fun c_76 => ?_) (fun c_76 => ?_)
                        · skip
                          have hkeE : ¬ I 14 = 0 → kf_ke (kf_sg F p0) (F 5 p0) (F 5 p0 - pa).toNat pa = en := fun h9 => (hke h9).trans (kf_ke_stop (by omega))
                          have hen1 : I 14 = 0 → en = pa + 1 := fun h9 => by rcases hen0 with h8 | h8; exact h8; exact absurd h9 h8
                          have hnum : kf_kI (kf_sg F p0) (F 5 p0) (I 14) (I 15) (F 20 sd) 0 (F 21 sd) = kf_kn (kf_sg F p0) pa en ++ kf_kI (kf_sg F p0) (F 5 p0) (I 14) (I 15) en 0 1 := by by_cases h9 : I 14 = 0; rw [hen1 h9]; exact hK0.trans (kf_kI_one (kf_sg F p0) (F 5 p0) (I 14) (I 15) pa 0 (F 21 sd) 1 (by omega) hkd h9 rfl (by omega)); have h7 := hK0.trans (kf_kI_whole (kf_sg F p0) (F 5 p0) (I 14) (I 15) pa 0 (F 21 sd) 1 (by omega) (by omega) hkd h9 (hbo2 h9) rfl (by omega)); rw [hkeE h9] at h7; exact h7
                          have hboE : kf_kbo (kf_sg F p0) (F 5 p0) (I 14) en := by by_cases h9 : I 14 = 0; exact Or.inl h9; exact Or.inr (fun h7 => by have h6 := (kf_ke_run (kf_sg F p0) (F 5 p0) (F 5 p0 - pa).toNat pa (by omega) (Nat.le_refl _)).2; rw [hkeE h9] at h6; exact h6 h7.1 h7.2.2.1)
                          have lp234 : ∀ (n : Nat) (pz : Int), ((pa ≤ pz ∧ pz ≤ en) ∧ (kf_kz (kf_sg F p0) en (en - pa).toNat pa = kf_kz (kf_sg F p0) en (en - pz).toNat pz)) → (en - pz).toNat < n → ∀ (H : Heap) (locs : List Loc), va_P (dC, dI) kxCl (mW mo ma cs I (va_up (va_up (va_up (va_up (va_up F 20 (upI (F 20) sd pa)) 22 (upI (F 22) sd (-1))) 23 (upI (F 23) sd 0)) 24 (upI (F 24) sd 0)) 21 (upI (F 21) sd (vp_nar .boolean (iz 1)).toInt))) H → va_D A (mW mo ma cs I (va_up (va_up (va_up (va_up (va_up F 20 (upI (F 20) sd pa)) 22 (upI (F 22) sd (-1))) 23 (upI (F 23) sd 0)) 24 (upI (F 24) sd 0)) 21 (upI (F 21) sd (vp_nar .boolean (iz 1)).toInt))) → va_S A s.heap H locs → ∀ ls : Array Slot, lv_has ls 7 [(6, .int (iz en)), (5, .int (iz (kf_sg F p0 pa))), (4, .int (iz ps)), (3, .int (iz pz)), (0, .ref mo), (1, .int (iz sd)), (2, .int (iz p0))] → W p l e (headSpec [.code yX6_step cX6_step 7 none] ({ frames := 1, cells := 0, slots := 0, locals := 21 })).room s m ([.ref mo, .int (iz sd), .int (iz p0)] : List Value).toArray below meth c H locs 0 0 QQ (F0 m 234 ls []) := by
                            intro n
                            induction n with
                            | zero => intro pz hinv hm; exact absurd hm (Nat.not_lt_zero _)
                            | succ n ih234 =>
                              intro pz hinv hm H locs hP hD hS ls hl
                              obtain ⟨hpz, hkz⟩ := hinv
                              refine lv_iload_n hx hb dX6_step_234 rfl (lv_at hl 3 rfl) ?_
                              refine lv_iload hx hb dX6_step_235 (lv_at hl 0 rfl) ?_
                              refine ki_icmp_ge (tgt := 262) hx hb dX6_step_237 (by decide) (by omega) (by omega) (by omega) (by omega) (fun c_77 => ?_) (fun c_77 => ?_)
                              · skip
                                have hkzE : kf_kz (kf_sg F p0) en (en - pa).toNat pa = pz := hkz.trans (kf_kz_stop (by omega))
                                refine lv_aload_n hx hb dX6_step_262 rfl (lv_at hl 4 rfl) ?_
                                refine va_get (D := (dC, dI)) (ci := 6) (v := .ref (ma 22)) (C := RX6) (T := TX6) (N := 44) hx hb hts kt_X6 hown hK hP 0 rfl rfl 22 (by decide) (kx_word hG kq_05_morder_2 rfl) (fun _ h9 => h9) rfl dX6_step_263 ?_
                                refine lv_iload_n hx hb dX6_step_266 rfl (lv_at hl 5 rfl) ?_
                                refine lv_iconst (v := iz 1) hx hb dX6_step_267 (by decide) ?_
                                refine ki_iast (F := upI (F 22) sd (-1)) hx hb hK hP hD hS 17 16 rfl rfl (by omega) (by omega) (by decide) dX6_step_268 (fun H locs hP hD hS => ?_)
                                have hP : va_P (dC, dI) kxCl (mW mo ma cs I (va_up (va_up (va_up (va_up (va_up (va_up F 20 (upI (F 20) sd pa)) 22 (upI (F 22) sd (-1))) 23 (upI (F 23) sd 0)) 24 (upI (F 24) sd 0)) 21 (upI (F 21) sd (vp_nar .boolean (iz 1)).toInt)) 22 (upI (upI (F 22) sd (-1)) sd 1))) H := hP
                                have hD : va_D A (mW mo ma cs I (va_up (va_up (va_up (va_up (va_up (va_up F 20 (upI (F 20) sd pa)) 22 (upI (F 22) sd (-1))) 23 (upI (F 23) sd 0)) 24 (upI (F 24) sd 0)) 21 (upI (F 21) sd (vp_nar .boolean (iz 1)).toInt)) 22 (upI (upI (F 22) sd (-1)) sd 1))) := hD
                                refine lv_aload_n hx hb dX6_step_269 rfl (lv_at hl 4 rfl) ?_
                                refine va_get (D := (dC, dI)) (ci := 6) (v := .ref (ma 23)) (C := RX6) (T := TX6) (N := 44) hx hb hts kt_X6 hown hK hP 0 rfl rfl 23 (by decide) (kx_word hG kq_05_morder_3 rfl) (fun _ h9 => h9) rfl dX6_step_270 ?_
                                refine lv_iload_n hx hb dX6_step_273 rfl (lv_at hl 5 rfl) ?_
                                refine lv_bipush (v := iz 20) hx hb dX6_step_274 (by decide) ?_
                                refine lv_iload_n hx hb dX6_step_276 rfl (lv_at hl 6 rfl) ?_
                                refine ki_imul hx hb dX6_step_277 ?_
                                refine lv_iload_n hx hb dX6_step_278 rfl (lv_at hl 3 rfl) ?_
                                refine ki_iadd hx hb dX6_step_279 ?_
                                refine ki_iast (F := upI (F 23) sd 0) hx hb hK hP hD hS 18 17 rfl rfl (by omega) (by omega) (by decide) dX6_step_280 (fun H locs hP hD hS => ?_)
                                have hP : va_P (dC, dI) kxCl (mW mo ma cs I (va_up (va_up (va_up (va_up (va_up (va_up (va_up F 20 (upI (F 20) sd pa)) 22 (upI (F 22) sd (-1))) 23 (upI (F 23) sd 0)) 24 (upI (F 24) sd 0)) 21 (upI (F 21) sd (vp_nar .boolean (iz 1)).toInt)) 22 (upI (upI (F 22) sd (-1)) sd 1)) 23 (upI (upI (F 23) sd 0) sd ((20 * p0) + pz)))) H := hP
                                have hD : va_D A (mW mo ma cs I (va_up (va_up (va_up (va_up (va_up (va_up (va_up F 20 (upI (F 20) sd pa)) 22 (upI (F 22) sd (-1))) 23 (upI (F 23) sd 0)) 24 (upI (F 24) sd 0)) 21 (upI (F 21) sd (vp_nar .boolean (iz 1)).toInt)) 22 (upI (upI (F 22) sd (-1)) sd 1)) 23 (upI (upI (F 23) sd 0) sd ((20 * p0) + pz)))) := hD
                                refine lv_aload_n hx hb dX6_step_281 rfl (lv_at hl 4 rfl) ?_
                                refine va_get (D := (dC, dI)) (ci := 6) (v := .ref (ma 24)) (C := RX6) (T := TX6) (N := 44) hx hb hts kt_X6 hown hK hP 0 rfl rfl 24 (by decide) (kx_word hG kq_05_morder_4 rfl) (fun _ h9 => h9) rfl dX6_step_282 ?_
                                refine lv_iload_n hx hb dX6_step_285 rfl (lv_at hl 5 rfl) ?_
                                refine lv_iload hx hb dX6_step_286 (lv_at hl 0 rfl) ?_
                                refine lv_iload_n hx hb dX6_step_288 rfl (lv_at hl 3 rfl) ?_
                                refine ki_isub hx hb dX6_step_289 ?_
                                refine ki_iast (F := upI (F 24) sd 0) hx hb hK hP hD hS 19 18 rfl rfl (by omega) (by omega) (by decide) dX6_step_290 (fun H locs hP hD hS => ?_)
                                have hP : va_P (dC, dI) kxCl (mW mo ma cs I (va_up (va_up (va_up (va_up (va_up (va_up (va_up (va_up F 20 (upI (F 20) sd pa)) 22 (upI (F 22) sd (-1))) 23 (upI (F 23) sd 0)) 24 (upI (F 24) sd 0)) 21 (upI (F 21) sd (vp_nar .boolean (iz 1)).toInt)) 22 (upI (upI (F 22) sd (-1)) sd 1)) 23 (upI (upI (F 23) sd 0) sd ((20 * p0) + pz))) 24 (upI (upI (F 24) sd 0) sd (en - pz)))) H := hP
                                have hD : va_D A (mW mo ma cs I (va_up (va_up (va_up (va_up (va_up (va_up (va_up (va_up F 20 (upI (F 20) sd pa)) 22 (upI (F 22) sd (-1))) 23 (upI (F 23) sd 0)) 24 (upI (F 24) sd 0)) 21 (upI (F 21) sd (vp_nar .boolean (iz 1)).toInt)) 22 (upI (upI (F 22) sd (-1)) sd 1)) 23 (upI (upI (F 23) sd 0) sd ((20 * p0) + pz))) 24 (upI (upI (F 24) sd 0) sd (en - pz)))) := hD
                                refine lv_aload_n hx hb dX6_step_291 rfl (lv_at hl 4 rfl) ?_
                                refine va_get (D := (dC, dI)) (ci := 6) (v := .ref (ma 20)) (C := RX6) (T := TX6) (N := 44) hx hb hts kt_X6 hown hK hP 0 rfl rfl 20 (by decide) (kx_word hG kq_05_morder_0 rfl) (fun _ h9 => h9) rfl dX6_step_292 ?_
                                refine lv_iload_n hx hb dX6_step_295 rfl (lv_at hl 5 rfl) ?_
                                refine lv_iload hx hb dX6_step_296 (lv_at hl 0 rfl) ?_
                                refine ki_iast (F := upI (F 20) sd pa) hx hb hK hP hD hS 15 14 rfl rfl (by omega) (by omega) (by decide) dX6_step_298 (fun H locs hP hD hS => ?_)
                                have hP : va_P (dC, dI) kxCl (mW mo ma cs I (va_up (va_up (va_up (va_up (va_up (va_up (va_up (va_up (va_up F 20 (upI (F 20) sd pa)) 22 (upI (F 22) sd (-1))) 23 (upI (F 23) sd 0)) 24 (upI (F 24) sd 0)) 21 (upI (F 21) sd (vp_nar .boolean (iz 1)).toInt)) 22 (upI (upI (F 22) sd (-1)) sd 1)) 23 (upI (upI (F 23) sd 0) sd ((20 * p0) + pz))) 24 (upI (upI (F 24) sd 0) sd (en - pz))) 20 (upI (upI (F 20) sd pa) sd en))) H := hP
                                have hD : va_D A (mW mo ma cs I (va_up (va_up (va_up (va_up (va_up (va_up (va_up (va_up (va_up F 20 (upI (F 20) sd pa)) 22 (upI (F 22) sd (-1))) 23 (upI (F 23) sd 0)) 24 (upI (F 24) sd 0)) 21 (upI (F 21) sd (vp_nar .boolean (iz 1)).toInt)) 22 (upI (upI (F 22) sd (-1)) sd 1)) 23 (upI (upI (F 23) sd 0) sd ((20 * p0) + pz))) 24 (upI (upI (F 24) sd 0) sd (en - pz))) 20 (upI (upI (F 20) sd pa) sd en))) := hD
                                have ev20 : (va_up (va_up (va_up (va_up (va_up (va_up (va_up (va_up (va_up F 20 (upI (F 20) sd pa)) 22 (upI (F 22) sd (-1))) 23 (upI (F 23) sd 0)) 24 (upI (F 24) sd 0)) 21 (upI (F 21) sd (vp_nar .boolean (iz 1)).toInt)) 22 (upI (upI (F 22) sd (-1)) sd 1)) 23 (upI (upI (F 23) sd 0) sd ((20 * p0) + pz))) 24 (upI (upI (F 24) sd 0) sd (en - pz))) 20 (upI (upI (F 20) sd pa) sd en)) 20 sd = en := upI_self _ _ _
                                have ev21 : (va_up (va_up (va_up (va_up (va_up (va_up (va_up (va_up (va_up F 20 (upI (F 20) sd pa)) 22 (upI (F 22) sd (-1))) 23 (upI (F 23) sd 0)) 24 (upI (F 24) sd 0)) 21 (upI (F 21) sd (vp_nar .boolean (iz 1)).toInt)) 22 (upI (upI (F 22) sd (-1)) sd 1)) 23 (upI (upI (F 23) sd 0) sd ((20 * p0) + pz))) 24 (upI (upI (F 24) sd 0) sd (en - pz))) 20 (upI (upI (F 20) sd pa) sd en)) 21 sd = (vp_nar .boolean (iz 1)).toInt := upI_self _ _ _
                                have ev22 : (va_up (va_up (va_up (va_up (va_up (va_up (va_up (va_up (va_up F 20 (upI (F 20) sd pa)) 22 (upI (F 22) sd (-1))) 23 (upI (F 23) sd 0)) 24 (upI (F 24) sd 0)) 21 (upI (F 21) sd (vp_nar .boolean (iz 1)).toInt)) 22 (upI (upI (F 22) sd (-1)) sd 1)) 23 (upI (upI (F 23) sd 0) sd ((20 * p0) + pz))) 24 (upI (upI (F 24) sd 0) sd (en - pz))) 20 (upI (upI (F 20) sd pa) sd en)) 22 sd = 1 := upI_self _ _ _
                                have ev23 : (va_up (va_up (va_up (va_up (va_up (va_up (va_up (va_up (va_up F 20 (upI (F 20) sd pa)) 22 (upI (F 22) sd (-1))) 23 (upI (F 23) sd 0)) 24 (upI (F 24) sd 0)) 21 (upI (F 21) sd (vp_nar .boolean (iz 1)).toInt)) 22 (upI (upI (F 22) sd (-1)) sd 1)) 23 (upI (upI (F 23) sd 0) sd ((20 * p0) + pz))) 24 (upI (upI (F 24) sd 0) sd (en - pz))) 20 (upI (upI (F 20) sd pa) sd en)) 23 sd = ((20 * p0) + pz) := upI_self _ _ _
                                have ev24 : (va_up (va_up (va_up (va_up (va_up (va_up (va_up (va_up (va_up F 20 (upI (F 20) sd pa)) 22 (upI (F 22) sd (-1))) 23 (upI (F 23) sd 0)) 24 (upI (F 24) sd 0)) 21 (upI (F 21) sd (vp_nar .boolean (iz 1)).toInt)) 22 (upI (upI (F 22) sd (-1)) sd 1)) 23 (upI (upI (F 23) sd 0) sd ((20 * p0) + pz))) 24 (upI (upI (F 24) sd 0) sd (en - pz))) 20 (upI (upI (F 20) sd pa) sd en)) 24 sd = (en - pz) := upI_self _ _ _
                                have ezn0 : (vp_nar .boolean (iz 1)).toInt = 1 := by decide
                                have e_78 : (va_up (va_up (va_up (va_up (va_up (va_up (va_up (va_up (va_up F 20 (upI (F 20) sd pa)) 22 (upI (F 22) sd (-1))) 23 (upI (F 23) sd 0)) 24 (upI (F 24) sd 0)) 21 (upI (F 21) sd (vp_nar .boolean (iz 1)).toInt)) 22 (upI (upI (F 22) sd (-1)) sd 1)) 23 (upI (upI (F 23) sd 0) sd ((20 * p0) + pz))) 24 (upI (upI (F 24) sd 0) sd (en - pz))) 20 (upI (upI (F 20) sd pa) sd en)) 20 sd = en := upI_self _ _ _
                                have e_79 : (va_up (va_up (va_up (va_up (va_up (va_up (va_up (va_up (va_up F 20 (upI (F 20) sd pa)) 22 (upI (F 22) sd (-1))) 23 (upI (F 23) sd 0)) 24 (upI (F 24) sd 0)) 21 (upI (F 21) sd (vp_nar .boolean (iz 1)).toInt)) 22 (upI (upI (F 22) sd (-1)) sd 1)) 23 (upI (upI (F 23) sd 0) sd ((20 * p0) + pz))) 24 (upI (upI (F 24) sd 0) sd (en - pz))) 20 (upI (upI (F 20) sd pa) sd en)) 22 sd = 1 := upI_self _ _ _
                                have e_80 : (va_up (va_up (va_up (va_up (va_up (va_up (va_up (va_up (va_up F 20 (upI (F 20) sd pa)) 22 (upI (F 22) sd (-1))) 23 (upI (F 23) sd 0)) 24 (upI (F 24) sd 0)) 21 (upI (F 21) sd (vp_nar .boolean (iz 1)).toInt)) 22 (upI (upI (F 22) sd (-1)) sd 1)) 23 (upI (upI (F 23) sd 0) sd ((20 * p0) + pz))) 24 (upI (upI (F 24) sd 0) sd (en - pz))) 20 (upI (upI (F 20) sd pa) sd en)) 23 sd = (20 * p0) + pz := upI_self _ _ _
                                have e_81 : (va_up (va_up (va_up (va_up (va_up (va_up (va_up (va_up (va_up F 20 (upI (F 20) sd pa)) 22 (upI (F 22) sd (-1))) 23 (upI (F 23) sd 0)) 24 (upI (F 24) sd 0)) 21 (upI (F 21) sd (vp_nar .boolean (iz 1)).toInt)) 22 (upI (upI (F 22) sd (-1)) sd 1)) 23 (upI (upI (F 23) sd 0) sd ((20 * p0) + pz))) 24 (upI (upI (F 24) sd 0) sd (en - pz))) 20 (upI (upI (F 20) sd pa) sd en)) 24 sd = en - pz := upI_self _ _ _
                                have e_82 : (va_up (va_up (va_up (va_up (va_up (va_up (va_up (va_up (va_up F 20 (upI (F 20) sd pa)) 22 (upI (F 22) sd (-1))) 23 (upI (F 23) sd 0)) 24 (upI (F 24) sd 0)) 21 (upI (F 21) sd (vp_nar .boolean (iz 1)).toInt)) 22 (upI (upI (F 22) sd (-1)) sd 1)) 23 (upI (upI (F 23) sd 0) sd ((20 * p0) + pz))) 24 (upI (upI (F 24) sd 0) sd (en - pz))) 20 (upI (upI (F 20) sd pa) sd en)) 21 sd = (vp_nar .boolean (iz 1)).toInt := upI_self _ _ _
                                rw [← hQe]
                                exact mk_ret hx hb hr hlocks hP hD hK hS dX6_step_299 (⟨rfl, (mB_f (mB_f (mB_f (mB_f (mB_f (mB_f (mB_f (mB_f (mB_f hB 20 sd (by omega) (by omega)) 22 sd (by omega) (by omega)) 23 sd (by omega) (by omega)) 24 sd (by omega) (by omega)) 21 sd (iz_lo _) (iz_hi _)) 22 sd (by omega) (by omega)) 23 sd (by omega) (by omega)) 24 sd (by omega) (by omega)) 20 sd (by omega) (by omega)), (mfr.upF (mfr.upF (mfr.upF (mfr.upF (mfr.upF (mfr.upF (mfr.upF (mfr.upF (mfr.upF mfr.rf (by decide) _) (by decide) _) (by decide) _) (by decide) _) (by decide) _) (by decide) _) (by decide) _) (by decide) _) (by decide) _), (mo1.up (mo1.up (mo1.up (mo1.up (mo1.up (mo1.up (mo1.up (mo1.up (mo1.up mo1.rf 20 _) 22 _) 23 _) 24 _) 21 _) 22 _) 23 _) 24 _) 20 _), by omega, by omega, by omega, by rw [ev22, ev23, ev24]; exact Or.inr (Or.inr (Or.inl ⟨rfl, by omega, by omega⟩)), by rw [ev21]; exact Or.inr ezn0, by omega, by rw [ev20]; exact hboE, by rw [ev22, ev23, ev24, ev20, ev21, ezn0, kf_eu_num (f := kf_sg F p0) (fun i => rfl) hkzE]; exact hnum⟩)
                              · skip
                                refine lv_aload_n hx hb dX6_step_240 rfl (lv_at hl 4 rfl) ?_
                                refine va_get (D := (dC, dI)) (ci := 6) (v := .ref (ma 4)) (C := RX6) (T := TX6) (N := 44) hx hb hts kt_X6 hown hK hP 0 rfl rfl 4 (by decide) (kx_word hG kq_04_msmall_16 rfl) (fun _ h9 => h9) rfl dX6_step_241 ?_
                                refine lv_bipush (v := iz 20) hx hb dX6_step_244 (by decide) ?_
                                refine lv_iload_n hx hb dX6_step_246 rfl (lv_at hl 6 rfl) ?_
                                refine ki_imul hx hb dX6_step_247 ?_
                                refine lv_iload_n hx hb dX6_step_248 rfl (lv_at hl 3 rfl) ?_
                                refine ki_iadd hx hb dX6_step_249 ?_
                                refine ki_iald (F := F 4) hx hb hK hP 3 2 rfl rfl (by omega) (by omega) (by decide) dX6_step_250 ?_
                                have hbd_83 := hB.2 4 ((20 * p0) + pz)
                                refine ki_is (show iz (F 4 ((20 * p0) + pz)) = iz (kf_sg F p0 pz) from rfl) ?_
                                have hsk_84 := hsg pz (by omega) (by omega)
                                refine lv_bipush (v := iz 48) hx hb dX6_step_251 (by decide) ?_
                                refine ki_icmp_ne (tgt := 262) hx hb dX6_step_253 (by decide) (by omega) (by omega) (by omega) (by omega) (fun c_85 => ?_) (fun c_85 => ?_)
                                · skip
                                  have hkzE : kf_kz (kf_sg F p0) en (en - pa).toNat pa = pz := hkz.trans (kf_kz_stop (by omega))
                                  refine lv_aload_n hx hb dX6_step_262 rfl (lv_at hl 4 rfl) ?_
                                  refine va_get (D := (dC, dI)) (ci := 6) (v := .ref (ma 22)) (C := RX6) (T := TX6) (N := 44) hx hb hts kt_X6 hown hK hP 0 rfl rfl 22 (by decide) (kx_word hG kq_05_morder_2 rfl) (fun _ h9 => h9) rfl dX6_step_263 ?_
                                  refine lv_iload_n hx hb dX6_step_266 rfl (lv_at hl 5 rfl) ?_
                                  refine lv_iconst (v := iz 1) hx hb dX6_step_267 (by decide) ?_
                                  refine ki_iast (F := upI (F 22) sd (-1)) hx hb hK hP hD hS 17 16 rfl rfl (by omega) (by omega) (by decide) dX6_step_268 (fun H locs hP hD hS => ?_)
                                  have hP : va_P (dC, dI) kxCl (mW mo ma cs I (va_up (va_up (va_up (va_up (va_up (va_up F 20 (upI (F 20) sd pa)) 22 (upI (F 22) sd (-1))) 23 (upI (F 23) sd 0)) 24 (upI (F 24) sd 0)) 21 (upI (F 21) sd (vp_nar .boolean (iz 1)).toInt)) 22 (upI (upI (F 22) sd (-1)) sd 1))) H := hP
                                  have hD : va_D A (mW mo ma cs I (va_up (va_up (va_up (va_up (va_up (va_up F 20 (upI (F 20) sd pa)) 22 (upI (F 22) sd (-1))) 23 (upI (F 23) sd 0)) 24 (upI (F 24) sd 0)) 21 (upI (F 21) sd (vp_nar .boolean (iz 1)).toInt)) 22 (upI (upI (F 22) sd (-1)) sd 1))) := hD
                                  refine lv_aload_n hx hb dX6_step_269 rfl (lv_at hl 4 rfl) ?_
                                  refine va_get (D := (dC, dI)) (ci := 6) (v := .ref (ma 23)) (C := RX6) (T := TX6) (N := 44) hx hb hts kt_X6 hown hK hP 0 rfl rfl 23 (by decide) (kx_word hG kq_05_morder_3 rfl) (fun _ h9 => h9) rfl dX6_step_270 ?_
                                  refine lv_iload_n hx hb dX6_step_273 rfl (lv_at hl 5 rfl) ?_
                                  refine lv_bipush (v := iz 20) hx hb dX6_step_274 (by decide) ?_
                                  refine lv_iload_n hx hb dX6_step_276 rfl (lv_at hl 6 rfl) ?_
                                  refine ki_imul hx hb dX6_step_277 ?_
                                  refine lv_iload_n hx hb dX6_step_278 rfl (lv_at hl 3 rfl) ?_
                                  refine ki_iadd hx hb dX6_step_279 ?_
                                  refine ki_iast (F := upI (F 23) sd 0) hx hb hK hP hD hS 18 17 rfl rfl (by omega) (by omega) (by decide) dX6_step_280 (fun H locs hP hD hS => ?_)
                                  have hP : va_P (dC, dI) kxCl (mW mo ma cs I (va_up (va_up (va_up (va_up (va_up (va_up (va_up F 20 (upI (F 20) sd pa)) 22 (upI (F 22) sd (-1))) 23 (upI (F 23) sd 0)) 24 (upI (F 24) sd 0)) 21 (upI (F 21) sd (vp_nar .boolean (iz 1)).toInt)) 22 (upI (upI (F 22) sd (-1)) sd 1)) 23 (upI (upI (F 23) sd 0) sd ((20 * p0) + pz)))) H := hP
                                  have hD : va_D A (mW mo ma cs I (va_up (va_up (va_up (va_up (va_up (va_up (va_up F 20 (upI (F 20) sd pa)) 22 (upI (F 22) sd (-1))) 23 (upI (F 23) sd 0)) 24 (upI (F 24) sd 0)) 21 (upI (F 21) sd (vp_nar .boolean (iz 1)).toInt)) 22 (upI (upI (F 22) sd (-1)) sd 1)) 23 (upI (upI (F 23) sd 0) sd ((20 * p0) + pz)))) := hD
                                  refine lv_aload_n hx hb dX6_step_281 rfl (lv_at hl 4 rfl) ?_
                                  refine va_get (D := (dC, dI)) (ci := 6) (v := .ref (ma 24)) (C := RX6) (T := TX6) (N := 44) hx hb hts kt_X6 hown hK hP 0 rfl rfl 24 (by decide) (kx_word hG kq_05_morder_4 rfl) (fun _ h9 => h9) rfl dX6_step_282 ?_
                                  refine lv_iload_n hx hb dX6_step_285 rfl (lv_at hl 5 rfl) ?_
                                  refine lv_iload hx hb dX6_step_286 (lv_at hl 0 rfl) ?_
                                  refine lv_iload_n hx hb dX6_step_288 rfl (lv_at hl 3 rfl) ?_
                                  refine ki_isub hx hb dX6_step_289 ?_
                                  refine ki_iast (F := upI (F 24) sd 0) hx hb hK hP hD hS 19 18 rfl rfl (by omega) (by omega) (by decide) dX6_step_290 (fun H locs hP hD hS => ?_)
                                  have hP : va_P (dC, dI) kxCl (mW mo ma cs I (va_up (va_up (va_up (va_up (va_up (va_up (va_up (va_up F 20 (upI (F 20) sd pa)) 22 (upI (F 22) sd (-1))) 23 (upI (F 23) sd 0)) 24 (upI (F 24) sd 0)) 21 (upI (F 21) sd (vp_nar .boolean (iz 1)).toInt)) 22 (upI (upI (F 22) sd (-1)) sd 1)) 23 (upI (upI (F 23) sd 0) sd ((20 * p0) + pz))) 24 (upI (upI (F 24) sd 0) sd (en - pz)))) H := hP
                                  have hD : va_D A (mW mo ma cs I (va_up (va_up (va_up (va_up (va_up (va_up (va_up (va_up F 20 (upI (F 20) sd pa)) 22 (upI (F 22) sd (-1))) 23 (upI (F 23) sd 0)) 24 (upI (F 24) sd 0)) 21 (upI (F 21) sd (vp_nar .boolean (iz 1)).toInt)) 22 (upI (upI (F 22) sd (-1)) sd 1)) 23 (upI (upI (F 23) sd 0) sd ((20 * p0) + pz))) 24 (upI (upI (F 24) sd 0) sd (en - pz)))) := hD
                                  refine lv_aload_n hx hb dX6_step_291 rfl (lv_at hl 4 rfl) ?_
                                  refine va_get (D := (dC, dI)) (ci := 6) (v := .ref (ma 20)) (C := RX6) (T := TX6) (N := 44) hx hb hts kt_X6 hown hK hP 0 rfl rfl 20 (by decide) (kx_word hG kq_05_morder_0 rfl) (fun _ h9 => h9) rfl dX6_step_292 ?_
                                  refine lv_iload_n hx hb dX6_step_295 rfl (lv_at hl 5 rfl) ?_
                                  refine lv_iload hx hb dX6_step_296 (lv_at hl 0 rfl) ?_
                                  refine ki_iast (F := upI (F 20) sd pa) hx hb hK hP hD hS 15 14 rfl rfl (by omega) (by omega) (by decide) dX6_step_298 (fun H locs hP hD hS => ?_)
                                  have hP : va_P (dC, dI) kxCl (mW mo ma cs I (va_up (va_up (va_up (va_up (va_up (va_up (va_up (va_up (va_up F 20 (upI (F 20) sd pa)) 22 (upI (F 22) sd (-1))) 23 (upI (F 23) sd 0)) 24 (upI (F 24) sd 0)) 21 (upI (F 21) sd (vp_nar .boolean (iz 1)).toInt)) 22 (upI (upI (F 22) sd (-1)) sd 1)) 23 (upI (upI (F 23) sd 0) sd ((20 * p0) + pz))) 24 (upI (upI (F 24) sd 0) sd (en - pz))) 20 (upI (upI (F 20) sd pa) sd en))) H := hP
                                  have hD : va_D A (mW mo ma cs I (va_up (va_up (va_up (va_up (va_up (va_up (va_up (va_up (va_up F 20 (upI (F 20) sd pa)) 22 (upI (F 22) sd (-1))) 23 (upI (F 23) sd 0)) 24 (upI (F 24) sd 0)) 21 (upI (F 21) sd (vp_nar .boolean (iz 1)).toInt)) 22 (upI (upI (F 22) sd (-1)) sd 1)) 23 (upI (upI (F 23) sd 0) sd ((20 * p0) + pz))) 24 (upI (upI (F 24) sd 0) sd (en - pz))) 20 (upI (upI (F 20) sd pa) sd en))) := hD
                                  have ev20 : (va_up (va_up (va_up (va_up (va_up (va_up (va_up (va_up (va_up F 20 (upI (F 20) sd pa)) 22 (upI (F 22) sd (-1))) 23 (upI (F 23) sd 0)) 24 (upI (F 24) sd 0)) 21 (upI (F 21) sd (vp_nar .boolean (iz 1)).toInt)) 22 (upI (upI (F 22) sd (-1)) sd 1)) 23 (upI (upI (F 23) sd 0) sd ((20 * p0) + pz))) 24 (upI (upI (F 24) sd 0) sd (en - pz))) 20 (upI (upI (F 20) sd pa) sd en)) 20 sd = en := upI_self _ _ _
                                  have ev21 : (va_up (va_up (va_up (va_up (va_up (va_up (va_up (va_up (va_up F 20 (upI (F 20) sd pa)) 22 (upI (F 22) sd (-1))) 23 (upI (F 23) sd 0)) 24 (upI (F 24) sd 0)) 21 (upI (F 21) sd (vp_nar .boolean (iz 1)).toInt)) 22 (upI (upI (F 22) sd (-1)) sd 1)) 23 (upI (upI (F 23) sd 0) sd ((20 * p0) + pz))) 24 (upI (upI (F 24) sd 0) sd (en - pz))) 20 (upI (upI (F 20) sd pa) sd en)) 21 sd = (vp_nar .boolean (iz 1)).toInt := upI_self _ _ _
                                  have ev22 : (va_up (va_up (va_up (va_up (va_up (va_up (va_up (va_up (va_up F 20 (upI (F 20) sd pa)) 22 (upI (F 22) sd (-1))) 23 (upI (F 23) sd 0)) 24 (upI (F 24) sd 0)) 21 (upI (F 21) sd (vp_nar .boolean (iz 1)).toInt)) 22 (upI (upI (F 22) sd (-1)) sd 1)) 23 (upI (upI (F 23) sd 0) sd ((20 * p0) + pz))) 24 (upI (upI (F 24) sd 0) sd (en - pz))) 20 (upI (upI (F 20) sd pa) sd en)) 22 sd = 1 := upI_self _ _ _
                                  have ev23 : (va_up (va_up (va_up (va_up (va_up (va_up (va_up (va_up (va_up F 20 (upI (F 20) sd pa)) 22 (upI (F 22) sd (-1))) 23 (upI (F 23) sd 0)) 24 (upI (F 24) sd 0)) 21 (upI (F 21) sd (vp_nar .boolean (iz 1)).toInt)) 22 (upI (upI (F 22) sd (-1)) sd 1)) 23 (upI (upI (F 23) sd 0) sd ((20 * p0) + pz))) 24 (upI (upI (F 24) sd 0) sd (en - pz))) 20 (upI (upI (F 20) sd pa) sd en)) 23 sd = ((20 * p0) + pz) := upI_self _ _ _
                                  have ev24 : (va_up (va_up (va_up (va_up (va_up (va_up (va_up (va_up (va_up F 20 (upI (F 20) sd pa)) 22 (upI (F 22) sd (-1))) 23 (upI (F 23) sd 0)) 24 (upI (F 24) sd 0)) 21 (upI (F 21) sd (vp_nar .boolean (iz 1)).toInt)) 22 (upI (upI (F 22) sd (-1)) sd 1)) 23 (upI (upI (F 23) sd 0) sd ((20 * p0) + pz))) 24 (upI (upI (F 24) sd 0) sd (en - pz))) 20 (upI (upI (F 20) sd pa) sd en)) 24 sd = (en - pz) := upI_self _ _ _
                                  have ezn0 : (vp_nar .boolean (iz 1)).toInt = 1 := by decide
                                  have e_86 : (va_up (va_up (va_up (va_up (va_up (va_up (va_up (va_up (va_up F 20 (upI (F 20) sd pa)) 22 (upI (F 22) sd (-1))) 23 (upI (F 23) sd 0)) 24 (upI (F 24) sd 0)) 21 (upI (F 21) sd (vp_nar .boolean (iz 1)).toInt)) 22 (upI (upI (F 22) sd (-1)) sd 1)) 23 (upI (upI (F 23) sd 0) sd ((20 * p0) + pz))) 24 (upI (upI (F 24) sd 0) sd (en - pz))) 20 (upI (upI (F 20) sd pa) sd en)) 20 sd = en := upI_self _ _ _
                                  have e_87 : (va_up (va_up (va_up (va_up (va_up (va_up (va_up (va_up (va_up F 20 (upI (F 20) sd pa)) 22 (upI (F 22) sd (-1))) 23 (upI (F 23) sd 0)) 24 (upI (F 24) sd 0)) 21 (upI (F 21) sd (vp_nar .boolean (iz 1)).toInt)) 22 (upI (upI (F 22) sd (-1)) sd 1)) 23 (upI (upI (F 23) sd 0) sd ((20 * p0) + pz))) 24 (upI (upI (F 24) sd 0) sd (en - pz))) 20 (upI (upI (F 20) sd pa) sd en)) 22 sd = 1 := upI_self _ _ _
                                  have e_88 : (va_up (va_up (va_up (va_up (va_up (va_up (va_up (va_up (va_up F 20 (upI (F 20) sd pa)) 22 (upI (F 22) sd (-1))) 23 (upI (F 23) sd 0)) 24 (upI (F 24) sd 0)) 21 (upI (F 21) sd (vp_nar .boolean (iz 1)).toInt)) 22 (upI (upI (F 22) sd (-1)) sd 1)) 23 (upI (upI (F 23) sd 0) sd ((20 * p0) + pz))) 24 (upI (upI (F 24) sd 0) sd (en - pz))) 20 (upI (upI (F 20) sd pa) sd en)) 23 sd = (20 * p0) + pz := upI_self _ _ _
                                  have e_89 : (va_up (va_up (va_up (va_up (va_up (va_up (va_up (va_up (va_up F 20 (upI (F 20) sd pa)) 22 (upI (F 22) sd (-1))) 23 (upI (F 23) sd 0)) 24 (upI (F 24) sd 0)) 21 (upI (F 21) sd (vp_nar .boolean (iz 1)).toInt)) 22 (upI (upI (F 22) sd (-1)) sd 1)) 23 (upI (upI (F 23) sd 0) sd ((20 * p0) + pz))) 24 (upI (upI (F 24) sd 0) sd (en - pz))) 20 (upI (upI (F 20) sd pa) sd en)) 24 sd = en - pz := upI_self _ _ _
                                  have e_90 : (va_up (va_up (va_up (va_up (va_up (va_up (va_up (va_up (va_up F 20 (upI (F 20) sd pa)) 22 (upI (F 22) sd (-1))) 23 (upI (F 23) sd 0)) 24 (upI (F 24) sd 0)) 21 (upI (F 21) sd (vp_nar .boolean (iz 1)).toInt)) 22 (upI (upI (F 22) sd (-1)) sd 1)) 23 (upI (upI (F 23) sd 0) sd ((20 * p0) + pz))) 24 (upI (upI (F 24) sd 0) sd (en - pz))) 20 (upI (upI (F 20) sd pa) sd en)) 21 sd = (vp_nar .boolean (iz 1)).toInt := upI_self _ _ _
                                  rw [← hQe]
                                  exact mk_ret hx hb hr hlocks hP hD hK hS dX6_step_299 (⟨rfl, (mB_f (mB_f (mB_f (mB_f (mB_f (mB_f (mB_f (mB_f (mB_f hB 20 sd (by omega) (by omega)) 22 sd (by omega) (by omega)) 23 sd (by omega) (by omega)) 24 sd (by omega) (by omega)) 21 sd (iz_lo _) (iz_hi _)) 22 sd (by omega) (by omega)) 23 sd (by omega) (by omega)) 24 sd (by omega) (by omega)) 20 sd (by omega) (by omega)), (mfr.upF (mfr.upF (mfr.upF (mfr.upF (mfr.upF (mfr.upF (mfr.upF (mfr.upF (mfr.upF mfr.rf (by decide) _) (by decide) _) (by decide) _) (by decide) _) (by decide) _) (by decide) _) (by decide) _) (by decide) _) (by decide) _), (mo1.up (mo1.up (mo1.up (mo1.up (mo1.up (mo1.up (mo1.up (mo1.up (mo1.up mo1.rf 20 _) 22 _) 23 _) 24 _) 21 _) 22 _) 23 _) 24 _) 20 _), by omega, by omega, by omega, by rw [ev22, ev23, ev24]; exact Or.inr (Or.inr (Or.inl ⟨rfl, by omega, by omega⟩)), by rw [ev21]; exact Or.inr ezn0, by omega, by rw [ev20]; exact hboE, by rw [ev22, ev23, ev24, ev20, ev21, ezn0, kf_eu_num (f := kf_sg F p0) (fun i => rfl) hkzE]; exact hnum⟩)
                                · skip
                                  refine lv_iinc (v := iz (pz + 1)) (lv' := [(3, .int (iz (pz + 1))), (6, .int (iz en)), (5, .int (iz (kf_sg F p0 pa))), (4, .int (iz ps)), (0, .ref mo), (1, .int (iz sd)), (2, .int (iz p0))]) hx hb dX6_step_256 hl (k := 3) rfl (iz_add pz 1) (by decide) rfl (fun ls hl => ?_)
                                  refine lv_goto (tgt := 234) hx hb dX6_step_259 (by decide) ?_
                                  exact ih234 (pz + 1) ⟨by omega, hkz.trans (kf_kz_step (by omega) (by omega))⟩ (by omega) _ _ hP hD hS ls (lv_sub hl [1, 2, 3, 0, 4, 5, 6] rfl)
                          exact lp234 _ pa ⟨by omega, rfl⟩ (Nat.lt_succ_self _) _ _ hP hD hS ls (lv_sub hl [0, 1, 2, 3, 4, 5, 6] rfl)
                        · skip
                          refine lv_iload hx hb dX6_step_199 (lv_at hl 0 rfl) ?_
                          refine lv_aload_n hx hb dX6_step_201 rfl (lv_at hl 4 rfl) ?_
                          refine va_get (D := (dC, dI)) (ci := 6) (v := .ref (ma 5)) (C := RX6) (T := TX6) (N := 44) hx hb hts kt_X6 hown hK hP 0 rfl rfl 5 (by decide) (kx_word hG kq_04_msmall_15 rfl) (fun _ h9 => h9) rfl dX6_step_202 ?_
                          refine lv_iload_n hx hb dX6_step_205 rfl (lv_at hl 6 rfl) ?_
                          refine ki_iald (F := F 5) hx hb hK hP 4 3 rfl rfl (by omega) (by omega) (by decide) dX6_step_206 ?_
                          refine ki_icmp_ge (tgt := 234) hx hb dX6_step_207 (by decide) (by omega) (by omega) (by omega) (by omega) (fun c_91 => ?_) (fun c_91 => ?_)
                          · skip
                            have hkeE : ¬ I 14 = 0 → kf_ke (kf_sg F p0) (F 5 p0) (F 5 p0 - pa).toNat pa = en := fun h9 => (hke h9).trans (kf_ke_stop (by omega))
                            have hen1 : I 14 = 0 → en = pa + 1 := fun h9 => by rcases hen0 with h8 | h8; exact h8; exact absurd h9 h8
                            have hnum : kf_kI (kf_sg F p0) (F 5 p0) (I 14) (I 15) (F 20 sd) 0 (F 21 sd) = kf_kn (kf_sg F p0) pa en ++ kf_kI (kf_sg F p0) (F 5 p0) (I 14) (I 15) en 0 1 := by by_cases h9 : I 14 = 0; rw [hen1 h9]; exact hK0.trans (kf_kI_one (kf_sg F p0) (F 5 p0) (I 14) (I 15) pa 0 (F 21 sd) 1 (by omega) hkd h9 rfl (by omega)); have h7 := hK0.trans (kf_kI_whole (kf_sg F p0) (F 5 p0) (I 14) (I 15) pa 0 (F 21 sd) 1 (by omega) (by omega) hkd h9 (hbo2 h9) rfl (by omega)); rw [hkeE h9] at h7; exact h7
                            have hboE : kf_kbo (kf_sg F p0) (F 5 p0) (I 14) en := by by_cases h9 : I 14 = 0; exact Or.inl h9; exact Or.inr (fun h7 => by have h6 := (kf_ke_run (kf_sg F p0) (F 5 p0) (F 5 p0 - pa).toNat pa (by omega) (Nat.le_refl _)).2; rw [hkeE h9] at h6; exact h6 h7.1 h7.2.2.1)
                            have lp234 : ∀ (n : Nat) (pz : Int), ((pa ≤ pz ∧ pz ≤ en) ∧ (kf_kz (kf_sg F p0) en (en - pa).toNat pa = kf_kz (kf_sg F p0) en (en - pz).toNat pz)) → (en - pz).toNat < n → ∀ (H : Heap) (locs : List Loc), va_P (dC, dI) kxCl (mW mo ma cs I (va_up (va_up (va_up (va_up (va_up F 20 (upI (F 20) sd pa)) 22 (upI (F 22) sd (-1))) 23 (upI (F 23) sd 0)) 24 (upI (F 24) sd 0)) 21 (upI (F 21) sd (vp_nar .boolean (iz 1)).toInt))) H → va_D A (mW mo ma cs I (va_up (va_up (va_up (va_up (va_up F 20 (upI (F 20) sd pa)) 22 (upI (F 22) sd (-1))) 23 (upI (F 23) sd 0)) 24 (upI (F 24) sd 0)) 21 (upI (F 21) sd (vp_nar .boolean (iz 1)).toInt))) → va_S A s.heap H locs → ∀ ls : Array Slot, lv_has ls 7 [(6, .int (iz en)), (5, .int (iz (kf_sg F p0 pa))), (4, .int (iz ps)), (3, .int (iz pz)), (0, .ref mo), (1, .int (iz sd)), (2, .int (iz p0))] → W p l e (headSpec [.code yX6_step cX6_step 7 none] ({ frames := 1, cells := 0, slots := 0, locals := 21 })).room s m ([.ref mo, .int (iz sd), .int (iz p0)] : List Value).toArray below meth c H locs 0 0 QQ (F0 m 234 ls []) := by
                              intro n
                              induction n with
                              | zero => intro pz hinv hm; exact absurd hm (Nat.not_lt_zero _)
                              | succ n ih234 =>
                                intro pz hinv hm H locs hP hD hS ls hl
                                obtain ⟨hpz, hkz⟩ := hinv
                                refine lv_iload_n hx hb dX6_step_234 rfl (lv_at hl 3 rfl) ?_
                                refine lv_iload hx hb dX6_step_235 (lv_at hl 0 rfl) ?_
                                refine ki_icmp_ge (tgt := 262) hx hb dX6_step_237 (by decide) (by omega) (by omega) (by omega) (by omega) (fun c_92 => ?_) (fun c_92 => ?_)
                                · skip
                                  have hkzE : kf_kz (kf_sg F p0) en (en - pa).toNat pa = pz := hkz.trans (kf_kz_stop (by omega))
                                  refine lv_aload_n hx hb dX6_step_262 rfl (lv_at hl 4 rfl) ?_
                                  refine va_get (D := (dC, dI)) (ci := 6) (v := .ref (ma 22)) (C := RX6) (T := TX6) (N := 44) hx hb hts kt_X6 hown hK hP 0 rfl rfl 22 (by decide) (kx_word hG kq_05_morder_2 rfl) (fun _ h9 => h9) rfl dX6_step_263 ?_
                                  refine lv_iload_n hx hb dX6_step_266 rfl (lv_at hl 5 rfl) ?_
                                  refine lv_iconst (v := iz 1) hx hb dX6_step_267 (by decide) ?_
                                  refine ki_iast (F := upI (F 22) sd (-1)) hx hb hK hP hD hS 17 16 rfl rfl (by omega) (by omega) (by decide) dX6_step_268 (fun H locs hP hD hS => ?_)
                                  have hP : va_P (dC, dI) kxCl (mW mo ma cs I (va_up (va_up (va_up (va_up (va_up (va_up F 20 (upI (F 20) sd pa)) 22 (upI (F 22) sd (-1))) 23 (upI (F 23) sd 0)) 24 (upI (F 24) sd 0)) 21 (upI (F 21) sd (vp_nar .boolean (iz 1)).toInt)) 22 (upI (upI (F 22) sd (-1)) sd 1))) H := hP
                                  have hD : va_D A (mW mo ma cs I (va_up (va_up (va_up (va_up (va_up (va_up F 20 (upI (F 20) sd pa)) 22 (upI (F 22) sd (-1))) 23 (upI (F 23) sd 0)) 24 (upI (F 24) sd 0)) 21 (upI (F 21) sd (vp_nar .boolean (iz 1)).toInt)) 22 (upI (upI (F 22) sd (-1)) sd 1))) := hD
                                  refine lv_aload_n hx hb dX6_step_269 rfl (lv_at hl 4 rfl) ?_
                                  refine va_get (D := (dC, dI)) (ci := 6) (v := .ref (ma 23)) (C := RX6) (T := TX6) (N := 44) hx hb hts kt_X6 hown hK hP 0 rfl rfl 23 (by decide) (kx_word hG kq_05_morder_3 rfl) (fun _ h9 => h9) rfl dX6_step_270 ?_
                                  refine lv_iload_n hx hb dX6_step_273 rfl (lv_at hl 5 rfl) ?_
                                  refine lv_bipush (v := iz 20) hx hb dX6_step_274 (by decide) ?_
                                  refine lv_iload_n hx hb dX6_step_276 rfl (lv_at hl 6 rfl) ?_
                                  refine ki_imul hx hb dX6_step_277 ?_
                                  refine lv_iload_n hx hb dX6_step_278 rfl (lv_at hl 3 rfl) ?_
                                  refine ki_iadd hx hb dX6_step_279 ?_
                                  refine ki_iast (F := upI (F 23) sd 0) hx hb hK hP hD hS 18 17 rfl rfl (by omega) (by omega) (by decide) dX6_step_280 (fun H locs hP hD hS => ?_)
                                  have hP : va_P (dC, dI) kxCl (mW mo ma cs I (va_up (va_up (va_up (va_up (va_up (va_up (va_up F 20 (upI (F 20) sd pa)) 22 (upI (F 22) sd (-1))) 23 (upI (F 23) sd 0)) 24 (upI (F 24) sd 0)) 21 (upI (F 21) sd (vp_nar .boolean (iz 1)).toInt)) 22 (upI (upI (F 22) sd (-1)) sd 1)) 23 (upI (upI (F 23) sd 0) sd ((20 * p0) + pz)))) H := hP
                                  have hD : va_D A (mW mo ma cs I (va_up (va_up (va_up (va_up (va_up (va_up (va_up F 20 (upI (F 20) sd pa)) 22 (upI (F 22) sd (-1))) 23 (upI (F 23) sd 0)) 24 (upI (F 24) sd 0)) 21 (upI (F 21) sd (vp_nar .boolean (iz 1)).toInt)) 22 (upI (upI (F 22) sd (-1)) sd 1)) 23 (upI (upI (F 23) sd 0) sd ((20 * p0) + pz)))) := hD
                                  refine lv_aload_n hx hb dX6_step_281 rfl (lv_at hl 4 rfl) ?_
                                  refine va_get (D := (dC, dI)) (ci := 6) (v := .ref (ma 24)) (C := RX6) (T := TX6) (N := 44) hx hb hts kt_X6 hown hK hP 0 rfl rfl 24 (by decide) (kx_word hG kq_05_morder_4 rfl) (fun _ h9 => h9) rfl dX6_step_282 ?_
                                  refine lv_iload_n hx hb dX6_step_285 rfl (lv_at hl 5 rfl) ?_
                                  refine lv_iload hx hb dX6_step_286 (lv_at hl 0 rfl) ?_
                                  refine lv_iload_n hx hb dX6_step_288 rfl (lv_at hl 3 rfl) ?_
                                  refine ki_isub hx hb dX6_step_289 ?_
                                  refine ki_iast (F := upI (F 24) sd 0) hx hb hK hP hD hS 19 18 rfl rfl (by omega) (by omega) (by decide) dX6_step_290 (fun H locs hP hD hS => ?_)
                                  have hP : va_P (dC, dI) kxCl (mW mo ma cs I (va_up (va_up (va_up (va_up (va_up (va_up (va_up (va_up F 20 (upI (F 20) sd pa)) 22 (upI (F 22) sd (-1))) 23 (upI (F 23) sd 0)) 24 (upI (F 24) sd 0)) 21 (upI (F 21) sd (vp_nar .boolean (iz 1)).toInt)) 22 (upI (upI (F 22) sd (-1)) sd 1)) 23 (upI (upI (F 23) sd 0) sd ((20 * p0) + pz))) 24 (upI (upI (F 24) sd 0) sd (en - pz)))) H := hP
                                  have hD : va_D A (mW mo ma cs I (va_up (va_up (va_up (va_up (va_up (va_up (va_up (va_up F 20 (upI (F 20) sd pa)) 22 (upI (F 22) sd (-1))) 23 (upI (F 23) sd 0)) 24 (upI (F 24) sd 0)) 21 (upI (F 21) sd (vp_nar .boolean (iz 1)).toInt)) 22 (upI (upI (F 22) sd (-1)) sd 1)) 23 (upI (upI (F 23) sd 0) sd ((20 * p0) + pz))) 24 (upI (upI (F 24) sd 0) sd (en - pz)))) := hD
                                  refine lv_aload_n hx hb dX6_step_291 rfl (lv_at hl 4 rfl) ?_
                                  refine va_get (D := (dC, dI)) (ci := 6) (v := .ref (ma 20)) (C := RX6) (T := TX6) (N := 44) hx hb hts kt_X6 hown hK hP 0 rfl rfl 20 (by decide) (kx_word hG kq_05_morder_0 rfl) (fun _ h9 => h9) rfl dX6_step_292 ?_
                                  refine lv_iload_n hx hb dX6_step_295 rfl (lv_at hl 5 rfl) ?_
                                  refine lv_iload hx hb dX6_step_296 (lv_at hl 0 rfl) ?_
                                  refine ki_iast (F := upI (F 20) sd pa) hx hb hK hP hD hS 15 14 rfl rfl (by omega) (by omega) (by decide) dX6_step_298 (fun H locs hP hD hS => ?_)
                                  have hP : va_P (dC, dI) kxCl (mW mo ma cs I (va_up (va_up (va_up (va_up (va_up (va_up (va_up (va_up (va_up F 20 (upI (F 20) sd pa)) 22 (upI (F 22) sd (-1))) 23 (upI (F 23) sd 0)) 24 (upI (F 24) sd 0)) 21 (upI (F 21) sd (vp_nar .boolean (iz 1)).toInt)) 22 (upI (upI (F 22) sd (-1)) sd 1)) 23 (upI (upI (F 23) sd 0) sd ((20 * p0) + pz))) 24 (upI (upI (F 24) sd 0) sd (en - pz))) 20 (upI (upI (F 20) sd pa) sd en))) H := hP
                                  have hD : va_D A (mW mo ma cs I (va_up (va_up (va_up (va_up (va_up (va_up (va_up (va_up (va_up F 20 (upI (F 20) sd pa)) 22 (upI (F 22) sd (-1))) 23 (upI (F 23) sd 0)) 24 (upI (F 24) sd 0)) 21 (upI (F 21) sd (vp_nar .boolean (iz 1)).toInt)) 22 (upI (upI (F 22) sd (-1)) sd 1)) 23 (upI (upI (F 23) sd 0) sd ((20 * p0) + pz))) 24 (upI (upI (F 24) sd 0) sd (en - pz))) 20 (upI (upI (F 20) sd pa) sd en))) := hD
                                  have ev20 : (va_up (va_up (va_up (va_up (va_up (va_up (va_up (va_up (va_up F 20 (upI (F 20) sd pa)) 22 (upI (F 22) sd (-1))) 23 (upI (F 23) sd 0)) 24 (upI (F 24) sd 0)) 21 (upI (F 21) sd (vp_nar .boolean (iz 1)).toInt)) 22 (upI (upI (F 22) sd (-1)) sd 1)) 23 (upI (upI (F 23) sd 0) sd ((20 * p0) + pz))) 24 (upI (upI (F 24) sd 0) sd (en - pz))) 20 (upI (upI (F 20) sd pa) sd en)) 20 sd = en := upI_self _ _ _
                                  have ev21 : (va_up (va_up (va_up (va_up (va_up (va_up (va_up (va_up (va_up F 20 (upI (F 20) sd pa)) 22 (upI (F 22) sd (-1))) 23 (upI (F 23) sd 0)) 24 (upI (F 24) sd 0)) 21 (upI (F 21) sd (vp_nar .boolean (iz 1)).toInt)) 22 (upI (upI (F 22) sd (-1)) sd 1)) 23 (upI (upI (F 23) sd 0) sd ((20 * p0) + pz))) 24 (upI (upI (F 24) sd 0) sd (en - pz))) 20 (upI (upI (F 20) sd pa) sd en)) 21 sd = (vp_nar .boolean (iz 1)).toInt := upI_self _ _ _
                                  have ev22 : (va_up (va_up (va_up (va_up (va_up (va_up (va_up (va_up (va_up F 20 (upI (F 20) sd pa)) 22 (upI (F 22) sd (-1))) 23 (upI (F 23) sd 0)) 24 (upI (F 24) sd 0)) 21 (upI (F 21) sd (vp_nar .boolean (iz 1)).toInt)) 22 (upI (upI (F 22) sd (-1)) sd 1)) 23 (upI (upI (F 23) sd 0) sd ((20 * p0) + pz))) 24 (upI (upI (F 24) sd 0) sd (en - pz))) 20 (upI (upI (F 20) sd pa) sd en)) 22 sd = 1 := upI_self _ _ _
                                  have ev23 : (va_up (va_up (va_up (va_up (va_up (va_up (va_up (va_up (va_up F 20 (upI (F 20) sd pa)) 22 (upI (F 22) sd (-1))) 23 (upI (F 23) sd 0)) 24 (upI (F 24) sd 0)) 21 (upI (F 21) sd (vp_nar .boolean (iz 1)).toInt)) 22 (upI (upI (F 22) sd (-1)) sd 1)) 23 (upI (upI (F 23) sd 0) sd ((20 * p0) + pz))) 24 (upI (upI (F 24) sd 0) sd (en - pz))) 20 (upI (upI (F 20) sd pa) sd en)) 23 sd = ((20 * p0) + pz) := upI_self _ _ _
                                  have ev24 : (va_up (va_up (va_up (va_up (va_up (va_up (va_up (va_up (va_up F 20 (upI (F 20) sd pa)) 22 (upI (F 22) sd (-1))) 23 (upI (F 23) sd 0)) 24 (upI (F 24) sd 0)) 21 (upI (F 21) sd (vp_nar .boolean (iz 1)).toInt)) 22 (upI (upI (F 22) sd (-1)) sd 1)) 23 (upI (upI (F 23) sd 0) sd ((20 * p0) + pz))) 24 (upI (upI (F 24) sd 0) sd (en - pz))) 20 (upI (upI (F 20) sd pa) sd en)) 24 sd = (en - pz) := upI_self _ _ _
                                  have ezn0 : (vp_nar .boolean (iz 1)).toInt = 1 := by decide
                                  have e_93 : (va_up (va_up (va_up (va_up (va_up (va_up (va_up (va_up (va_up F 20 (upI (F 20) sd pa)) 22 (upI (F 22) sd (-1))) 23 (upI (F 23) sd 0)) 24 (upI (F 24) sd 0)) 21 (upI (F 21) sd (vp_nar .boolean (iz 1)).toInt)) 22 (upI (upI (F 22) sd (-1)) sd 1)) 23 (upI (upI (F 23) sd 0) sd ((20 * p0) + pz))) 24 (upI (upI (F 24) sd 0) sd (en - pz))) 20 (upI (upI (F 20) sd pa) sd en)) 20 sd = en := upI_self _ _ _
                                  have e_94 : (va_up (va_up (va_up (va_up (va_up (va_up (va_up (va_up (va_up F 20 (upI (F 20) sd pa)) 22 (upI (F 22) sd (-1))) 23 (upI (F 23) sd 0)) 24 (upI (F 24) sd 0)) 21 (upI (F 21) sd (vp_nar .boolean (iz 1)).toInt)) 22 (upI (upI (F 22) sd (-1)) sd 1)) 23 (upI (upI (F 23) sd 0) sd ((20 * p0) + pz))) 24 (upI (upI (F 24) sd 0) sd (en - pz))) 20 (upI (upI (F 20) sd pa) sd en)) 22 sd = 1 := upI_self _ _ _
                                  have e_95 : (va_up (va_up (va_up (va_up (va_up (va_up (va_up (va_up (va_up F 20 (upI (F 20) sd pa)) 22 (upI (F 22) sd (-1))) 23 (upI (F 23) sd 0)) 24 (upI (F 24) sd 0)) 21 (upI (F 21) sd (vp_nar .boolean (iz 1)).toInt)) 22 (upI (upI (F 22) sd (-1)) sd 1)) 23 (upI (upI (F 23) sd 0) sd ((20 * p0) + pz))) 24 (upI (upI (F 24) sd 0) sd (en - pz))) 20 (upI (upI (F 20) sd pa) sd en)) 23 sd = (20 * p0) + pz := upI_self _ _ _
                                  have e_96 : (va_up (va_up (va_up (va_up (va_up (va_up (va_up (va_up (va_up F 20 (upI (F 20) sd pa)) 22 (upI (F 22) sd (-1))) 23 (upI (F 23) sd 0)) 24 (upI (F 24) sd 0)) 21 (upI (F 21) sd (vp_nar .boolean (iz 1)).toInt)) 22 (upI (upI (F 22) sd (-1)) sd 1)) 23 (upI (upI (F 23) sd 0) sd ((20 * p0) + pz))) 24 (upI (upI (F 24) sd 0) sd (en - pz))) 20 (upI (upI (F 20) sd pa) sd en)) 24 sd = en - pz := upI_self _ _ _
                                  have e_97 : (va_up (va_up (va_up (va_up (va_up (va_up (va_up (va_up (va_up F 20 (upI (F 20) sd pa)) 22 (upI (F 22) sd (-1))) 23 (upI (F 23) sd 0)) 24 (upI (F 24) sd 0)) 21 (upI (F 21) sd (vp_nar .boolean (iz 1)).toInt)) 22 (upI (upI (F 22) sd (-1)) sd 1)) 23 (upI (upI (F 23) sd 0) sd ((20 * p0) + pz))) 24 (upI (upI (F 24) sd 0) sd (en - pz))) 20 (upI (upI (F 20) sd pa) sd en)) 21 sd = (vp_nar .boolean (iz 1)).toInt := upI_self _ _ _
                                  rw [← hQe]
                                  exact mk_ret hx hb hr hlocks hP hD hK hS dX6_step_299 (⟨rfl, (mB_f (mB_f (mB_f (mB_f (mB_f (mB_f (mB_f (mB_f (mB_f hB 20 sd (by omega) (by omega)) 22 sd (by omega) (by omega)) 23 sd (by omega) (by omega)) 24 sd (by omega) (by omega)) 21 sd (iz_lo _) (iz_hi _)) 22 sd (by omega) (by omega)) 23 sd (by omega) (by omega)) 24 sd (by omega) (by omega)) 20 sd (by omega) (by omega)), (mfr.upF (mfr.upF (mfr.upF (mfr.upF (mfr.upF (mfr.upF (mfr.upF (mfr.upF (mfr.upF mfr.rf (by decide) _) (by decide) _) (by decide) _) (by decide) _) (by decide) _) (by decide) _) (by decide) _) (by decide) _) (by decide) _), (mo1.up (mo1.up (mo1.up (mo1.up (mo1.up (mo1.up (mo1.up (mo1.up (mo1.up mo1.rf 20 _) 22 _) 23 _) 24 _) 21 _) 22 _) 23 _) 24 _) 20 _), by omega, by omega, by omega, by rw [ev22, ev23, ev24]; exact Or.inr (Or.inr (Or.inl ⟨rfl, by omega, by omega⟩)), by rw [ev21]; exact Or.inr ezn0, by omega, by rw [ev20]; exact hboE, by rw [ev22, ev23, ev24, ev20, ev21, ezn0, kf_eu_num (f := kf_sg F p0) (fun i => rfl) hkzE]; exact hnum⟩)
                                · skip
                                  refine lv_aload_n hx hb dX6_step_240 rfl (lv_at hl 4 rfl) ?_
                                  refine va_get (D := (dC, dI)) (ci := 6) (v := .ref (ma 4)) (C := RX6) (T := TX6) (N := 44) hx hb hts kt_X6 hown hK hP 0 rfl rfl 4 (by decide) (kx_word hG kq_04_msmall_16 rfl) (fun _ h9 => h9) rfl dX6_step_241 ?_
                                  refine lv_bipush (v := iz 20) hx hb dX6_step_244 (by decide) ?_
                                  refine lv_iload_n hx hb dX6_step_246 rfl (lv_at hl 6 rfl) ?_
                                  refine ki_imul hx hb dX6_step_247 ?_
                                  refine lv_iload_n hx hb dX6_step_248 rfl (lv_at hl 3 rfl) ?_
                                  refine ki_iadd hx hb dX6_step_249 ?_
                                  refine ki_iald (F := F 4) hx hb hK hP 3 2 rfl rfl (by omega) (by omega) (by decide) dX6_step_250 ?_
                                  have hbd_98 := hB.2 4 ((20 * p0) + pz)
                                  refine ki_is (show iz (F 4 ((20 * p0) + pz)) = iz (kf_sg F p0 pz) from rfl) ?_
                                  have hsk_99 := hsg pz (by omega) (by omega)
                                  refine lv_bipush (v := iz 48) hx hb dX6_step_251 (by decide) ?_
                                  refine ki_icmp_ne (tgt := 262) hx hb dX6_step_253 (by decide) (by omega) (by omega) (by omega) (by omega) (fun c_100 => ?_) (fun c_100 => ?_)
                                  · skip
                                    have hkzE : kf_kz (kf_sg F p0) en (en - pa).toNat pa = pz := hkz.trans (kf_kz_stop (by omega))
                                    refine lv_aload_n hx hb dX6_step_262 rfl (lv_at hl 4 rfl) ?_
                                    refine va_get (D := (dC, dI)) (ci := 6) (v := .ref (ma 22)) (C := RX6) (T := TX6) (N := 44) hx hb hts kt_X6 hown hK hP 0 rfl rfl 22 (by decide) (kx_word hG kq_05_morder_2 rfl) (fun _ h9 => h9) rfl dX6_step_263 ?_
                                    refine lv_iload_n hx hb dX6_step_266 rfl (lv_at hl 5 rfl) ?_
                                    refine lv_iconst (v := iz 1) hx hb dX6_step_267 (by decide) ?_
                                    refine ki_iast (F := upI (F 22) sd (-1)) hx hb hK hP hD hS 17 16 rfl rfl (by omega) (by omega) (by decide) dX6_step_268 (fun H locs hP hD hS => ?_)
                                    have hP : va_P (dC, dI) kxCl (mW mo ma cs I (va_up (va_up (va_up (va_up (va_up (va_up F 20 (upI (F 20) sd pa)) 22 (upI (F 22) sd (-1))) 23 (upI (F 23) sd 0)) 24 (upI (F 24) sd 0)) 21 (upI (F 21) sd (vp_nar .boolean (iz 1)).toInt)) 22 (upI (upI (F 22) sd (-1)) sd 1))) H := hP
                                    have hD : va_D A (mW mo ma cs I (va_up (va_up (va_up (va_up (va_up (va_up F 20 (upI (F 20) sd pa)) 22 (upI (F 22) sd (-1))) 23 (upI (F 23) sd 0)) 24 (upI (F 24) sd 0)) 21 (upI (F 21) sd (vp_nar .boolean (iz 1)).toInt)) 22 (upI (upI (F 22) sd (-1)) sd 1))) := hD
                                    refine lv_aload_n hx hb dX6_step_269 rfl (lv_at hl 4 rfl) ?_
                                    refine va_get (D := (dC, dI)) (ci := 6) (v := .ref (ma 23)) (C := RX6) (T := TX6) (N := 44) hx hb hts kt_X6 hown hK hP 0 rfl rfl 23 (by decide) (kx_word hG kq_05_morder_3 rfl) (fun _ h9 => h9) rfl dX6_step_270 ?_
                                    refine lv_iload_n hx hb dX6_step_273 rfl (lv_at hl 5 rfl) ?_
                                    refine lv_bipush (v := iz 20) hx hb dX6_step_274 (by decide) ?_
                                    refine lv_iload_n hx hb dX6_step_276 rfl (lv_at hl 6 rfl) ?_
                                    refine ki_imul hx hb dX6_step_277 ?_
                                    refine lv_iload_n hx hb dX6_step_278 rfl (lv_at hl 3 rfl) ?_
                                    refine ki_iadd hx hb dX6_step_279 ?_
                                    refine ki_iast (F := upI (F 23) sd 0) hx hb hK hP hD hS 18 17 rfl rfl (by omega) (by omega) (by decide) dX6_step_280 (fun H locs hP hD hS => ?_)
                                    have hP : va_P (dC, dI) kxCl (mW mo ma cs I (va_up (va_up (va_up (va_up (va_up (va_up (va_up F 20 (upI (F 20) sd pa)) 22 (upI (F 22) sd (-1))) 23 (upI (F 23) sd 0)) 24 (upI (F 24) sd 0)) 21 (upI (F 21) sd (vp_nar .boolean (iz 1)).toInt)) 22 (upI (upI (F 22) sd (-1)) sd 1)) 23 (upI (upI (F 23) sd 0) sd ((20 * p0) + pz)))) H := hP
                                    have hD : va_D A (mW mo ma cs I (va_up (va_up (va_up (va_up (va_up (va_up (va_up F 20 (upI (F 20) sd pa)) 22 (upI (F 22) sd (-1))) 23 (upI (F 23) sd 0)) 24 (upI (F 24) sd 0)) 21 (upI (F 21) sd (vp_nar .boolean (iz 1)).toInt)) 22 (upI (upI (F 22) sd (-1)) sd 1)) 23 (upI (upI (F 23) sd 0) sd ((20 * p0) + pz)))) := hD
                                    refine lv_aload_n hx hb dX6_step_281 rfl (lv_at hl 4 rfl) ?_
                                    refine va_get (D := (dC, dI)) (ci := 6) (v := .ref (ma 24)) (C := RX6) (T := TX6) (N := 44) hx hb hts kt_X6 hown hK hP 0 rfl rfl 24 (by decide) (kx_word hG kq_05_morder_4 rfl) (fun _ h9 => h9) rfl dX6_step_282 ?_
                                    refine lv_iload_n hx hb dX6_step_285 rfl (lv_at hl 5 rfl) ?_
                                    refine lv_iload hx hb dX6_step_286 (lv_at hl 0 rfl) ?_
                                    refine lv_iload_n hx hb dX6_step_288 rfl (lv_at hl 3 rfl) ?_
                                    refine ki_isub hx hb dX6_step_289 ?_
                                    refine ki_iast (F := upI (F 24) sd 0) hx hb hK hP hD hS 19 18 rfl rfl (by omega) (by omega) (by decide) dX6_step_290 (fun H locs hP hD hS => ?_)
                                    have hP : va_P (dC, dI) kxCl (mW mo ma cs I (va_up (va_up (va_up (va_up (va_up (va_up (va_up (va_up F 20 (upI (F 20) sd pa)) 22 (upI (F 22) sd (-1))) 23 (upI (F 23) sd 0)) 24 (upI (F 24) sd 0)) 21 (upI (F 21) sd (vp_nar .boolean (iz 1)).toInt)) 22 (upI (upI (F 22) sd (-1)) sd 1)) 23 (upI (upI (F 23) sd 0) sd ((20 * p0) + pz))) 24 (upI (upI (F 24) sd 0) sd (en - pz)))) H := hP
                                    have hD : va_D A (mW mo ma cs I (va_up (va_up (va_up (va_up (va_up (va_up (va_up (va_up F 20 (upI (F 20) sd pa)) 22 (upI (F 22) sd (-1))) 23 (upI (F 23) sd 0)) 24 (upI (F 24) sd 0)) 21 (upI (F 21) sd (vp_nar .boolean (iz 1)).toInt)) 22 (upI (upI (F 22) sd (-1)) sd 1)) 23 (upI (upI (F 23) sd 0) sd ((20 * p0) + pz))) 24 (upI (upI (F 24) sd 0) sd (en - pz)))) := hD
                                    refine lv_aload_n hx hb dX6_step_291 rfl (lv_at hl 4 rfl) ?_
                                    refine va_get (D := (dC, dI)) (ci := 6) (v := .ref (ma 20)) (C := RX6) (T := TX6) (N := 44) hx hb hts kt_X6 hown hK hP 0 rfl rfl 20 (by decide) (kx_word hG kq_05_morder_0 rfl) (fun _ h9 => h9) rfl dX6_step_292 ?_
                                    refine lv_iload_n hx hb dX6_step_295 rfl (lv_at hl 5 rfl) ?_
                                    refine lv_iload hx hb dX6_step_296 (lv_at hl 0 rfl) ?_
                                    refine ki_iast (F := upI (F 20) sd pa) hx hb hK hP hD hS 15 14 rfl rfl (by omega) (by omega) (by decide) dX6_step_298 (fun H locs hP hD hS => ?_)
                                    have hP : va_P (dC, dI) kxCl (mW mo ma cs I (va_up (va_up (va_up (va_up (va_up (va_up (va_up (va_up (va_up F 20 (upI (F 20) sd pa)) 22 (upI (F 22) sd (-1))) 23 (upI (F 23) sd 0)) 24 (upI (F 24) sd 0)) 21 (upI (F 21) sd (vp_nar .boolean (iz 1)).toInt)) 22 (upI (upI (F 22) sd (-1)) sd 1)) 23 (upI (upI (F 23) sd 0) sd ((20 * p0) + pz))) 24 (upI (upI (F 24) sd 0) sd (en - pz))) 20 (upI (upI (F 20) sd pa) sd en))) H := hP
                                    have hD : va_D A (mW mo ma cs I (va_up (va_up (va_up (va_up (va_up (va_up (va_up (va_up (va_up F 20 (upI (F 20) sd pa)) 22 (upI (F 22) sd (-1))) 23 (upI (F 23) sd 0)) 24 (upI (F 24) sd 0)) 21 (upI (F 21) sd (vp_nar .boolean (iz 1)).toInt)) 22 (upI (upI (F 22) sd (-1)) sd 1)) 23 (upI (upI (F 23) sd 0) sd ((20 * p0) + pz))) 24 (upI (upI (F 24) sd 0) sd (en - pz))) 20 (upI (upI (F 20) sd pa) sd en))) := hD
                                    have ev20 : (va_up (va_up (va_up (va_up (va_up (va_up (va_up (va_up (va_up F 20 (upI (F 20) sd pa)) 22 (upI (F 22) sd (-1))) 23 (upI (F 23) sd 0)) 24 (upI (F 24) sd 0)) 21 (upI (F 21) sd (vp_nar .boolean (iz 1)).toInt)) 22 (upI (upI (F 22) sd (-1)) sd 1)) 23 (upI (upI (F 23) sd 0) sd ((20 * p0) + pz))) 24 (upI (upI (F 24) sd 0) sd (en - pz))) 20 (upI (upI (F 20) sd pa) sd en)) 20 sd = en := upI_self _ _ _
                                    have ev21 : (va_up (va_up (va_up (va_up (va_up (va_up (va_up (va_up (va_up F 20 (upI (F 20) sd pa)) 22 (upI (F 22) sd (-1))) 23 (upI (F 23) sd 0)) 24 (upI (F 24) sd 0)) 21 (upI (F 21) sd (vp_nar .boolean (iz 1)).toInt)) 22 (upI (upI (F 22) sd (-1)) sd 1)) 23 (upI (upI (F 23) sd 0) sd ((20 * p0) + pz))) 24 (upI (upI (F 24) sd 0) sd (en - pz))) 20 (upI (upI (F 20) sd pa) sd en)) 21 sd = (vp_nar .boolean (iz 1)).toInt := upI_self _ _ _
                                    have ev22 : (va_up (va_up (va_up (va_up (va_up (va_up (va_up (va_up (va_up F 20 (upI (F 20) sd pa)) 22 (upI (F 22) sd (-1))) 23 (upI (F 23) sd 0)) 24 (upI (F 24) sd 0)) 21 (upI (F 21) sd (vp_nar .boolean (iz 1)).toInt)) 22 (upI (upI (F 22) sd (-1)) sd 1)) 23 (upI (upI (F 23) sd 0) sd ((20 * p0) + pz))) 24 (upI (upI (F 24) sd 0) sd (en - pz))) 20 (upI (upI (F 20) sd pa) sd en)) 22 sd = 1 := upI_self _ _ _
                                    have ev23 : (va_up (va_up (va_up (va_up (va_up (va_up (va_up (va_up (va_up F 20 (upI (F 20) sd pa)) 22 (upI (F 22) sd (-1))) 23 (upI (F 23) sd 0)) 24 (upI (F 24) sd 0)) 21 (upI (F 21) sd (vp_nar .boolean (iz 1)).toInt)) 22 (upI (upI (F 22) sd (-1)) sd 1)) 23 (upI (upI (F 23) sd 0) sd ((20 * p0) + pz))) 24 (upI (upI (F 24) sd 0) sd (en - pz))) 20 (upI (upI (F 20) sd pa) sd en)) 23 sd = ((20 * p0) + pz) := upI_self _ _ _
                                    have ev24 : (va_up (va_up (va_up (va_up (va_up (va_up (va_up (va_up (va_up F 20 (upI (F 20) sd pa)) 22 (upI (F 22) sd (-1))) 23 (upI (F 23) sd 0)) 24 (upI (F 24) sd 0)) 21 (upI (F 21) sd (vp_nar .boolean (iz 1)).toInt)) 22 (upI (upI (F 22) sd (-1)) sd 1)) 23 (upI (upI (F 23) sd 0) sd ((20 * p0) + pz))) 24 (upI (upI (F 24) sd 0) sd (en - pz))) 20 (upI (upI (F 20) sd pa) sd en)) 24 sd = (en - pz) := upI_self _ _ _
                                    have ezn0 : (vp_nar .boolean (iz 1)).toInt = 1 := by decide
                                    have e_101 : (va_up (va_up (va_up (va_up (va_up (va_up (va_up (va_up (va_up F 20 (upI (F 20) sd pa)) 22 (upI (F 22) sd (-1))) 23 (upI (F 23) sd 0)) 24 (upI (F 24) sd 0)) 21 (upI (F 21) sd (vp_nar .boolean (iz 1)).toInt)) 22 (upI (upI (F 22) sd (-1)) sd 1)) 23 (upI (upI (F 23) sd 0) sd ((20 * p0) + pz))) 24 (upI (upI (F 24) sd 0) sd (en - pz))) 20 (upI (upI (F 20) sd pa) sd en)) 20 sd = en := upI_self _ _ _
                                    have e_102 : (va_up (va_up (va_up (va_up (va_up (va_up (va_up (va_up (va_up F 20 (upI (F 20) sd pa)) 22 (upI (F 22) sd (-1))) 23 (upI (F 23) sd 0)) 24 (upI (F 24) sd 0)) 21 (upI (F 21) sd (vp_nar .boolean (iz 1)).toInt)) 22 (upI (upI (F 22) sd (-1)) sd 1)) 23 (upI (upI (F 23) sd 0) sd ((20 * p0) + pz))) 24 (upI (upI (F 24) sd 0) sd (en - pz))) 20 (upI (upI (F 20) sd pa) sd en)) 22 sd = 1 := upI_self _ _ _
                                    have e_103 : (va_up (va_up (va_up (va_up (va_up (va_up (va_up (va_up (va_up F 20 (upI (F 20) sd pa)) 22 (upI (F 22) sd (-1))) 23 (upI (F 23) sd 0)) 24 (upI (F 24) sd 0)) 21 (upI (F 21) sd (vp_nar .boolean (iz 1)).toInt)) 22 (upI (upI (F 22) sd (-1)) sd 1)) 23 (upI (upI (F 23) sd 0) sd ((20 * p0) + pz))) 24 (upI (upI (F 24) sd 0) sd (en - pz))) 20 (upI (upI (F 20) sd pa) sd en)) 23 sd = (20 * p0) + pz := upI_self _ _ _
                                    have e_104 : (va_up (va_up (va_up (va_up (va_up (va_up (va_up (va_up (va_up F 20 (upI (F 20) sd pa)) 22 (upI (F 22) sd (-1))) 23 (upI (F 23) sd 0)) 24 (upI (F 24) sd 0)) 21 (upI (F 21) sd (vp_nar .boolean (iz 1)).toInt)) 22 (upI (upI (F 22) sd (-1)) sd 1)) 23 (upI (upI (F 23) sd 0) sd ((20 * p0) + pz))) 24 (upI (upI (F 24) sd 0) sd (en - pz))) 20 (upI (upI (F 20) sd pa) sd en)) 24 sd = en - pz := upI_self _ _ _
                                    have e_105 : (va_up (va_up (va_up (va_up (va_up (va_up (va_up (va_up (va_up F 20 (upI (F 20) sd pa)) 22 (upI (F 22) sd (-1))) 23 (upI (F 23) sd 0)) 24 (upI (F 24) sd 0)) 21 (upI (F 21) sd (vp_nar .boolean (iz 1)).toInt)) 22 (upI (upI (F 22) sd (-1)) sd 1)) 23 (upI (upI (F 23) sd 0) sd ((20 * p0) + pz))) 24 (upI (upI (F 24) sd 0) sd (en - pz))) 20 (upI (upI (F 20) sd pa) sd en)) 21 sd = (vp_nar .boolean (iz 1)).toInt := upI_self _ _ _
                                    rw [← hQe]
                                    exact mk_ret hx hb hr hlocks hP hD hK hS dX6_step_299 (⟨rfl, (mB_f (mB_f (mB_f (mB_f (mB_f (mB_f (mB_f (mB_f (mB_f hB 20 sd (by omega) (by omega)) 22 sd (by omega) (by omega)) 23 sd (by omega) (by omega)) 24 sd (by omega) (by omega)) 21 sd (iz_lo _) (iz_hi _)) 22 sd (by omega) (by omega)) 23 sd (by omega) (by omega)) 24 sd (by omega) (by omega)) 20 sd (by omega) (by omega)), (mfr.upF (mfr.upF (mfr.upF (mfr.upF (mfr.upF (mfr.upF (mfr.upF (mfr.upF (mfr.upF mfr.rf (by decide) _) (by decide) _) (by decide) _) (by decide) _) (by decide) _) (by decide) _) (by decide) _) (by decide) _) (by decide) _), (mo1.up (mo1.up (mo1.up (mo1.up (mo1.up (mo1.up (mo1.up (mo1.up (mo1.up mo1.rf 20 _) 22 _) 23 _) 24 _) 21 _) 22 _) 23 _) 24 _) 20 _), by omega, by omega, by omega, by rw [ev22, ev23, ev24]; exact Or.inr (Or.inr (Or.inl ⟨rfl, by omega, by omega⟩)), by rw [ev21]; exact Or.inr ezn0, by omega, by rw [ev20]; exact hboE, by rw [ev22, ev23, ev24, ev20, ev21, ezn0, kf_eu_num (f := kf_sg F p0) (fun i => rfl) hkzE]; exact hnum⟩)
                                  · skip
                                    refine lv_iinc (v := iz (pz + 1)) (lv' := [(3, .int (iz (pz + 1))), (6, .int (iz en)), (5, .int (iz (kf_sg F p0 pa))), (4, .int (iz ps)), (0, .ref mo), (1, .int (iz sd)), (2, .int (iz p0))]) hx hb dX6_step_256 hl (k := 3) rfl (iz_add pz 1) (by decide) rfl (fun ls hl => ?_)
                                    refine lv_goto (tgt := 234) hx hb dX6_step_259 (by decide) ?_
                                    exact ih234 (pz + 1) ⟨by omega, hkz.trans (kf_kz_step (by omega) (by omega))⟩ (by omega) _ _ hP hD hS ls (lv_sub hl [1, 2, 3, 0, 4, 5, 6] rfl)
                            exact lp234 _ pa ⟨by omega, rfl⟩ (Nat.lt_succ_self _) _ _ hP hD hS ls (lv_sub hl [0, 1, 2, 3, 4, 5, 6] rfl)
                          · skip
                            refine lv_aload_n hx hb dX6_step_210 rfl (lv_at hl 4 rfl) ?_
                            refine va_get (D := (dC, dI)) (ci := 6) (v := .ref (ma 4)) (C := RX6) (T := TX6) (N := 44) hx hb hts kt_X6 hown hK hP 0 rfl rfl 4 (by decide) (kx_word hG kq_04_msmall_16 rfl) (fun _ h9 => h9) rfl dX6_step_211 ?_
                            refine lv_bipush (v := iz 20) hx hb dX6_step_214 (by decide) ?_
                            refine lv_iload_n hx hb dX6_step_216 rfl (lv_at hl 6 rfl) ?_
                            refine ki_imul hx hb dX6_step_217 ?_
                            refine lv_iload hx hb dX6_step_218 (lv_at hl 0 rfl) ?_
                            refine ki_iadd hx hb dX6_step_220 ?_
                            refine ki_iald (F := F 4) hx hb hK hP 3 2 rfl rfl (by omega) (by omega) (by decide) dX6_step_221 ?_
                            have hbd_106 := hB.2 4 ((20 * p0) + en)
                            refine ki_is (show iz (F 4 ((20 * p0) + en)) = iz (kf_sg F p0 en) from rfl) ?_
                            have hsk_107 := hsg en (by omega) (by omega)
                            refine mk_calls (As := [.int (iz (kf_sg F p0 en))]) (rest := []) ⟨hx, hb, hml, hown, hts⟩ (k_isNumber2 l dC dI (kf_sg F p0 en) H.size (by omega) (by omega)) (va_cwS 1 hts (kx_gS kq_05_morder_8 kq_05_morder_9 kq_04_msmall_6 kq_05_morder_10 rfl) rfl rfl rfl (by decide +kernel) ⟨Nat.le_of_ble_eq_true rfl, Nat.le_of_ble_eq_true rfl⟩) hP hD hK hG hZ hS hA rfl hl.1 rfl (Nat.le_of_ble_eq_true rfl) dX6_step_222 ⟨Nat.le_of_ble_eq_true rfl, Nat.le_of_ble_eq_true rfl⟩ (fun z_108 H locs hq_109 hP hS => ?_)
                            try dsimp only at hq_109
                            rcases hq_109 with ⟨rfl, hq_109⟩ | ⟨rfl, hq_109⟩
                            · skip
                              refine ki_if_eq (tgt := 234) hx hb dX6_step_225 (by decide) (by omega) (by omega) (fun c_110 => ?_) (fun c_110 => ?_)
                              · omega
                              · skip
                                refine lv_iinc (v := iz (en + 1)) (lv' := [(6, .int (iz (en + 1))), (5, .int (iz (kf_sg F p0 pa))), (4, .int (iz ps)), (3, .int (iz pa)), (0, .ref mo), (1, .int (iz sd)), (2, .int (iz p0))]) hx hb dX6_step_228 hl (k := 0) rfl (iz_add en 1) (by decide) rfl (fun ls hl => ?_)
                                refine lv_goto (tgt := 192) hx hb dX6_step_231 (by decide) ?_
                                exact ih192 (en + 1) ⟨by omega, Or.inr (by omega), fun h9 => (hke h9).trans (kf_ke_step (by omega) (by omega))⟩ (by omega) _ _ hP hD hS ls (lv_sub hl [0, 1, 2, 3, 4, 5, 6] rfl)
                            · skip
                              refine ki_if_eq (tgt := 234) hx hb dX6_step_225 (by decide) (by omega) (by omega) (fun c_111 => ?_) (fun c_111 => ?_)
                              · skip
                                have hkeE : ¬ I 14 = 0 → kf_ke (kf_sg F p0) (F 5 p0) (F 5 p0 - pa).toNat pa = en := fun h9 => (hke h9).trans (kf_ke_stop (by omega))
                                have hen1 : I 14 = 0 → en = pa + 1 := fun h9 => by rcases hen0 with h8 | h8; exact h8; exact absurd h9 h8
                                have hnum : kf_kI (kf_sg F p0) (F 5 p0) (I 14) (I 15) (F 20 sd) 0 (F 21 sd) = kf_kn (kf_sg F p0) pa en ++ kf_kI (kf_sg F p0) (F 5 p0) (I 14) (I 15) en 0 1 := by by_cases h9 : I 14 = 0; rw [hen1 h9]; exact hK0.trans (kf_kI_one (kf_sg F p0) (F 5 p0) (I 14) (I 15) pa 0 (F 21 sd) 1 (by omega) hkd h9 rfl (by omega)); have h7 := hK0.trans (kf_kI_whole (kf_sg F p0) (F 5 p0) (I 14) (I 15) pa 0 (F 21 sd) 1 (by omega) (by omega) hkd h9 (hbo2 h9) rfl (by omega)); rw [hkeE h9] at h7; exact h7
                                have hboE : kf_kbo (kf_sg F p0) (F 5 p0) (I 14) en := by by_cases h9 : I 14 = 0; exact Or.inl h9; exact Or.inr (fun h7 => by have h6 := (kf_ke_run (kf_sg F p0) (F 5 p0) (F 5 p0 - pa).toNat pa (by omega) (Nat.le_refl _)).2; rw [hkeE h9] at h6; exact h6 h7.1 h7.2.2.1)
                                have lp234 : ∀ (n : Nat) (pz : Int), ((pa ≤ pz ∧ pz ≤ en) ∧ (kf_kz (kf_sg F p0) en (en - pa).toNat pa = kf_kz (kf_sg F p0) en (en - pz).toNat pz)) → (en - pz).toNat < n → ∀ (H : Heap) (locs : List Loc), va_P (dC, dI) kxCl (mW mo ma cs I (va_up (va_up (va_up (va_up (va_up F 20 (upI (F 20) sd pa)) 22 (upI (F 22) sd (-1))) 23 (upI (F 23) sd 0)) 24 (upI (F 24) sd 0)) 21 (upI (F 21) sd (vp_nar .boolean (iz 1)).toInt))) H → va_D A (mW mo ma cs I (va_up (va_up (va_up (va_up (va_up F 20 (upI (F 20) sd pa)) 22 (upI (F 22) sd (-1))) 23 (upI (F 23) sd 0)) 24 (upI (F 24) sd 0)) 21 (upI (F 21) sd (vp_nar .boolean (iz 1)).toInt))) → va_S A s.heap H locs → ∀ ls : Array Slot, lv_has ls 7 [(6, .int (iz en)), (5, .int (iz (kf_sg F p0 pa))), (4, .int (iz ps)), (3, .int (iz pz)), (0, .ref mo), (1, .int (iz sd)), (2, .int (iz p0))] → W p l e (headSpec [.code yX6_step cX6_step 7 none] ({ frames := 1, cells := 0, slots := 0, locals := 21 })).room s m ([.ref mo, .int (iz sd), .int (iz p0)] : List Value).toArray below meth c H locs 0 0 QQ (F0 m 234 ls []) := by
                                  intro n
                                  induction n with
                                  | zero => intro pz hinv hm; exact absurd hm (Nat.not_lt_zero _)
                                  | succ n ih234 =>
                                    intro pz hinv hm H locs hP hD hS ls hl
                                    obtain ⟨hpz, hkz⟩ := hinv
                                    refine lv_iload_n hx hb dX6_step_234 rfl (lv_at hl 3 rfl) ?_
                                    refine lv_iload hx hb dX6_step_235 (lv_at hl 0 rfl) ?_
                                    refine ki_icmp_ge (tgt := 262) hx hb dX6_step_237 (by decide) (by omega) (by omega) (by omega) (by omega) (fun c_112 => ?_) (fun c_112 => ?_)
                                    · skip
                                      have hkzE : kf_kz (kf_sg F p0) en (en - pa).toNat pa = pz := hkz.trans (kf_kz_stop (by omega))
                                      refine lv_aload_n hx hb dX6_step_262 rfl (lv_at hl 4 rfl) ?_
                                      refine va_get (D := (dC, dI)) (ci := 6) (v := .ref (ma 22)) (C := RX6) (T := TX6) (N := 44) hx hb hts kt_X6 hown hK hP 0 rfl rfl 22 (by decide) (kx_word hG kq_05_morder_2 rfl) (fun _ h9 => h9) rfl dX6_step_263 ?_
                                      refine lv_iload_n hx hb dX6_step_266 rfl (lv_at hl 5 rfl) ?_
                                      refine lv_iconst (v := iz 1) hx hb dX6_step_267 (by decide) ?_
                                      refine ki_iast (F := upI (F 22) sd (-1)) hx hb hK hP hD hS 17 16 rfl rfl (by omega) (by omega) (by decide) dX6_step_268 (fun H locs hP hD hS => ?_)
                                      have hP : va_P (dC, dI) kxCl (mW mo ma cs I (va_up (va_up (va_up (va_up (va_up (va_up F 20 (upI (F 20) sd pa)) 22 (upI (F 22) sd (-1))) 23 (upI (F 23) sd 0)) 24 (upI (F 24) sd 0)) 21 (upI (F 21) sd (vp_nar .boolean (iz 1)).toInt)) 22 (upI (upI (F 22) sd (-1)) sd 1))) H := hP
                                      have hD : va_D A (mW mo ma cs I (va_up (va_up (va_up (va_up (va_up (va_up F 20 (upI (F 20) sd pa)) 22 (upI (F 22) sd (-1))) 23 (upI (F 23) sd 0)) 24 (upI (F 24) sd 0)) 21 (upI (F 21) sd (vp_nar .boolean (iz 1)).toInt)) 22 (upI (upI (F 22) sd (-1)) sd 1))) := hD
                                      refine lv_aload_n hx hb dX6_step_269 rfl (lv_at hl 4 rfl) ?_
                                      refine va_get (D := (dC, dI)) (ci := 6) (v := .ref (ma 23)) (C := RX6) (T := TX6) (N := 44) hx hb hts kt_X6 hown hK hP 0 rfl rfl 23 (by decide) (kx_word hG kq_05_morder_3 rfl) (fun _ h9 => h9) rfl dX6_step_270 ?_
                                      refine lv_iload_n hx hb dX6_step_273 rfl (lv_at hl 5 rfl) ?_
                                      refine lv_bipush (v := iz 20) hx hb dX6_step_274 (by decide) ?_
                                      refine lv_iload_n hx hb dX6_step_276 rfl (lv_at hl 6 rfl) ?_
                                      refine ki_imul hx hb dX6_step_277 ?_
                                      refine lv_iload_n hx hb dX6_step_278 rfl (lv_at hl 3 rfl) ?_
                                      refine ki_iadd hx hb dX6_step_279 ?_
                                      refine ki_iast (F := upI (F 23) sd 0) hx hb hK hP hD hS 18 17 rfl rfl (by omega) (by omega) (by decide) dX6_step_280 (fun H locs hP hD hS => ?_)
                                      have hP : va_P (dC, dI) kxCl (mW mo ma cs I (va_up (va_up (va_up (va_up (va_up (va_up (va_up F 20 (upI (F 20) sd pa)) 22 (upI (F 22) sd (-1))) 23 (upI (F 23) sd 0)) 24 (upI (F 24) sd 0)) 21 (upI (F 21) sd (vp_nar .boolean (iz 1)).toInt)) 22 (upI (upI (F 22) sd (-1)) sd 1)) 23 (upI (upI (F 23) sd 0) sd ((20 * p0) + pz)))) H := hP
                                      have hD : va_D A (mW mo ma cs I (va_up (va_up (va_up (va_up (va_up (va_up (va_up F 20 (upI (F 20) sd pa)) 22 (upI (F 22) sd (-1))) 23 (upI (F 23) sd 0)) 24 (upI (F 24) sd 0)) 21 (upI (F 21) sd (vp_nar .boolean (iz 1)).toInt)) 22 (upI (upI (F 22) sd (-1)) sd 1)) 23 (upI (upI (F 23) sd 0) sd ((20 * p0) + pz)))) := hD
                                      refine lv_aload_n hx hb dX6_step_281 rfl (lv_at hl 4 rfl) ?_
                                      refine va_get (D := (dC, dI)) (ci := 6) (v := .ref (ma 24)) (C := RX6) (T := TX6) (N := 44) hx hb hts kt_X6 hown hK hP 0 rfl rfl 24 (by decide) (kx_word hG kq_05_morder_4 rfl) (fun _ h9 => h9) rfl dX6_step_282 ?_
                                      refine lv_iload_n hx hb dX6_step_285 rfl (lv_at hl 5 rfl) ?_
                                      refine lv_iload hx hb dX6_step_286 (lv_at hl 0 rfl) ?_
                                      refine lv_iload_n hx hb dX6_step_288 rfl (lv_at hl 3 rfl) ?_
                                      refine ki_isub hx hb dX6_step_289 ?_
                                      refine ki_iast (F := upI (F 24) sd 0) hx hb hK hP hD hS 19 18 rfl rfl (by omega) (by omega) (by decide) dX6_step_290 (fun H locs hP hD hS => ?_)
                                      have hP : va_P (dC, dI) kxCl (mW mo ma cs I (va_up (va_up (va_up (va_up (va_up (va_up (va_up (va_up F 20 (upI (F 20) sd pa)) 22 (upI (F 22) sd (-1))) 23 (upI (F 23) sd 0)) 24 (upI (F 24) sd 0)) 21 (upI (F 21) sd (vp_nar .boolean (iz 1)).toInt)) 22 (upI (upI (F 22) sd (-1)) sd 1)) 23 (upI (upI (F 23) sd 0) sd ((20 * p0) + pz))) 24 (upI (upI (F 24) sd 0) sd (en - pz)))) H := hP
                                      have hD : va_D A (mW mo ma cs I (va_up (va_up (va_up (va_up (va_up (va_up (va_up (va_up F 20 (upI (F 20) sd pa)) 22 (upI (F 22) sd (-1))) 23 (upI (F 23) sd 0)) 24 (upI (F 24) sd 0)) 21 (upI (F 21) sd (vp_nar .boolean (iz 1)).toInt)) 22 (upI (upI (F 22) sd (-1)) sd 1)) 23 (upI (upI (F 23) sd 0) sd ((20 * p0) + pz))) 24 (upI (upI (F 24) sd 0) sd (en - pz)))) := hD
                                      refine lv_aload_n hx hb dX6_step_291 rfl (lv_at hl 4 rfl) ?_
                                      refine va_get (D := (dC, dI)) (ci := 6) (v := .ref (ma 20)) (C := RX6) (T := TX6) (N := 44) hx hb hts kt_X6 hown hK hP 0 rfl rfl 20 (by decide) (kx_word hG kq_05_morder_0 rfl) (fun _ h9 => h9) rfl dX6_step_292 ?_
                                      refine lv_iload_n hx hb dX6_step_295 rfl (lv_at hl 5 rfl) ?_
                                      refine lv_iload hx hb dX6_step_296 (lv_at hl 0 rfl) ?_
                                      refine ki_iast (F := upI (F 20) sd pa) hx hb hK hP hD hS 15 14 rfl rfl (by omega) (by omega) (by decide) dX6_step_298 (fun H locs hP hD hS => ?_)
                                      have hP : va_P (dC, dI) kxCl (mW mo ma cs I (va_up (va_up (va_up (va_up (va_up (va_up (va_up (va_up (va_up F 20 (upI (F 20) sd pa)) 22 (upI (F 22) sd (-1))) 23 (upI (F 23) sd 0)) 24 (upI (F 24) sd 0)) 21 (upI (F 21) sd (vp_nar .boolean (iz 1)).toInt)) 22 (upI (upI (F 22) sd (-1)) sd 1)) 23 (upI (upI (F 23) sd 0) sd ((20 * p0) + pz))) 24 (upI (upI (F 24) sd 0) sd (en - pz))) 20 (upI (upI (F 20) sd pa) sd en))) H := hP
                                      have hD : va_D A (mW mo ma cs I (va_up (va_up (va_up (va_up (va_up (va_up (va_up (va_up (va_up F 20 (upI (F 20) sd pa)) 22 (upI (F 22) sd (-1))) 23 (upI (F 23) sd 0)) 24 (upI (F 24) sd 0)) 21 (upI (F 21) sd (vp_nar .boolean (iz 1)).toInt)) 22 (upI (upI (F 22) sd (-1)) sd 1)) 23 (upI (upI (F 23) sd 0) sd ((20 * p0) + pz))) 24 (upI (upI (F 24) sd 0) sd (en - pz))) 20 (upI (upI (F 20) sd pa) sd en))) := hD
                                      have ev20 : (va_up (va_up (va_up (va_up (va_up (va_up (va_up (va_up (va_up F 20 (upI (F 20) sd pa)) 22 (upI (F 22) sd (-1))) 23 (upI (F 23) sd 0)) 24 (upI (F 24) sd 0)) 21 (upI (F 21) sd (vp_nar .boolean (iz 1)).toInt)) 22 (upI (upI (F 22) sd (-1)) sd 1)) 23 (upI (upI (F 23) sd 0) sd ((20 * p0) + pz))) 24 (upI (upI (F 24) sd 0) sd (en - pz))) 20 (upI (upI (F 20) sd pa) sd en)) 20 sd = en := upI_self _ _ _
                                      have ev21 : (va_up (va_up (va_up (va_up (va_up (va_up (va_up (va_up (va_up F 20 (upI (F 20) sd pa)) 22 (upI (F 22) sd (-1))) 23 (upI (F 23) sd 0)) 24 (upI (F 24) sd 0)) 21 (upI (F 21) sd (vp_nar .boolean (iz 1)).toInt)) 22 (upI (upI (F 22) sd (-1)) sd 1)) 23 (upI (upI (F 23) sd 0) sd ((20 * p0) + pz))) 24 (upI (upI (F 24) sd 0) sd (en - pz))) 20 (upI (upI (F 20) sd pa) sd en)) 21 sd = (vp_nar .boolean (iz 1)).toInt := upI_self _ _ _
                                      have ev22 : (va_up (va_up (va_up (va_up (va_up (va_up (va_up (va_up (va_up F 20 (upI (F 20) sd pa)) 22 (upI (F 22) sd (-1))) 23 (upI (F 23) sd 0)) 24 (upI (F 24) sd 0)) 21 (upI (F 21) sd (vp_nar .boolean (iz 1)).toInt)) 22 (upI (upI (F 22) sd (-1)) sd 1)) 23 (upI (upI (F 23) sd 0) sd ((20 * p0) + pz))) 24 (upI (upI (F 24) sd 0) sd (en - pz))) 20 (upI (upI (F 20) sd pa) sd en)) 22 sd = 1 := upI_self _ _ _
                                      have ev23 : (va_up (va_up (va_up (va_up (va_up (va_up (va_up (va_up (va_up F 20 (upI (F 20) sd pa)) 22 (upI (F 22) sd (-1))) 23 (upI (F 23) sd 0)) 24 (upI (F 24) sd 0)) 21 (upI (F 21) sd (vp_nar .boolean (iz 1)).toInt)) 22 (upI (upI (F 22) sd (-1)) sd 1)) 23 (upI (upI (F 23) sd 0) sd ((20 * p0) + pz))) 24 (upI (upI (F 24) sd 0) sd (en - pz))) 20 (upI (upI (F 20) sd pa) sd en)) 23 sd = ((20 * p0) + pz) := upI_self _ _ _
                                      have ev24 : (va_up (va_up (va_up (va_up (va_up (va_up (va_up (va_up (va_up F 20 (upI (F 20) sd pa)) 22 (upI (F 22) sd (-1))) 23 (upI (F 23) sd 0)) 24 (upI (F 24) sd 0)) 21 (upI (F 21) sd (vp_nar .boolean (iz 1)).toInt)) 22 (upI (upI (F 22) sd (-1)) sd 1)) 23 (upI (upI (F 23) sd 0) sd ((20 * p0) + pz))) 24 (upI (upI (F 24) sd 0) sd (en - pz))) 20 (upI (upI (F 20) sd pa) sd en)) 24 sd = (en - pz) := upI_self _ _ _
                                      have ezn0 : (vp_nar .boolean (iz 1)).toInt = 1 := by decide
                                      have e_113 : (va_up (va_up (va_up (va_up (va_up (va_up (va_up (va_up (va_up F 20 (upI (F 20) sd pa)) 22 (upI (F 22) sd (-1))) 23 (upI (F 23) sd 0)) 24 (upI (F 24) sd 0)) 21 (upI (F 21) sd (vp_nar .boolean (iz 1)).toInt)) 22 (upI (upI (F 22) sd (-1)) sd 1)) 23 (upI (upI (F 23) sd 0) sd ((20 * p0) + pz))) 24 (upI (upI (F 24) sd 0) sd (en - pz))) 20 (upI (upI (F 20) sd pa) sd en)) 20 sd = en := upI_self _ _ _
                                      have e_114 : (va_up (va_up (va_up (va_up (va_up (va_up (va_up (va_up (va_up F 20 (upI (F 20) sd pa)) 22 (upI (F 22) sd (-1))) 23 (upI (F 23) sd 0)) 24 (upI (F 24) sd 0)) 21 (upI (F 21) sd (vp_nar .boolean (iz 1)).toInt)) 22 (upI (upI (F 22) sd (-1)) sd 1)) 23 (upI (upI (F 23) sd 0) sd ((20 * p0) + pz))) 24 (upI (upI (F 24) sd 0) sd (en - pz))) 20 (upI (upI (F 20) sd pa) sd en)) 22 sd = 1 := upI_self _ _ _
                                      have e_115 : (va_up (va_up (va_up (va_up (va_up (va_up (va_up (va_up (va_up F 20 (upI (F 20) sd pa)) 22 (upI (F 22) sd (-1))) 23 (upI (F 23) sd 0)) 24 (upI (F 24) sd 0)) 21 (upI (F 21) sd (vp_nar .boolean (iz 1)).toInt)) 22 (upI (upI (F 22) sd (-1)) sd 1)) 23 (upI (upI (F 23) sd 0) sd ((20 * p0) + pz))) 24 (upI (upI (F 24) sd 0) sd (en - pz))) 20 (upI (upI (F 20) sd pa) sd en)) 23 sd = (20 * p0) + pz := upI_self _ _ _
                                      have e_116 : (va_up (va_up (va_up (va_up (va_up (va_up (va_up (va_up (va_up F 20 (upI (F 20) sd pa)) 22 (upI (F 22) sd (-1))) 23 (upI (F 23) sd 0)) 24 (upI (F 24) sd 0)) 21 (upI (F 21) sd (vp_nar .boolean (iz 1)).toInt)) 22 (upI (upI (F 22) sd (-1)) sd 1)) 23 (upI (upI (F 23) sd 0) sd ((20 * p0) + pz))) 24 (upI (upI (F 24) sd 0) sd (en - pz))) 20 (upI (upI (F 20) sd pa) sd en)) 24 sd = en - pz := upI_self _ _ _
                                      have e_117 : (va_up (va_up (va_up (va_up (va_up (va_up (va_up (va_up (va_up F 20 (upI (F 20) sd pa)) 22 (upI (F 22) sd (-1))) 23 (upI (F 23) sd 0)) 24 (upI (F 24) sd 0)) 21 (upI (F 21) sd (vp_nar .boolean (iz 1)).toInt)) 22 (upI (upI (F 22) sd (-1)) sd 1)) 23 (upI (upI (F 23) sd 0) sd ((20 * p0) + pz))) 24 (upI (upI (F 24) sd 0) sd (en - pz))) 20 (upI (upI (F 20) sd pa) sd en)) 21 sd = (vp_nar .boolean (iz 1)).toInt := upI_self _ _ _
                                      rw [← hQe]
                                      exact mk_ret hx hb hr hlocks hP hD hK hS dX6_step_299 (⟨rfl, (mB_f (mB_f (mB_f (mB_f (mB_f (mB_f (mB_f (mB_f (mB_f hB 20 sd (by omega) (by omega)) 22 sd (by omega) (by omega)) 23 sd (by omega) (by omega)) 24 sd (by omega) (by omega)) 21 sd (iz_lo _) (iz_hi _)) 22 sd (by omega) (by omega)) 23 sd (by omega) (by omega)) 24 sd (by omega) (by omega)) 20 sd (by omega) (by omega)), (mfr.upF (mfr.upF (mfr.upF (mfr.upF (mfr.upF (mfr.upF (mfr.upF (mfr.upF (mfr.upF mfr.rf (by decide) _) (by decide) _) (by decide) _) (by decide) _) (by decide) _) (by decide) _) (by decide) _) (by decide) _) (by decide) _), (mo1.up (mo1.up (mo1.up (mo1.up (mo1.up (mo1.up (mo1.up (mo1.up (mo1.up mo1.rf 20 _) 22 _) 23 _) 24 _) 21 _) 22 _) 23 _) 24 _) 20 _), by omega, by omega, by omega, by rw [ev22, ev23, ev24]; exact Or.inr (Or.inr (Or.inl ⟨rfl, by omega, by omega⟩)), by rw [ev21]; exact Or.inr ezn0, by omega, by rw [ev20]; exact hboE, by rw [ev22, ev23, ev24, ev20, ev21, ezn0, kf_eu_num (f := kf_sg F p0) (fun i => rfl) hkzE]; exact hnum⟩)
                                    · skip
                                      refine lv_aload_n hx hb dX6_step_240 rfl (lv_at hl 4 rfl) ?_
                                      refine va_get (D := (dC, dI)) (ci := 6) (v := .ref (ma 4)) (C := RX6) (T := TX6) (N := 44) hx hb hts kt_X6 hown hK hP 0 rfl rfl 4 (by decide) (kx_word hG kq_04_msmall_16 rfl) (fun _ h9 => h9) rfl dX6_step_241 ?_
                                      refine lv_bipush (v := iz 20) hx hb dX6_step_244 (by decide) ?_
                                      refine lv_iload_n hx hb dX6_step_246 rfl (lv_at hl 6 rfl) ?_
                                      refine ki_imul hx hb dX6_step_247 ?_
                                      refine lv_iload_n hx hb dX6_step_248 rfl (lv_at hl 3 rfl) ?_
                                      refine ki_iadd hx hb dX6_step_249 ?_
                                      refine ki_iald (F := F 4) hx hb hK hP 3 2 rfl rfl (by omega) (by omega) (by decide) dX6_step_250 ?_
                                      have hbd_118 := hB.2 4 ((20 * p0) + pz)
                                      refine ki_is (show iz (F 4 ((20 * p0) + pz)) = iz (kf_sg F p0 pz) from rfl) ?_
                                      have hsk_119 := hsg pz (by omega) (by omega)
                                      refine lv_bipush (v := iz 48) hx hb dX6_step_251 (by decide) ?_
                                      refine ki_icmp_ne (tgt := 262) hx hb dX6_step_253 (by decide) (by omega) (by omega) (by omega) (by omega) (fun c_120 => ?_) (fun c_120 => ?_)
                                      · skip
                                        have hkzE : kf_kz (kf_sg F p0) en (en - pa).toNat pa = pz := hkz.trans (kf_kz_stop (by omega))
                                        refine lv_aload_n hx hb dX6_step_262 rfl (lv_at hl 4 rfl) ?_
                                        refine va_get (D := (dC, dI)) (ci := 6) (v := .ref (ma 22)) (C := RX6) (T := TX6) (N := 44) hx hb hts kt_X6 hown hK hP 0 rfl rfl 22 (by decide) (kx_word hG kq_05_morder_2 rfl) (fun _ h9 => h9) rfl dX6_step_263 ?_
                                        refine lv_iload_n hx hb dX6_step_266 rfl (lv_at hl 5 rfl) ?_
                                        refine lv_iconst (v := iz 1) hx hb dX6_step_267 (by decide) ?_
                                        refine ki_iast (F := upI (F 22) sd (-1)) hx hb hK hP hD hS 17 16 rfl rfl (by omega) (by omega) (by decide) dX6_step_268 (fun H locs hP hD hS => ?_)
                                        have hP : va_P (dC, dI) kxCl (mW mo ma cs I (va_up (va_up (va_up (va_up (va_up (va_up F 20 (upI (F 20) sd pa)) 22 (upI (F 22) sd (-1))) 23 (upI (F 23) sd 0)) 24 (upI (F 24) sd 0)) 21 (upI (F 21) sd (vp_nar .boolean (iz 1)).toInt)) 22 (upI (upI (F 22) sd (-1)) sd 1))) H := hP
                                        have hD : va_D A (mW mo ma cs I (va_up (va_up (va_up (va_up (va_up (va_up F 20 (upI (F 20) sd pa)) 22 (upI (F 22) sd (-1))) 23 (upI (F 23) sd 0)) 24 (upI (F 24) sd 0)) 21 (upI (F 21) sd (vp_nar .boolean (iz 1)).toInt)) 22 (upI (upI (F 22) sd (-1)) sd 1))) := hD
                                        refine lv_aload_n hx hb dX6_step_269 rfl (lv_at hl 4 rfl) ?_
                                        refine va_get (D := (dC, dI)) (ci := 6) (v := .ref (ma 23)) (C := RX6) (T := TX6) (N := 44) hx hb hts kt_X6 hown hK hP 0 rfl rfl 23 (by decide) (kx_word hG kq_05_morder_3 rfl) (fun _ h9 => h9) rfl dX6_step_270 ?_
                                        refine lv_iload_n hx hb dX6_step_273 rfl (lv_at hl 5 rfl) ?_
                                        refine lv_bipush (v := iz 20) hx hb dX6_step_274 (by decide) ?_
                                        refine lv_iload_n hx hb dX6_step_276 rfl (lv_at hl 6 rfl) ?_
                                        refine ki_imul hx hb dX6_step_277 ?_
                                        refine lv_iload_n hx hb dX6_step_278 rfl (lv_at hl 3 rfl) ?_
                                        refine ki_iadd hx hb dX6_step_279 ?_
                                        refine ki_iast (F := upI (F 23) sd 0) hx hb hK hP hD hS 18 17 rfl rfl (by omega) (by omega) (by decide) dX6_step_280 (fun H locs hP hD hS => ?_)
                                        have hP : va_P (dC, dI) kxCl (mW mo ma cs I (va_up (va_up (va_up (va_up (va_up (va_up (va_up F 20 (upI (F 20) sd pa)) 22 (upI (F 22) sd (-1))) 23 (upI (F 23) sd 0)) 24 (upI (F 24) sd 0)) 21 (upI (F 21) sd (vp_nar .boolean (iz 1)).toInt)) 22 (upI (upI (F 22) sd (-1)) sd 1)) 23 (upI (upI (F 23) sd 0) sd ((20 * p0) + pz)))) H := hP
                                        have hD : va_D A (mW mo ma cs I (va_up (va_up (va_up (va_up (va_up (va_up (va_up F 20 (upI (F 20) sd pa)) 22 (upI (F 22) sd (-1))) 23 (upI (F 23) sd 0)) 24 (upI (F 24) sd 0)) 21 (upI (F 21) sd (vp_nar .boolean (iz 1)).toInt)) 22 (upI (upI (F 22) sd (-1)) sd 1)) 23 (upI (upI (F 23) sd 0) sd ((20 * p0) + pz)))) := hD
                                        refine lv_aload_n hx hb dX6_step_281 rfl (lv_at hl 4 rfl) ?_
                                        refine va_get (D := (dC, dI)) (ci := 6) (v := .ref (ma 24)) (C := RX6) (T := TX6) (N := 44) hx hb hts kt_X6 hown hK hP 0 rfl rfl 24 (by decide) (kx_word hG kq_05_morder_4 rfl) (fun _ h9 => h9) rfl dX6_step_282 ?_
                                        refine lv_iload_n hx hb dX6_step_285 rfl (lv_at hl 5 rfl) ?_
                                        refine lv_iload hx hb dX6_step_286 (lv_at hl 0 rfl) ?_
                                        refine lv_iload_n hx hb dX6_step_288 rfl (lv_at hl 3 rfl) ?_
                                        refine ki_isub hx hb dX6_step_289 ?_
                                        refine ki_iast (F := upI (F 24) sd 0) hx hb hK hP hD hS 19 18 rfl rfl (by omega) (by omega) (by decide) dX6_step_290 (fun H locs hP hD hS => ?_)
                                        have hP : va_P (dC, dI) kxCl (mW mo ma cs I (va_up (va_up (va_up (va_up (va_up (va_up (va_up (va_up F 20 (upI (F 20) sd pa)) 22 (upI (F 22) sd (-1))) 23 (upI (F 23) sd 0)) 24 (upI (F 24) sd 0)) 21 (upI (F 21) sd (vp_nar .boolean (iz 1)).toInt)) 22 (upI (upI (F 22) sd (-1)) sd 1)) 23 (upI (upI (F 23) sd 0) sd ((20 * p0) + pz))) 24 (upI (upI (F 24) sd 0) sd (en - pz)))) H := hP
                                        have hD : va_D A (mW mo ma cs I (va_up (va_up (va_up (va_up (va_up (va_up (va_up (va_up F 20 (upI (F 20) sd pa)) 22 (upI (F 22) sd (-1))) 23 (upI (F 23) sd 0)) 24 (upI (F 24) sd 0)) 21 (upI (F 21) sd (vp_nar .boolean (iz 1)).toInt)) 22 (upI (upI (F 22) sd (-1)) sd 1)) 23 (upI (upI (F 23) sd 0) sd ((20 * p0) + pz))) 24 (upI (upI (F 24) sd 0) sd (en - pz)))) := hD
                                        refine lv_aload_n hx hb dX6_step_291 rfl (lv_at hl 4 rfl) ?_
                                        refine va_get (D := (dC, dI)) (ci := 6) (v := .ref (ma 20)) (C := RX6) (T := TX6) (N := 44) hx hb hts kt_X6 hown hK hP 0 rfl rfl 20 (by decide) (kx_word hG kq_05_morder_0 rfl) (fun _ h9 => h9) rfl dX6_step_292 ?_
                                        refine lv_iload_n hx hb dX6_step_295 rfl (lv_at hl 5 rfl) ?_
                                        refine lv_iload hx hb dX6_step_296 (lv_at hl 0 rfl) ?_
                                        refine ki_iast (F := upI (F 20) sd pa) hx hb hK hP hD hS 15 14 rfl rfl (by omega) (by omega) (by decide) dX6_step_298 (fun H locs hP hD hS => ?_)
                                        have hP : va_P (dC, dI) kxCl (mW mo ma cs I (va_up (va_up (va_up (va_up (va_up (va_up (va_up (va_up (va_up F 20 (upI (F 20) sd pa)) 22 (upI (F 22) sd (-1))) 23 (upI (F 23) sd 0)) 24 (upI (F 24) sd 0)) 21 (upI (F 21) sd (vp_nar .boolean (iz 1)).toInt)) 22 (upI (upI (F 22) sd (-1)) sd 1)) 23 (upI (upI (F 23) sd 0) sd ((20 * p0) + pz))) 24 (upI (upI (F 24) sd 0) sd (en - pz))) 20 (upI (upI (F 20) sd pa) sd en))) H := hP
                                        have hD : va_D A (mW mo ma cs I (va_up (va_up (va_up (va_up (va_up (va_up (va_up (va_up (va_up F 20 (upI (F 20) sd pa)) 22 (upI (F 22) sd (-1))) 23 (upI (F 23) sd 0)) 24 (upI (F 24) sd 0)) 21 (upI (F 21) sd (vp_nar .boolean (iz 1)).toInt)) 22 (upI (upI (F 22) sd (-1)) sd 1)) 23 (upI (upI (F 23) sd 0) sd ((20 * p0) + pz))) 24 (upI (upI (F 24) sd 0) sd (en - pz))) 20 (upI (upI (F 20) sd pa) sd en))) := hD
                                        have ev20 : (va_up (va_up (va_up (va_up (va_up (va_up (va_up (va_up (va_up F 20 (upI (F 20) sd pa)) 22 (upI (F 22) sd (-1))) 23 (upI (F 23) sd 0)) 24 (upI (F 24) sd 0)) 21 (upI (F 21) sd (vp_nar .boolean (iz 1)).toInt)) 22 (upI (upI (F 22) sd (-1)) sd 1)) 23 (upI (upI (F 23) sd 0) sd ((20 * p0) + pz))) 24 (upI (upI (F 24) sd 0) sd (en - pz))) 20 (upI (upI (F 20) sd pa) sd en)) 20 sd = en := upI_self _ _ _
                                        have ev21 : (va_up (va_up (va_up (va_up (va_up (va_up (va_up (va_up (va_up F 20 (upI (F 20) sd pa)) 22 (upI (F 22) sd (-1))) 23 (upI (F 23) sd 0)) 24 (upI (F 24) sd 0)) 21 (upI (F 21) sd (vp_nar .boolean (iz 1)).toInt)) 22 (upI (upI (F 22) sd (-1)) sd 1)) 23 (upI (upI (F 23) sd 0) sd ((20 * p0) + pz))) 24 (upI (upI (F 24) sd 0) sd (en - pz))) 20 (upI (upI (F 20) sd pa) sd en)) 21 sd = (vp_nar .boolean (iz 1)).toInt := upI_self _ _ _
                                        have ev22 : (va_up (va_up (va_up (va_up (va_up (va_up (va_up (va_up (va_up F 20 (upI (F 20) sd pa)) 22 (upI (F 22) sd (-1))) 23 (upI (F 23) sd 0)) 24 (upI (F 24) sd 0)) 21 (upI (F 21) sd (vp_nar .boolean (iz 1)).toInt)) 22 (upI (upI (F 22) sd (-1)) sd 1)) 23 (upI (upI (F 23) sd 0) sd ((20 * p0) + pz))) 24 (upI (upI (F 24) sd 0) sd (en - pz))) 20 (upI (upI (F 20) sd pa) sd en)) 22 sd = 1 := upI_self _ _ _
                                        have ev23 : (va_up (va_up (va_up (va_up (va_up (va_up (va_up (va_up (va_up F 20 (upI (F 20) sd pa)) 22 (upI (F 22) sd (-1))) 23 (upI (F 23) sd 0)) 24 (upI (F 24) sd 0)) 21 (upI (F 21) sd (vp_nar .boolean (iz 1)).toInt)) 22 (upI (upI (F 22) sd (-1)) sd 1)) 23 (upI (upI (F 23) sd 0) sd ((20 * p0) + pz))) 24 (upI (upI (F 24) sd 0) sd (en - pz))) 20 (upI (upI (F 20) sd pa) sd en)) 23 sd = ((20 * p0) + pz) := upI_self _ _ _
                                        have ev24 : (va_up (va_up (va_up (va_up (va_up (va_up (va_up (va_up (va_up F 20 (upI (F 20) sd pa)) 22 (upI (F 22) sd (-1))) 23 (upI (F 23) sd 0)) 24 (upI (F 24) sd 0)) 21 (upI (F 21) sd (vp_nar .boolean (iz 1)).toInt)) 22 (upI (upI (F 22) sd (-1)) sd 1)) 23 (upI (upI (F 23) sd 0) sd ((20 * p0) + pz))) 24 (upI (upI (F 24) sd 0) sd (en - pz))) 20 (upI (upI (F 20) sd pa) sd en)) 24 sd = (en - pz) := upI_self _ _ _
                                        have ezn0 : (vp_nar .boolean (iz 1)).toInt = 1 := by decide
                                        have e_121 : (va_up (va_up (va_up (va_up (va_up (va_up (va_up (va_up (va_up F 20 (upI (F 20) sd pa)) 22 (upI (F 22) sd (-1))) 23 (upI (F 23) sd 0)) 24 (upI (F 24) sd 0)) 21 (upI (F 21) sd (vp_nar .boolean (iz 1)).toInt)) 22 (upI (upI (F 22) sd (-1)) sd 1)) 23 (upI (upI (F 23) sd 0) sd ((20 * p0) + pz))) 24 (upI (upI (F 24) sd 0) sd (en - pz))) 20 (upI (upI (F 20) sd pa) sd en)) 20 sd = en := upI_self _ _ _
                                        have e_122 : (va_up (va_up (va_up (va_up (va_up (va_up (va_up (va_up (va_up F 20 (upI (F 20) sd pa)) 22 (upI (F 22) sd (-1))) 23 (upI (F 23) sd 0)) 24 (upI (F 24) sd 0)) 21 (upI (F 21) sd (vp_nar .boolean (iz 1)).toInt)) 22 (upI (upI (F 22) sd (-1)) sd 1)) 23 (upI (upI (F 23) sd 0) sd ((20 * p0) + pz))) 24 (upI (upI (F 24) sd 0) sd (en - pz))) 20 (upI (upI (F 20) sd pa) sd en)) 22 sd = 1 := upI_self _ _ _
                                        have e_123 : (va_up (va_up (va_up (va_up (va_up (va_up (va_up (va_up (va_up F 20 (upI (F 20) sd pa)) 22 (upI (F 22) sd (-1))) 23 (upI (F 23) sd 0)) 24 (upI (F 24) sd 0)) 21 (upI (F 21) sd (vp_nar .boolean (iz 1)).toInt)) 22 (upI (upI (F 22) sd (-1)) sd 1)) 23 (upI (upI (F 23) sd 0) sd ((20 * p0) + pz))) 24 (upI (upI (F 24) sd 0) sd (en - pz))) 20 (upI (upI (F 20) sd pa) sd en)) 23 sd = (20 * p0) + pz := upI_self _ _ _
                                        have e_124 : (va_up (va_up (va_up (va_up (va_up (va_up (va_up (va_up (va_up F 20 (upI (F 20) sd pa)) 22 (upI (F 22) sd (-1))) 23 (upI (F 23) sd 0)) 24 (upI (F 24) sd 0)) 21 (upI (F 21) sd (vp_nar .boolean (iz 1)).toInt)) 22 (upI (upI (F 22) sd (-1)) sd 1)) 23 (upI (upI (F 23) sd 0) sd ((20 * p0) + pz))) 24 (upI (upI (F 24) sd 0) sd (en - pz))) 20 (upI (upI (F 20) sd pa) sd en)) 24 sd = en - pz := upI_self _ _ _
                                        have e_125 : (va_up (va_up (va_up (va_up (va_up (va_up (va_up (va_up (va_up F 20 (upI (F 20) sd pa)) 22 (upI (F 22) sd (-1))) 23 (upI (F 23) sd 0)) 24 (upI (F 24) sd 0)) 21 (upI (F 21) sd (vp_nar .boolean (iz 1)).toInt)) 22 (upI (upI (F 22) sd (-1)) sd 1)) 23 (upI (upI (F 23) sd 0) sd ((20 * p0) + pz))) 24 (upI (upI (F 24) sd 0) sd (en - pz))) 20 (upI (upI (F 20) sd pa) sd en)) 21 sd = (vp_nar .boolean (iz 1)).toInt := upI_self _ _ _
                                        rw [← hQe]
                                        exact mk_ret hx hb hr hlocks hP hD hK hS dX6_step_299 (⟨rfl, (mB_f (mB_f (mB_f (mB_f (mB_f (mB_f (mB_f (mB_f (mB_f hB 20 sd (by omega) (by omega)) 22 sd (by omega) (by omega)) 23 sd (by omega) (by omega)) 24 sd (by omega) (by omega)) 21 sd (iz_lo _) (iz_hi _)) 22 sd (by omega) (by omega)) 23 sd (by omega) (by omega)) 24 sd (by omega) (by omega)) 20 sd (by omega) (by omega)), (mfr.upF (mfr.upF (mfr.upF (mfr.upF (mfr.upF (mfr.upF (mfr.upF (mfr.upF (mfr.upF mfr.rf (by decide) _) (by decide) _) (by decide) _) (by decide) _) (by decide) _) (by decide) _) (by decide) _) (by decide) _) (by decide) _), (mo1.up (mo1.up (mo1.up (mo1.up (mo1.up (mo1.up (mo1.up (mo1.up (mo1.up mo1.rf 20 _) 22 _) 23 _) 24 _) 21 _) 22 _) 23 _) 24 _) 20 _), by omega, by omega, by omega, by rw [ev22, ev23, ev24]; exact Or.inr (Or.inr (Or.inl ⟨rfl, by omega, by omega⟩)), by rw [ev21]; exact Or.inr ezn0, by omega, by rw [ev20]; exact hboE, by rw [ev22, ev23, ev24, ev20, ev21, ezn0, kf_eu_num (f := kf_sg F p0) (fun i => rfl) hkzE]; exact hnum⟩)
                                      · skip
                                        refine lv_iinc (v := iz (pz + 1)) (lv' := [(3, .int (iz (pz + 1))), (6, .int (iz en)), (5, .int (iz (kf_sg F p0 pa))), (4, .int (iz ps)), (0, .ref mo), (1, .int (iz sd)), (2, .int (iz p0))]) hx hb dX6_step_256 hl (k := 3) rfl (iz_add pz 1) (by decide) rfl (fun ls hl => ?_)
                                        refine lv_goto (tgt := 234) hx hb dX6_step_259 (by decide) ?_
                                        exact ih234 (pz + 1) ⟨by omega, hkz.trans (kf_kz_step (by omega) (by omega))⟩ (by omega) _ _ hP hD hS ls (lv_sub hl [1, 2, 3, 0, 4, 5, 6] rfl)
                                exact lp234 _ pa ⟨by omega, rfl⟩ (Nat.lt_succ_self _) _ _ hP hD hS ls (lv_sub hl [0, 1, 2, 3, 4, 5, 6] rfl)
                              · omega
                    exact lp192 _ (pa + 1) ⟨by omega, Or.inl rfl, fun h9 => kf_ke_step (by omega) hkd⟩ (Nat.lt_succ_self _) _ _ hP hD hS ls (lv_sub hl [0, 1, 2, 3, 4, 5, 6] rfl)
                  · omega
                · skip
                  refine lv_aload_n hx hb dX6_step_107 rfl (lv_at hl 2 rfl) ?_
                  refine va_get (D := (dC, dI)) (ci := 6) (v := .int (iz (I 15))) (C := RX6) (T := TX6) (N := 44) hx hb hts kt_X6 hown hK hP 0 rfl rfl 15 (by decide) (kx_word hG kq_04_msmall_18 rfl) (fun _ h9 => h9) rfl dX6_step_108 ?_
                  have hbd_126 := hB.1 15
                  refine ki_if_eq (tgt := 131) hx hb dX6_step_111 (by decide) (by omega) (by omega) (fun c_127 => ?_) (fun c_127 => ?_)
                  · skip
                    have hK0 : kf_kI (kf_sg F p0) (F 5 p0) (I 14) (I 15) (F 20 sd) 0 (F 21 sd) = kf_kI (kf_sg F p0) (F 5 p0) (I 14) (I 15) pa 0 (F 21 sd) := by rcases hKy with ⟨-, h9⟩ | ⟨h7, h8, h6, -⟩ | ⟨-, -, h9⟩; exact h9; exact absurd h8 (by omega); exact h9
                    have hboP : kf_kbo (kf_sg F p0) (F 5 p0) (I 14) pa := by rcases hps with h9 | h9; rw [h9.2]; exact hbo; exact Or.inr (by have h8 := hprev h9.1; omega)
                    refine lv_aload_n hx hb dX6_step_131 rfl (lv_at hl 2 rfl) ?_
                    refine va_get (D := (dC, dI)) (ci := 6) (v := .ref (ma 21)) (C := RX6) (T := TX6) (N := 44) hx hb hts kt_X6 hown hK hP 0 rfl rfl 21 (by decide) (kx_word hG kq_05_morder_1 rfl) (fun _ h9 => h9) rfl dX6_step_132 ?_
                    refine lv_iload_n hx hb dX6_step_135 rfl (lv_at hl 3 rfl) ?_
                    refine lv_iconst (v := iz 1) hx hb dX6_step_136 (by decide) ?_
                    refine ki_zast (F := F 21) hx hb hK hP hD hS 16 15 rfl rfl (by omega) (by omega) (by decide) dX6_step_137 (fun H locs hP hD hS => ?_)
                    have hP : va_P (dC, dI) kxCl (mW mo ma cs I (va_up (va_up (va_up (va_up (va_up F 20 (upI (F 20) sd pa)) 22 (upI (F 22) sd (-1))) 23 (upI (F 23) sd 0)) 24 (upI (F 24) sd 0)) 21 (upI (F 21) sd (vp_nar .boolean (iz 1)).toInt))) H := hP
                    have hD : va_D A (mW mo ma cs I (va_up (va_up (va_up (va_up (va_up F 20 (upI (F 20) sd pa)) 22 (upI (F 22) sd (-1))) 23 (upI (F 23) sd 0)) 24 (upI (F 24) sd 0)) 21 (upI (F 21) sd (vp_nar .boolean (iz 1)).toInt))) := hD
                    refine lv_aload_n hx hb dX6_step_138 rfl (lv_at hl 2 rfl) ?_
                    refine va_get (D := (dC, dI)) (ci := 6) (v := .ref (ma 4)) (C := RX6) (T := TX6) (N := 44) hx hb hts kt_X6 hown hK hP 0 rfl rfl 4 (by decide) (kx_word hG kq_04_msmall_16 rfl) (fun _ h9 => h9) rfl dX6_step_139 ?_
                    refine lv_bipush (v := iz 20) hx hb dX6_step_142 (by decide) ?_
                    refine lv_iload_n hx hb dX6_step_144 rfl (lv_at hl 4 rfl) ?_
                    refine ki_imul hx hb dX6_step_145 ?_
                    refine lv_iload_n hx hb dX6_step_146 rfl (lv_at hl 1 rfl) ?_
                    refine ki_iadd hx hb dX6_step_147 ?_
                    refine ki_iald (F := F 4) hx hb hK hP 3 2 rfl rfl (by omega) (by omega) (by decide) dX6_step_148 ?_
                    refine ki_is (show iz (F 4 ((20 * p0) + pa)) = iz (kf_sg F p0 pa) from rfl) ?_
                    have hsk_128 := hsg pa (by omega) (by omega)
                    refine lv_istore (lv' := [(5, .int (iz (kf_sg F p0 pa))), (4, .int (iz ps)), (3, .int (iz pa)), (0, .ref mo), (1, .int (iz sd)), (2, .int (iz p0))]) hx hb dX6_step_149 hl (by decide) rfl (fun ls hl => ?_)
                    refine lv_iload hx hb dX6_step_151 (lv_at hl 0 rfl) ?_
                    refine mk_calls (As := [.int (iz (kf_sg F p0 pa))]) (rest := []) ⟨hx, hb, hml, hown, hts⟩ (k_letterOf2 l dC dI (kf_sg F p0 pa) H.size (by omega) (by omega) (hsg pa (by omega) (by omega))) (va_cwS 1 hts (kx_gS kq_05_morder_5 kq_05_morder_6 kq_04_msmall_6 kq_05_morder_7 rfl) rfl rfl rfl (by decide +kernel) ⟨Nat.le_of_ble_eq_true rfl, Nat.le_of_ble_eq_true rfl⟩) hP hD hK hG hZ hS hA rfl hl.1 rfl (Nat.le_of_ble_eq_true rfl) dX6_step_153 ⟨Nat.le_of_ble_eq_true rfl, Nat.le_of_ble_eq_true rfl⟩ (fun z_129 H locs hq_130 hP hS => ?_)
                    try dsimp only at hq_130
                    subst hq_130
                    refine W.eq (g2 := F0 m 156 ls [.int (iz (kf_kl (kf_sg F p0 pa)))]) rfl ?_
                    have hklb_131 := kf_kl_bd (kf_sg F p0 pa)
                    refine ki_if_le (tgt := 187) hx hb dX6_step_156 (by decide) (by omega) (by omega) (fun c_132 => ?_) (fun c_132 => ?_)
                    · skip
                      have hkd : kf_kd (kf_sg F p0 pa) := by omega
                      have hbo2 : ¬ I 14 = 0 → ¬ (0 < pa ∧ kf_kd (kf_sg F p0 (pa - 1))) := fun h9 => by rcases hboP with h8 | h8; exact absurd h8 h9; exact fun h7 => h8 ⟨by omega, h7.1, hkd, h7.2⟩
                      refine lv_iload_n hx hb dX6_step_187 rfl (lv_at hl 2 rfl) ?_
                      refine lv_iconst (v := iz 1) hx hb dX6_step_188 (by decide) ?_
                      refine ki_iadd hx hb dX6_step_189 ?_
                      refine lv_istore (lv' := [(6, .int (iz (pa + 1))), (5, .int (iz (kf_sg F p0 pa))), (4, .int (iz ps)), (3, .int (iz pa)), (0, .ref mo), (1, .int (iz sd)), (2, .int (iz p0))]) hx hb dX6_step_190 hl (by decide) rfl (fun ls hl => ?_)
                      have lp192 : ∀ (n : Nat) (en : Int), ((pa + 1 ≤ en ∧ en ≤ F 5 p0) ∧ (en = pa + 1 ∨ ¬ I 14 = 0) ∧ (¬ I 14 = 0 → kf_ke (kf_sg F p0) (F 5 p0) (F 5 p0 - pa).toNat pa = kf_ke (kf_sg F p0) (F 5 p0) (F 5 p0 - en).toNat en)) → (F 5 p0 - en).toNat < n → ∀ (H : Heap) (locs : List Loc), va_P (dC, dI) kxCl (mW mo ma cs I (va_up (va_up (va_up (va_up (va_up F 20 (upI (F 20) sd pa)) 22 (upI (F 22) sd (-1))) 23 (upI (F 23) sd 0)) 24 (upI (F 24) sd 0)) 21 (upI (F 21) sd (vp_nar .boolean (iz 1)).toInt))) H → va_D A (mW mo ma cs I (va_up (va_up (va_up (va_up (va_up F 20 (upI (F 20) sd pa)) 22 (upI (F 22) sd (-1))) 23 (upI (F 23) sd 0)) 24 (upI (F 24) sd 0)) 21 (upI (F 21) sd (vp_nar .boolean (iz 1)).toInt))) → va_S A s.heap H locs → ∀ ls : Array Slot, lv_has ls 7 [(6, .int (iz en)), (5, .int (iz (kf_sg F p0 pa))), (4, .int (iz ps)), (3, .int (iz pa)), (0, .ref mo), (1, .int (iz sd)), (2, .int (iz p0))] → W p l e (headSpec [.code yX6_step cX6_step 7 none] ({ frames := 1, cells := 0, slots := 0, locals := 21 })).room s m ([.ref mo, .int (iz sd), .int (iz p0)] : List Value).toArray below meth c H locs 0 0 QQ (F0 m 192 ls []) := by
                        intro n
                        induction n with
                        | zero => intro en hinv hm; exact absurd hm (Nat.not_lt_zero _)
                        | succ n ih192 =>
                          intro en hinv hm H locs hP hD hS ls hl
                          obtain ⟨hen, hen0, hke⟩ := hinv
                          refine lv_aload_n hx hb dX6_step_192 rfl (lv_at hl 4 rfl) ?_
                          refine va_get (D := (dC, dI)) (ci := 6) (v := .int (iz (I 14))) (C := RX6) (T := TX6) (N := 44) hx hb hts kt_X6 hown hK hP 0 rfl rfl 14 (by decide) (kx_word hG kq_04_msmall_17 rfl) (fun _ h9 => h9) rfl dX6_step_193 ?_
                          have hbd_133 := hB.1 14
                          refine ki_if_eq (tgt := 234) hx hb dX6_step_196 (by decide) (by omega) (by omega) (fun c_134 => ?_) (fun c_134 => ?_)
                          · skip
                            have hkeE : ¬ I 14 = 0 → kf_ke (kf_sg F p0) (F 5 p0) (F 5 p0 - pa).toNat pa = en := fun h9 => (hke h9).trans (kf_ke_stop (by omega))
                            have hen1 : I 14 = 0 → en = pa + 1 := fun h9 => by rcases hen0 with h8 | h8; exact h8; exact absurd h9 h8
                            have hnum : kf_kI (kf_sg F p0) (F 5 p0) (I 14) (I 15) (F 20 sd) 0 (F 21 sd) = kf_kn (kf_sg F p0) pa en ++ kf_kI (kf_sg F p0) (F 5 p0) (I 14) (I 15) en 0 1 := by by_cases h9 : I 14 = 0; rw [hen1 h9]; exact hK0.trans (kf_kI_one (kf_sg F p0) (F 5 p0) (I 14) (I 15) pa 0 (F 21 sd) 1 (by omega) hkd h9 rfl (by omega)); have h7 := hK0.trans (kf_kI_whole (kf_sg F p0) (F 5 p0) (I 14) (I 15) pa 0 (F 21 sd) 1 (by omega) (by omega) hkd h9 (hbo2 h9) rfl (by omega)); rw [hkeE h9] at h7; exact h7
                            have hboE : kf_kbo (kf_sg F p0) (F 5 p0) (I 14) en := by by_cases h9 : I 14 = 0; exact Or.inl h9; exact Or.inr (fun h7 => by have h6 := (kf_ke_run (kf_sg F p0) (F 5 p0) (F 5 p0 - pa).toNat pa (by omega) (Nat.le_refl _)).2; rw [hkeE h9] at h6; exact h6 h7.1 h7.2.2.1)
                            have lp234 : ∀ (n : Nat) (pz : Int), ((pa ≤ pz ∧ pz ≤ en) ∧ (kf_kz (kf_sg F p0) en (en - pa).toNat pa = kf_kz (kf_sg F p0) en (en - pz).toNat pz)) → (en - pz).toNat < n → ∀ (H : Heap) (locs : List Loc), va_P (dC, dI) kxCl (mW mo ma cs I (va_up (va_up (va_up (va_up (va_up F 20 (upI (F 20) sd pa)) 22 (upI (F 22) sd (-1))) 23 (upI (F 23) sd 0)) 24 (upI (F 24) sd 0)) 21 (upI (F 21) sd (vp_nar .boolean (iz 1)).toInt))) H → va_D A (mW mo ma cs I (va_up (va_up (va_up (va_up (va_up F 20 (upI (F 20) sd pa)) 22 (upI (F 22) sd (-1))) 23 (upI (F 23) sd 0)) 24 (upI (F 24) sd 0)) 21 (upI (F 21) sd (vp_nar .boolean (iz 1)).toInt))) → va_S A s.heap H locs → ∀ ls : Array Slot, lv_has ls 7 [(6, .int (iz en)), (5, .int (iz (kf_sg F p0 pa))), (4, .int (iz ps)), (3, .int (iz pz)), (0, .ref mo), (1, .int (iz sd)), (2, .int (iz p0))] → W p l e (headSpec [.code yX6_step cX6_step 7 none] ({ frames := 1, cells := 0, slots := 0, locals := 21 })).room s m ([.ref mo, .int (iz sd), .int (iz p0)] : List Value).toArray below meth c H locs 0 0 QQ (F0 m 234 ls []) := by
                              intro n
                              induction n with
                              | zero => intro pz hinv hm; exact absurd hm (Nat.not_lt_zero _)
                              | succ n ih234 =>
                                intro pz hinv hm H locs hP hD hS ls hl
                                obtain ⟨hpz, hkz⟩ := hinv
                                refine lv_iload_n hx hb dX6_step_234 rfl (lv_at hl 3 rfl) ?_
                                refine lv_iload hx hb dX6_step_235 (lv_at hl 0 rfl) ?_
                                refine ki_icmp_ge (tgt := 262) hx hb dX6_step_237 (by decide) (by omega) (by omega) (by omega) (by omega) (fun c_135 => ?_) (fun c_135 => ?_)
                                · skip
                                  have hkzE : kf_kz (kf_sg F p0) en (en - pa).toNat pa = pz := hkz.trans (kf_kz_stop (by omega))
                                  refine lv_aload_n hx hb dX6_step_262 rfl (lv_at hl 4 rfl) ?_
                                  refine va_get (D := (dC, dI)) (ci := 6) (v := .ref (ma 22)) (C := RX6) (T := TX6) (N := 44) hx hb hts kt_X6 hown hK hP 0 rfl rfl 22 (by decide) (kx_word hG kq_05_morder_2 rfl) (fun _ h9 => h9) rfl dX6_step_263 ?_
                                  refine lv_iload_n hx hb dX6_step_266 rfl (lv_at hl 5 rfl) ?_
                                  refine lv_iconst (v := iz 1) hx hb dX6_step_267 (by decide) ?_
                                  refine ki_iast (F := upI (F 22) sd (-1)) hx hb hK hP hD hS 17 16 rfl rfl (by omega) (by omega) (by decide) dX6_step_268 (fun H locs hP hD hS => ?_)
                                  have hP : va_P (dC, dI) kxCl (mW mo ma cs I (va_up (va_up (va_up (va_up (va_up (va_up F 20 (upI (F 20) sd pa)) 22 (upI (F 22) sd (-1))) 23 (upI (F 23) sd 0)) 24 (upI (F 24) sd 0)) 21 (upI (F 21) sd (vp_nar .boolean (iz 1)).toInt)) 22 (upI (upI (F 22) sd (-1)) sd 1))) H := hP
                                  have hD : va_D A (mW mo ma cs I (va_up (va_up (va_up (va_up (va_up (va_up F 20 (upI (F 20) sd pa)) 22 (upI (F 22) sd (-1))) 23 (upI (F 23) sd 0)) 24 (upI (F 24) sd 0)) 21 (upI (F 21) sd (vp_nar .boolean (iz 1)).toInt)) 22 (upI (upI (F 22) sd (-1)) sd 1))) := hD
                                  refine lv_aload_n hx hb dX6_step_269 rfl (lv_at hl 4 rfl) ?_
                                  refine va_get (D := (dC, dI)) (ci := 6) (v := .ref (ma 23)) (C := RX6) (T := TX6) (N := 44) hx hb hts kt_X6 hown hK hP 0 rfl rfl 23 (by decide) (kx_word hG kq_05_morder_3 rfl) (fun _ h9 => h9) rfl dX6_step_270 ?_
                                  refine lv_iload_n hx hb dX6_step_273 rfl (lv_at hl 5 rfl) ?_
                                  refine lv_bipush (v := iz 20) hx hb dX6_step_274 (by decide) ?_
                                  refine lv_iload_n hx hb dX6_step_276 rfl (lv_at hl 6 rfl) ?_
                                  refine ki_imul hx hb dX6_step_277 ?_
                                  refine lv_iload_n hx hb dX6_step_278 rfl (lv_at hl 3 rfl) ?_
                                  refine ki_iadd hx hb dX6_step_279 ?_
                                  refine ki_iast (F := upI (F 23) sd 0) hx hb hK hP hD hS 18 17 rfl rfl (by omega) (by omega) (by decide) dX6_step_280 (fun H locs hP hD hS => ?_)
                                  have hP : va_P (dC, dI) kxCl (mW mo ma cs I (va_up (va_up (va_up (va_up (va_up (va_up (va_up F 20 (upI (F 20) sd pa)) 22 (upI (F 22) sd (-1))) 23 (upI (F 23) sd 0)) 24 (upI (F 24) sd 0)) 21 (upI (F 21) sd (vp_nar .boolean (iz 1)).toInt)) 22 (upI (upI (F 22) sd (-1)) sd 1)) 23 (upI (upI (F 23) sd 0) sd ((20 * p0) + pz)))) H := hP
                                  have hD : va_D A (mW mo ma cs I (va_up (va_up (va_up (va_up (va_up (va_up (va_up F 20 (upI (F 20) sd pa)) 22 (upI (F 22) sd (-1))) 23 (upI (F 23) sd 0)) 24 (upI (F 24) sd 0)) 21 (upI (F 21) sd (vp_nar .boolean (iz 1)).toInt)) 22 (upI (upI (F 22) sd (-1)) sd 1)) 23 (upI (upI (F 23) sd 0) sd ((20 * p0) + pz)))) := hD
                                  refine lv_aload_n hx hb dX6_step_281 rfl (lv_at hl 4 rfl) ?_
                                  refine va_get (D := (dC, dI)) (ci := 6) (v := .ref (ma 24)) (C := RX6) (T := TX6) (N := 44) hx hb hts kt_X6 hown hK hP 0 rfl rfl 24 (by decide) (kx_word hG kq_05_morder_4 rfl) (fun _ h9 => h9) rfl dX6_step_282 ?_
                                  refine lv_iload_n hx hb dX6_step_285 rfl (lv_at hl 5 rfl) ?_
                                  refine lv_iload hx hb dX6_step_286 (lv_at hl 0 rfl) ?_
                                  refine lv_iload_n hx hb dX6_step_288 rfl (lv_at hl 3 rfl) ?_
                                  refine ki_isub hx hb dX6_step_289 ?_
                                  refine ki_iast (F := upI (F 24) sd 0) hx hb hK hP hD hS 19 18 rfl rfl (by omega) (by omega) (by decide) dX6_step_290 (fun H locs hP hD hS => ?_)
                                  have hP : va_P (dC, dI) kxCl (mW mo ma cs I (va_up (va_up (va_up (va_up (va_up (va_up (va_up (va_up F 20 (upI (F 20) sd pa)) 22 (upI (F 22) sd (-1))) 23 (upI (F 23) sd 0)) 24 (upI (F 24) sd 0)) 21 (upI (F 21) sd (vp_nar .boolean (iz 1)).toInt)) 22 (upI (upI (F 22) sd (-1)) sd 1)) 23 (upI (upI (F 23) sd 0) sd ((20 * p0) + pz))) 24 (upI (upI (F 24) sd 0) sd (en - pz)))) H := hP
                                  have hD : va_D A (mW mo ma cs I (va_up (va_up (va_up (va_up (va_up (va_up (va_up (va_up F 20 (upI (F 20) sd pa)) 22 (upI (F 22) sd (-1))) 23 (upI (F 23) sd 0)) 24 (upI (F 24) sd 0)) 21 (upI (F 21) sd (vp_nar .boolean (iz 1)).toInt)) 22 (upI (upI (F 22) sd (-1)) sd 1)) 23 (upI (upI (F 23) sd 0) sd ((20 * p0) + pz))) 24 (upI (upI (F 24) sd 0) sd (en - pz)))) := hD
                                  refine lv_aload_n hx hb dX6_step_291 rfl (lv_at hl 4 rfl) ?_
                                  refine va_get (D := (dC, dI)) (ci := 6) (v := .ref (ma 20)) (C := RX6) (T := TX6) (N := 44) hx hb hts kt_X6 hown hK hP 0 rfl rfl 20 (by decide) (kx_word hG kq_05_morder_0 rfl) (fun _ h9 => h9) rfl dX6_step_292 ?_
                                  refine lv_iload_n hx hb dX6_step_295 rfl (lv_at hl 5 rfl) ?_
                                  refine lv_iload hx hb dX6_step_296 (lv_at hl 0 rfl) ?_
                                  refine ki_iast (F := upI (F 20) sd pa) hx hb hK hP hD hS 15 14 rfl rfl (by omega) (by omega) (by decide) dX6_step_298 (fun H locs hP hD hS => ?_)
                                  have hP : va_P (dC, dI) kxCl (mW mo ma cs I (va_up (va_up (va_up (va_up (va_up (va_up (va_up (va_up (va_up F 20 (upI (F 20) sd pa)) 22 (upI (F 22) sd (-1))) 23 (upI (F 23) sd 0)) 24 (upI (F 24) sd 0)) 21 (upI (F 21) sd (vp_nar .boolean (iz 1)).toInt)) 22 (upI (upI (F 22) sd (-1)) sd 1)) 23 (upI (upI (F 23) sd 0) sd ((20 * p0) + pz))) 24 (upI (upI (F 24) sd 0) sd (en - pz))) 20 (upI (upI (F 20) sd pa) sd en))) H := hP
                                  have hD : va_D A (mW mo ma cs I (va_up (va_up (va_up (va_up (va_up (va_up (va_up (va_up (va_up F 20 (upI (F 20) sd pa)) 22 (upI (F 22) sd (-1))) 23 (upI (F 23) sd 0)) 24 (upI (F 24) sd 0)) 21 (upI (F 21) sd (vp_nar .boolean (iz 1)).toInt)) 22 (upI (upI (F 22) sd (-1)) sd 1)) 23 (upI (upI (F 23) sd 0) sd ((20 * p0) + pz))) 24 (upI (upI (F 24) sd 0) sd (en - pz))) 20 (upI (upI (F 20) sd pa) sd en))) := hD
                                  have ev20 : (va_up (va_up (va_up (va_up (va_up (va_up (va_up (va_up (va_up F 20 (upI (F 20) sd pa)) 22 (upI (F 22) sd (-1))) 23 (upI (F 23) sd 0)) 24 (upI (F 24) sd 0)) 21 (upI (F 21) sd (vp_nar .boolean (iz 1)).toInt)) 22 (upI (upI (F 22) sd (-1)) sd 1)) 23 (upI (upI (F 23) sd 0) sd ((20 * p0) + pz))) 24 (upI (upI (F 24) sd 0) sd (en - pz))) 20 (upI (upI (F 20) sd pa) sd en)) 20 sd = en := upI_self _ _ _
                                  have ev21 : (va_up (va_up (va_up (va_up (va_up (va_up (va_up (va_up (va_up F 20 (upI (F 20) sd pa)) 22 (upI (F 22) sd (-1))) 23 (upI (F 23) sd 0)) 24 (upI (F 24) sd 0)) 21 (upI (F 21) sd (vp_nar .boolean (iz 1)).toInt)) 22 (upI (upI (F 22) sd (-1)) sd 1)) 23 (upI (upI (F 23) sd 0) sd ((20 * p0) + pz))) 24 (upI (upI (F 24) sd 0) sd (en - pz))) 20 (upI (upI (F 20) sd pa) sd en)) 21 sd = (vp_nar .boolean (iz 1)).toInt := upI_self _ _ _
                                  have ev22 : (va_up (va_up (va_up (va_up (va_up (va_up (va_up (va_up (va_up F 20 (upI (F 20) sd pa)) 22 (upI (F 22) sd (-1))) 23 (upI (F 23) sd 0)) 24 (upI (F 24) sd 0)) 21 (upI (F 21) sd (vp_nar .boolean (iz 1)).toInt)) 22 (upI (upI (F 22) sd (-1)) sd 1)) 23 (upI (upI (F 23) sd 0) sd ((20 * p0) + pz))) 24 (upI (upI (F 24) sd 0) sd (en - pz))) 20 (upI (upI (F 20) sd pa) sd en)) 22 sd = 1 := upI_self _ _ _
                                  have ev23 : (va_up (va_up (va_up (va_up (va_up (va_up (va_up (va_up (va_up F 20 (upI (F 20) sd pa)) 22 (upI (F 22) sd (-1))) 23 (upI (F 23) sd 0)) 24 (upI (F 24) sd 0)) 21 (upI (F 21) sd (vp_nar .boolean (iz 1)).toInt)) 22 (upI (upI (F 22) sd (-1)) sd 1)) 23 (upI (upI (F 23) sd 0) sd ((20 * p0) + pz))) 24 (upI (upI (F 24) sd 0) sd (en - pz))) 20 (upI (upI (F 20) sd pa) sd en)) 23 sd = ((20 * p0) + pz) := upI_self _ _ _
                                  have ev24 : (va_up (va_up (va_up (va_up (va_up (va_up (va_up (va_up (va_up F 20 (upI (F 20) sd pa)) 22 (upI (F 22) sd (-1))) 23 (upI (F 23) sd 0)) 24 (upI (F 24) sd 0)) 21 (upI (F 21) sd (vp_nar .boolean (iz 1)).toInt)) 22 (upI (upI (F 22) sd (-1)) sd 1)) 23 (upI (upI (F 23) sd 0) sd ((20 * p0) + pz))) 24 (upI (upI (F 24) sd 0) sd (en - pz))) 20 (upI (upI (F 20) sd pa) sd en)) 24 sd = (en - pz) := upI_self _ _ _
                                  have ezn0 : (vp_nar .boolean (iz 1)).toInt = 1 := by decide
                                  have e_136 : (va_up (va_up (va_up (va_up (va_up (va_up (va_up (va_up (va_up F 20 (upI (F 20) sd pa)) 22 (upI (F 22) sd (-1))) 23 (upI (F 23) sd 0)) 24 (upI (F 24) sd 0)) 21 (upI (F 21) sd (vp_nar .boolean (iz 1)).toInt)) 22 (upI (upI (F 22) sd (-1)) sd 1)) 23 (upI (upI (F 23) sd 0) sd ((20 * p0) + pz))) 24 (upI (upI (F 24) sd 0) sd (en - pz))) 20 (upI (upI (F 20) sd pa) sd en)) 20 sd = en := upI_self _ _ _
                                  have e_137 : (va_up (va_up (va_up (va_up (va_up (va_up (va_up (va_up (va_up F 20 (upI (F 20) sd pa)) 22 (upI (F 22) sd (-1))) 23 (upI (F 23) sd 0)) 24 (upI (F 24) sd 0)) 21 (upI (F 21) sd (vp_nar .boolean (iz 1)).toInt)) 22 (upI (upI (F 22) sd (-1)) sd 1)) 23 (upI (upI (F 23) sd 0) sd ((20 * p0) + pz))) 24 (upI (upI (F 24) sd 0) sd (en - pz))) 20 (upI (upI (F 20) sd pa) sd en)) 22 sd = 1 := upI_self _ _ _
                                  have e_138 : (va_up (va_up (va_up (va_up (va_up (va_up (va_up (va_up (va_up F 20 (upI (F 20) sd pa)) 22 (upI (F 22) sd (-1))) 23 (upI (F 23) sd 0)) 24 (upI (F 24) sd 0)) 21 (upI (F 21) sd (vp_nar .boolean (iz 1)).toInt)) 22 (upI (upI (F 22) sd (-1)) sd 1)) 23 (upI (upI (F 23) sd 0) sd ((20 * p0) + pz))) 24 (upI (upI (F 24) sd 0) sd (en - pz))) 20 (upI (upI (F 20) sd pa) sd en)) 23 sd = (20 * p0) + pz := upI_self _ _ _
                                  have e_139 : (va_up (va_up (va_up (va_up (va_up (va_up (va_up (va_up (va_up F 20 (upI (F 20) sd pa)) 22 (upI (F 22) sd (-1))) 23 (upI (F 23) sd 0)) 24 (upI (F 24) sd 0)) 21 (upI (F 21) sd (vp_nar .boolean (iz 1)).toInt)) 22 (upI (upI (F 22) sd (-1)) sd 1)) 23 (upI (upI (F 23) sd 0) sd ((20 * p0) + pz))) 24 (upI (upI (F 24) sd 0) sd (en - pz))) 20 (upI (upI (F 20) sd pa) sd en)) 24 sd = en - pz := upI_self _ _ _
                                  have e_140 : (va_up (va_up (va_up (va_up (va_up (va_up (va_up (va_up (va_up F 20 (upI (F 20) sd pa)) 22 (upI (F 22) sd (-1))) 23 (upI (F 23) sd 0)) 24 (upI (F 24) sd 0)) 21 (upI (F 21) sd (vp_nar .boolean (iz 1)).toInt)) 22 (upI (upI (F 22) sd (-1)) sd 1)) 23 (upI (upI (F 23) sd 0) sd ((20 * p0) + pz))) 24 (upI (upI (F 24) sd 0) sd (en - pz))) 20 (upI (upI (F 20) sd pa) sd en)) 21 sd = (vp_nar .boolean (iz 1)).toInt := upI_self _ _ _
                                  rw [← hQe]
                                  exact mk_ret hx hb hr hlocks hP hD hK hS dX6_step_299 (⟨rfl, (mB_f (mB_f (mB_f (mB_f (mB_f (mB_f (mB_f (mB_f (mB_f hB 20 sd (by omega) (by omega)) 22 sd (by omega) (by omega)) 23 sd (by omega) (by omega)) 24 sd (by omega) (by omega)) 21 sd (iz_lo _) (iz_hi _)) 22 sd (by omega) (by omega)) 23 sd (by omega) (by omega)) 24 sd (by omega) (by omega)) 20 sd (by omega) (by omega)), (mfr.upF (mfr.upF (mfr.upF (mfr.upF (mfr.upF (mfr.upF (mfr.upF (mfr.upF (mfr.upF mfr.rf (by decide) _) (by decide) _) (by decide) _) (by decide) _) (by decide) _) (by decide) _) (by decide) _) (by decide) _) (by decide) _), (mo1.up (mo1.up (mo1.up (mo1.up (mo1.up (mo1.up (mo1.up (mo1.up (mo1.up mo1.rf 20 _) 22 _) 23 _) 24 _) 21 _) 22 _) 23 _) 24 _) 20 _), by omega, by omega, by omega, by rw [ev22, ev23, ev24]; exact Or.inr (Or.inr (Or.inl ⟨rfl, by omega, by omega⟩)), by rw [ev21]; exact Or.inr ezn0, by omega, by rw [ev20]; exact hboE, by rw [ev22, ev23, ev24, ev20, ev21, ezn0, kf_eu_num (f := kf_sg F p0) (fun i => rfl) hkzE]; exact hnum⟩)
                                · skip
                                  refine lv_aload_n hx hb dX6_step_240 rfl (lv_at hl 4 rfl) ?_
                                  refine va_get (D := (dC, dI)) (ci := 6) (v := .ref (ma 4)) (C := RX6) (T := TX6) (N := 44) hx hb hts kt_X6 hown hK hP 0 rfl rfl 4 (by decide) (kx_word hG kq_04_msmall_16 rfl) (fun _ h9 => h9) rfl dX6_step_241 ?_
                                  refine lv_bipush (v := iz 20) hx hb dX6_step_244 (by decide) ?_
                                  refine lv_iload_n hx hb dX6_step_246 rfl (lv_at hl 6 rfl) ?_
                                  refine ki_imul hx hb dX6_step_247 ?_
                                  refine lv_iload_n hx hb dX6_step_248 rfl (lv_at hl 3 rfl) ?_
                                  refine ki_iadd hx hb dX6_step_249 ?_
                                  refine ki_iald (F := F 4) hx hb hK hP 3 2 rfl rfl (by omega) (by omega) (by decide) dX6_step_250 ?_
                                  have hbd_141 := hB.2 4 ((20 * p0) + pz)
                                  refine ki_is (show iz (F 4 ((20 * p0) + pz)) = iz (kf_sg F p0 pz) from rfl) ?_
                                  have hsk_142 := hsg pz (by omega) (by omega)
                                  refine lv_bipush (v := iz 48) hx hb dX6_step_251 (by decide) ?_
                                  refine ki_icmp_ne (tgt := 262) hx hb dX6_step_253 (by decide) (by omega) (by omega) (by omega) (by omega) (fun c_143 => ?_) (fun c_143 => ?_)
                                  · skip
                                    have hkzE : kf_kz (kf_sg F p0) en (en - pa).toNat pa = pz := hkz.trans (kf_kz_stop (by omega))
                                    refine lv_aload_n hx hb dX6_step_262 rfl (lv_at hl 4 rfl) ?_
                                    refine va_get (D := (dC, dI)) (ci := 6) (v := .ref (ma 22)) (C := RX6) (T := TX6) (N := 44) hx hb hts kt_X6 hown hK hP 0 rfl rfl 22 (by decide) (kx_word hG kq_05_morder_2 rfl) (fun _ h9 => h9) rfl dX6_step_263 ?_
                                    refine lv_iload_n hx hb dX6_step_266 rfl (lv_at hl 5 rfl) ?_
                                    refine lv_iconst (v := iz 1) hx hb dX6_step_267 (by decide) ?_
                                    refine ki_iast (F := upI (F 22) sd (-1)) hx hb hK hP hD hS 17 16 rfl rfl (by omega) (by omega) (by decide) dX6_step_268 (fun H locs hP hD hS => ?_)
                                    have hP : va_P (dC, dI) kxCl (mW mo ma cs I (va_up (va_up (va_up (va_up (va_up (va_up F 20 (upI (F 20) sd pa)) 22 (upI (F 22) sd (-1))) 23 (upI (F 23) sd 0)) 24 (upI (F 24) sd 0)) 21 (upI (F 21) sd (vp_nar .boolean (iz 1)).toInt)) 22 (upI (upI (F 22) sd (-1)) sd 1))) H := hP
                                    have hD : va_D A (mW mo ma cs I (va_up (va_up (va_up (va_up (va_up (va_up F 20 (upI (F 20) sd pa)) 22 (upI (F 22) sd (-1))) 23 (upI (F 23) sd 0)) 24 (upI (F 24) sd 0)) 21 (upI (F 21) sd (vp_nar .boolean (iz 1)).toInt)) 22 (upI (upI (F 22) sd (-1)) sd 1))) := hD
                                    refine lv_aload_n hx hb dX6_step_269 rfl (lv_at hl 4 rfl) ?_
                                    refine va_get (D := (dC, dI)) (ci := 6) (v := .ref (ma 23)) (C := RX6) (T := TX6) (N := 44) hx hb hts kt_X6 hown hK hP 0 rfl rfl 23 (by decide) (kx_word hG kq_05_morder_3 rfl) (fun _ h9 => h9) rfl dX6_step_270 ?_
                                    refine lv_iload_n hx hb dX6_step_273 rfl (lv_at hl 5 rfl) ?_
                                    refine lv_bipush (v := iz 20) hx hb dX6_step_274 (by decide) ?_
                                    refine lv_iload_n hx hb dX6_step_276 rfl (lv_at hl 6 rfl) ?_
                                    refine ki_imul hx hb dX6_step_277 ?_
                                    refine lv_iload_n hx hb dX6_step_278 rfl (lv_at hl 3 rfl) ?_
                                    refine ki_iadd hx hb dX6_step_279 ?_
                                    refine ki_iast (F := upI (F 23) sd 0) hx hb hK hP hD hS 18 17 rfl rfl (by omega) (by omega) (by decide) dX6_step_280 (fun H locs hP hD hS => ?_)
                                    have hP : va_P (dC, dI) kxCl (mW mo ma cs I (va_up (va_up (va_up (va_up (va_up (va_up (va_up F 20 (upI (F 20) sd pa)) 22 (upI (F 22) sd (-1))) 23 (upI (F 23) sd 0)) 24 (upI (F 24) sd 0)) 21 (upI (F 21) sd (vp_nar .boolean (iz 1)).toInt)) 22 (upI (upI (F 22) sd (-1)) sd 1)) 23 (upI (upI (F 23) sd 0) sd ((20 * p0) + pz)))) H := hP
                                    have hD : va_D A (mW mo ma cs I (va_up (va_up (va_up (va_up (va_up (va_up (va_up F 20 (upI (F 20) sd pa)) 22 (upI (F 22) sd (-1))) 23 (upI (F 23) sd 0)) 24 (upI (F 24) sd 0)) 21 (upI (F 21) sd (vp_nar .boolean (iz 1)).toInt)) 22 (upI (upI (F 22) sd (-1)) sd 1)) 23 (upI (upI (F 23) sd 0) sd ((20 * p0) + pz)))) := hD
                                    refine lv_aload_n hx hb dX6_step_281 rfl (lv_at hl 4 rfl) ?_
                                    refine va_get (D := (dC, dI)) (ci := 6) (v := .ref (ma 24)) (C := RX6) (T := TX6) (N := 44) hx hb hts kt_X6 hown hK hP 0 rfl rfl 24 (by decide) (kx_word hG kq_05_morder_4 rfl) (fun _ h9 => h9) rfl dX6_step_282 ?_
                                    refine lv_iload_n hx hb dX6_step_285 rfl (lv_at hl 5 rfl) ?_
                                    refine lv_iload hx hb dX6_step_286 (lv_at hl 0 rfl) ?_
                                    refine lv_iload_n hx hb dX6_step_288 rfl (lv_at hl 3 rfl) ?_
                                    refine ki_isub hx hb dX6_step_289 ?_
                                    refine ki_iast (F := upI (F 24) sd 0) hx hb hK hP hD hS 19 18 rfl rfl (by omega) (by omega) (by decide) dX6_step_290 (fun H locs hP hD hS => ?_)
                                    have hP : va_P (dC, dI) kxCl (mW mo ma cs I (va_up (va_up (va_up (va_up (va_up (va_up (va_up (va_up F 20 (upI (F 20) sd pa)) 22 (upI (F 22) sd (-1))) 23 (upI (F 23) sd 0)) 24 (upI (F 24) sd 0)) 21 (upI (F 21) sd (vp_nar .boolean (iz 1)).toInt)) 22 (upI (upI (F 22) sd (-1)) sd 1)) 23 (upI (upI (F 23) sd 0) sd ((20 * p0) + pz))) 24 (upI (upI (F 24) sd 0) sd (en - pz)))) H := hP
                                    have hD : va_D A (mW mo ma cs I (va_up (va_up (va_up (va_up (va_up (va_up (va_up (va_up F 20 (upI (F 20) sd pa)) 22 (upI (F 22) sd (-1))) 23 (upI (F 23) sd 0)) 24 (upI (F 24) sd 0)) 21 (upI (F 21) sd (vp_nar .boolean (iz 1)).toInt)) 22 (upI (upI (F 22) sd (-1)) sd 1)) 23 (upI (upI (F 23) sd 0) sd ((20 * p0) + pz))) 24 (upI (upI (F 24) sd 0) sd (en - pz)))) := hD
                                    refine lv_aload_n hx hb dX6_step_291 rfl (lv_at hl 4 rfl) ?_
                                    refine va_get (D := (dC, dI)) (ci := 6) (v := .ref (ma 20)) (C := RX6) (T := TX6) (N := 44) hx hb hts kt_X6 hown hK hP 0 rfl rfl 20 (by decide) (kx_word hG kq_05_morder_0 rfl) (fun _ h9 => h9) rfl dX6_step_292 ?_
                                    refine lv_iload_n hx hb dX6_step_295 rfl (lv_at hl 5 rfl) ?_
                                    refine lv_iload hx hb dX6_step_296 (lv_at hl 0 rfl) ?_
                                    refine ki_iast (F := upI (F 20) sd pa) hx hb hK hP hD hS 15 14 rfl rfl (by omega) (by omega) (by decide) dX6_step_298 (fun H locs hP hD hS => ?_)
                                    have hP : va_P (dC, dI) kxCl (mW mo ma cs I (va_up (va_up (va_up (va_up (va_up (va_up (va_up (va_up (va_up F 20 (upI (F 20) sd pa)) 22 (upI (F 22) sd (-1))) 23 (upI (F 23) sd 0)) 24 (upI (F 24) sd 0)) 21 (upI (F 21) sd (vp_nar .boolean (iz 1)).toInt)) 22 (upI (upI (F 22) sd (-1)) sd 1)) 23 (upI (upI (F 23) sd 0) sd ((20 * p0) + pz))) 24 (upI (upI (F 24) sd 0) sd (en - pz))) 20 (upI (upI (F 20) sd pa) sd en))) H := hP
                                    have hD : va_D A (mW mo ma cs I (va_up (va_up (va_up (va_up (va_up (va_up (va_up (va_up (va_up F 20 (upI (F 20) sd pa)) 22 (upI (F 22) sd (-1))) 23 (upI (F 23) sd 0)) 24 (upI (F 24) sd 0)) 21 (upI (F 21) sd (vp_nar .boolean (iz 1)).toInt)) 22 (upI (upI (F 22) sd (-1)) sd 1)) 23 (upI (upI (F 23) sd 0) sd ((20 * p0) + pz))) 24 (upI (upI (F 24) sd 0) sd (en - pz))) 20 (upI (upI (F 20) sd pa) sd en))) := hD
                                    have ev20 : (va_up (va_up (va_up (va_up (va_up (va_up (va_up (va_up (va_up F 20 (upI (F 20) sd pa)) 22 (upI (F 22) sd (-1))) 23 (upI (F 23) sd 0)) 24 (upI (F 24) sd 0)) 21 (upI (F 21) sd (vp_nar .boolean (iz 1)).toInt)) 22 (upI (upI (F 22) sd (-1)) sd 1)) 23 (upI (upI (F 23) sd 0) sd ((20 * p0) + pz))) 24 (upI (upI (F 24) sd 0) sd (en - pz))) 20 (upI (upI (F 20) sd pa) sd en)) 20 sd = en := upI_self _ _ _
                                    have ev21 : (va_up (va_up (va_up (va_up (va_up (va_up (va_up (va_up (va_up F 20 (upI (F 20) sd pa)) 22 (upI (F 22) sd (-1))) 23 (upI (F 23) sd 0)) 24 (upI (F 24) sd 0)) 21 (upI (F 21) sd (vp_nar .boolean (iz 1)).toInt)) 22 (upI (upI (F 22) sd (-1)) sd 1)) 23 (upI (upI (F 23) sd 0) sd ((20 * p0) + pz))) 24 (upI (upI (F 24) sd 0) sd (en - pz))) 20 (upI (upI (F 20) sd pa) sd en)) 21 sd = (vp_nar .boolean (iz 1)).toInt := upI_self _ _ _
                                    have ev22 : (va_up (va_up (va_up (va_up (va_up (va_up (va_up (va_up (va_up F 20 (upI (F 20) sd pa)) 22 (upI (F 22) sd (-1))) 23 (upI (F 23) sd 0)) 24 (upI (F 24) sd 0)) 21 (upI (F 21) sd (vp_nar .boolean (iz 1)).toInt)) 22 (upI (upI (F 22) sd (-1)) sd 1)) 23 (upI (upI (F 23) sd 0) sd ((20 * p0) + pz))) 24 (upI (upI (F 24) sd 0) sd (en - pz))) 20 (upI (upI (F 20) sd pa) sd en)) 22 sd = 1 := upI_self _ _ _
                                    have ev23 : (va_up (va_up (va_up (va_up (va_up (va_up (va_up (va_up (va_up F 20 (upI (F 20) sd pa)) 22 (upI (F 22) sd (-1))) 23 (upI (F 23) sd 0)) 24 (upI (F 24) sd 0)) 21 (upI (F 21) sd (vp_nar .boolean (iz 1)).toInt)) 22 (upI (upI (F 22) sd (-1)) sd 1)) 23 (upI (upI (F 23) sd 0) sd ((20 * p0) + pz))) 24 (upI (upI (F 24) sd 0) sd (en - pz))) 20 (upI (upI (F 20) sd pa) sd en)) 23 sd = ((20 * p0) + pz) := upI_self _ _ _
                                    have ev24 : (va_up (va_up (va_up (va_up (va_up (va_up (va_up (va_up (va_up F 20 (upI (F 20) sd pa)) 22 (upI (F 22) sd (-1))) 23 (upI (F 23) sd 0)) 24 (upI (F 24) sd 0)) 21 (upI (F 21) sd (vp_nar .boolean (iz 1)).toInt)) 22 (upI (upI (F 22) sd (-1)) sd 1)) 23 (upI (upI (F 23) sd 0) sd ((20 * p0) + pz))) 24 (upI (upI (F 24) sd 0) sd (en - pz))) 20 (upI (upI (F 20) sd pa) sd en)) 24 sd = (en - pz) := upI_self _ _ _
                                    have ezn0 : (vp_nar .boolean (iz 1)).toInt = 1 := by decide
                                    have e_144 : (va_up (va_up (va_up (va_up (va_up (va_up (va_up (va_up (va_up F 20 (upI (F 20) sd pa)) 22 (upI (F 22) sd (-1))) 23 (upI (F 23) sd 0)) 24 (upI (F 24) sd 0)) 21 (upI (F 21) sd (vp_nar .boolean (iz 1)).toInt)) 22 (upI (upI (F 22) sd (-1)) sd 1)) 23 (upI (upI (F 23) sd 0) sd ((20 * p0) + pz))) 24 (upI (upI (F 24) sd 0) sd (en - pz))) 20 (upI (upI (F 20) sd pa) sd en)) 20 sd = en := upI_self _ _ _
                                    have e_145 : (va_up (va_up (va_up (va_up (va_up (va_up (va_up (va_up (va_up F 20 (upI (F 20) sd pa)) 22 (upI (F 22) sd (-1))) 23 (upI (F 23) sd 0)) 24 (upI (F 24) sd 0)) 21 (upI (F 21) sd (vp_nar .boolean (iz 1)).toInt)) 22 (upI (upI (F 22) sd (-1)) sd 1)) 23 (upI (upI (F 23) sd 0) sd ((20 * p0) + pz))) 24 (upI (upI (F 24) sd 0) sd (en - pz))) 20 (upI (upI (F 20) sd pa) sd en)) 22 sd = 1 := upI_self _ _ _
                                    have e_146 : (va_up (va_up (va_up (va_up (va_up (va_up (va_up (va_up (va_up F 20 (upI (F 20) sd pa)) 22 (upI (F 22) sd (-1))) 23 (upI (F 23) sd 0)) 24 (upI (F 24) sd 0)) 21 (upI (F 21) sd (vp_nar .boolean (iz 1)).toInt)) 22 (upI (upI (F 22) sd (-1)) sd 1)) 23 (upI (upI (F 23) sd 0) sd ((20 * p0) + pz))) 24 (upI (upI (F 24) sd 0) sd (en - pz))) 20 (upI (upI (F 20) sd pa) sd en)) 23 sd = (20 * p0) + pz := upI_self _ _ _
                                    have e_147 : (va_up (va_up (va_up (va_up (va_up (va_up (va_up (va_up (va_up F 20 (upI (F 20) sd pa)) 22 (upI (F 22) sd (-1))) 23 (upI (F 23) sd 0)) 24 (upI (F 24) sd 0)) 21 (upI (F 21) sd (vp_nar .boolean (iz 1)).toInt)) 22 (upI (upI (F 22) sd (-1)) sd 1)) 23 (upI (upI (F 23) sd 0) sd ((20 * p0) + pz))) 24 (upI (upI (F 24) sd 0) sd (en - pz))) 20 (upI (upI (F 20) sd pa) sd en)) 24 sd = en - pz := upI_self _ _ _
                                    have e_148 : (va_up (va_up (va_up (va_up (va_up (va_up (va_up (va_up (va_up F 20 (upI (F 20) sd pa)) 22 (upI (F 22) sd (-1))) 23 (upI (F 23) sd 0)) 24 (upI (F 24) sd 0)) 21 (upI (F 21) sd (vp_nar .boolean (iz 1)).toInt)) 22 (upI (upI (F 22) sd (-1)) sd 1)) 23 (upI (upI (F 23) sd 0) sd ((20 * p0) + pz))) 24 (upI (upI (F 24) sd 0) sd (en - pz))) 20 (upI (upI (F 20) sd pa) sd en)) 21 sd = (vp_nar .boolean (iz 1)).toInt := upI_self _ _ _
                                    rw [← hQe]
                                    exact mk_ret hx hb hr hlocks hP hD hK hS dX6_step_299 (⟨rfl, (mB_f (mB_f (mB_f (mB_f (mB_f (mB_f (mB_f (mB_f (mB_f hB 20 sd (by omega) (by omega)) 22 sd (by omega) (by omega)) 23 sd (by omega) (by omega)) 24 sd (by omega) (by omega)) 21 sd (iz_lo _) (iz_hi _)) 22 sd (by omega) (by omega)) 23 sd (by omega) (by omega)) 24 sd (by omega) (by omega)) 20 sd (by omega) (by omega)), (mfr.upF (mfr.upF (mfr.upF (mfr.upF (mfr.upF (mfr.upF (mfr.upF (mfr.upF (mfr.upF mfr.rf (by decide) _) (by decide) _) (by decide) _) (by decide) _) (by decide) _) (by decide) _) (by decide) _) (by decide) _) (by decide) _), (mo1.up (mo1.up (mo1.up (mo1.up (mo1.up (mo1.up (mo1.up (mo1.up (mo1.up mo1.rf 20 _) 22 _) 23 _) 24 _) 21 _) 22 _) 23 _) 24 _) 20 _), by omega, by omega, by omega, by rw [ev22, ev23, ev24]; exact Or.inr (Or.inr (Or.inl ⟨rfl, by omega, by omega⟩)), by rw [ev21]; exact Or.inr ezn0, by omega, by rw [ev20]; exact hboE, by rw [ev22, ev23, ev24, ev20, ev21, ezn0, kf_eu_num (f := kf_sg F p0) (fun i => rfl) hkzE]; exact hnum⟩)
                                  · skip
                                    refine lv_iinc (v := iz (pz + 1)) (lv' := [(3, .int (iz (pz + 1))), (6, .int (iz en)), (5, .int (iz (kf_sg F p0 pa))), (4, .int (iz ps)), (0, .ref mo), (1, .int (iz sd)), (2, .int (iz p0))]) hx hb dX6_step_256 hl (k := 3) rfl (iz_add pz 1) (by decide) rfl (fun ls hl => ?_)
                                    refine lv_goto (tgt := 234) hx hb dX6_step_259 (by decide) ?_
                                    exact ih234 (pz + 1) ⟨by omega, hkz.trans (kf_kz_step (by omega) (by omega))⟩ (by omega) _ _ hP hD hS ls (lv_sub hl [1, 2, 3, 0, 4, 5, 6] rfl)
                            exact lp234 _ pa ⟨by omega, rfl⟩ (Nat.lt_succ_self _) _ _ hP hD hS ls (lv_sub hl [0, 1, 2, 3, 4, 5, 6] rfl)
                          · skip
                            refine lv_iload hx hb dX6_step_199 (lv_at hl 0 rfl) ?_
                            refine lv_aload_n hx hb dX6_step_201 rfl (lv_at hl 4 rfl) ?_
                            refine va_get (D := (dC, dI)) (ci := 6) (v := .ref (ma 5)) (C := RX6) (T := TX6) (N := 44) hx hb hts kt_X6 hown hK hP 0 rfl rfl 5 (by decide) (kx_word hG kq_04_msmall_15 rfl) (fun _ h9 => h9) rfl dX6_step_202 ?_
                            refine lv_iload_n hx hb dX6_step_205 rfl (lv_at hl 6 rfl) ?_
                            refine ki_iald (F := F 5) hx hb hK hP 4 3 rfl rfl (by omega) (by omega) (by decide) dX6_step_206 ?_
                            refine ki_icmp_ge (tgt := 234) hx hb dX6_step_207 (by decide) (by omega) (by omega) (by omega) (by omega) (fun c_149 => ?_) (fun c_149 => ?_)
                            · skip
                              have hkeE : ¬ I 14 = 0 → kf_ke (kf_sg F p0) (F 5 p0) (F 5 p0 - pa).toNat pa = en := fun h9 => (hke h9).trans (kf_ke_stop (by omega))
                              have hen1 : I 14 = 0 → en = pa + 1 := fun h9 => by rcases hen0 with h8 | h8; exact h8; exact absurd h9 h8
                              have hnum : kf_kI (kf_sg F p0) (F 5 p0) (I 14) (I 15) (F 20 sd) 0 (F 21 sd) = kf_kn (kf_sg F p0) pa en ++ kf_kI (kf_sg F p0) (F 5 p0) (I 14) (I 15) en 0 1 := by by_cases h9 : I 14 = 0; rw [hen1 h9]; exact hK0.trans (kf_kI_one (kf_sg F p0) (F 5 p0) (I 14) (I 15) pa 0 (F 21 sd) 1 (by omega) hkd h9 rfl (by omega)); have h7 := hK0.trans (kf_kI_whole (kf_sg F p0) (F 5 p0) (I 14) (I 15) pa 0 (F 21 sd) 1 (by omega) (by omega) hkd h9 (hbo2 h9) rfl (by omega)); rw [hkeE h9] at h7; exact h7
                              have hboE : kf_kbo (kf_sg F p0) (F 5 p0) (I 14) en := by by_cases h9 : I 14 = 0; exact Or.inl h9; exact Or.inr (fun h7 => by have h6 := (kf_ke_run (kf_sg F p0) (F 5 p0) (F 5 p0 - pa).toNat pa (by omega) (Nat.le_refl _)).2; rw [hkeE h9] at h6; exact h6 h7.1 h7.2.2.1)
                              have lp234 : ∀ (n : Nat) (pz : Int), ((pa ≤ pz ∧ pz ≤ en) ∧ (kf_kz (kf_sg F p0) en (en - pa).toNat pa = kf_kz (kf_sg F p0) en (en - pz).toNat pz)) → (en - pz).toNat < n → ∀ (H : Heap) (locs : List Loc), va_P (dC, dI) kxCl (mW mo ma cs I (va_up (va_up (va_up (va_up (va_up F 20 (upI (F 20) sd pa)) 22 (upI (F 22) sd (-1))) 23 (upI (F 23) sd 0)) 24 (upI (F 24) sd 0)) 21 (upI (F 21) sd (vp_nar .boolean (iz 1)).toInt))) H → va_D A (mW mo ma cs I (va_up (va_up (va_up (va_up (va_up F 20 (upI (F 20) sd pa)) 22 (upI (F 22) sd (-1))) 23 (upI (F 23) sd 0)) 24 (upI (F 24) sd 0)) 21 (upI (F 21) sd (vp_nar .boolean (iz 1)).toInt))) → va_S A s.heap H locs → ∀ ls : Array Slot, lv_has ls 7 [(6, .int (iz en)), (5, .int (iz (kf_sg F p0 pa))), (4, .int (iz ps)), (3, .int (iz pz)), (0, .ref mo), (1, .int (iz sd)), (2, .int (iz p0))] → W p l e (headSpec [.code yX6_step cX6_step 7 none] ({ frames := 1, cells := 0, slots := 0, locals := 21 })).room s m ([.ref mo, .int (iz sd), .int (iz p0)] : List Value).toArray below meth c H locs 0 0 QQ (F0 m 234 ls []) := by
                                intro n
                                induction n with
                                | zero => intro pz hinv hm; exact absurd hm (Nat.not_lt_zero _)
                                | succ n ih234 =>
                                  intro pz hinv hm H locs hP hD hS ls hl
                                  obtain ⟨hpz, hkz⟩ := hinv
                                  refine lv_iload_n hx hb dX6_step_234 rfl (lv_at hl 3 rfl) ?_
                                  refine lv_iload hx hb dX6_step_235 (lv_at hl 0 rfl) ?_
                                  refine ki_icmp_ge (tgt := 262) hx hb dX6_step_237 (by decide) (by omega) (by omega) (by omega) (by omega) (fun c_150 => ?_) (fun c_150 => ?_)
                                  · skip
                                    have hkzE : kf_kz (kf_sg F p0) en (en - pa).toNat pa = pz := hkz.trans (kf_kz_stop (by omega))
                                    refine lv_aload_n hx hb dX6_step_262 rfl (lv_at hl 4 rfl) ?_
                                    refine va_get (D := (dC, dI)) (ci := 6) (v := .ref (ma 22)) (C := RX6) (T := TX6) (N := 44) hx hb hts kt_X6 hown hK hP 0 rfl rfl 22 (by decide) (kx_word hG kq_05_morder_2 rfl) (fun _ h9 => h9) rfl dX6_step_263 ?_
                                    refine lv_iload_n hx hb dX6_step_266 rfl (lv_at hl 5 rfl) ?_
                                    refine lv_iconst (v := iz 1) hx hb dX6_step_267 (by decide) ?_
                                    refine ki_iast (F := upI (F 22) sd (-1)) hx hb hK hP hD hS 17 16 rfl rfl (by omega) (by omega) (by decide) dX6_step_268 (fun H locs hP hD hS => ?_)
                                    have hP : va_P (dC, dI) kxCl (mW mo ma cs I (va_up (va_up (va_up (va_up (va_up (va_up F 20 (upI (F 20) sd pa)) 22 (upI (F 22) sd (-1))) 23 (upI (F 23) sd 0)) 24 (upI (F 24) sd 0)) 21 (upI (F 21) sd (vp_nar .boolean (iz 1)).toInt)) 22 (upI (upI (F 22) sd (-1)) sd 1))) H := hP
                                    have hD : va_D A (mW mo ma cs I (va_up (va_up (va_up (va_up (va_up (va_up F 20 (upI (F 20) sd pa)) 22 (upI (F 22) sd (-1))) 23 (upI (F 23) sd 0)) 24 (upI (F 24) sd 0)) 21 (upI (F 21) sd (vp_nar .boolean (iz 1)).toInt)) 22 (upI (upI (F 22) sd (-1)) sd 1))) := hD
                                    refine lv_aload_n hx hb dX6_step_269 rfl (lv_at hl 4 rfl) ?_
                                    refine va_get (D := (dC, dI)) (ci := 6) (v := .ref (ma 23)) (C := RX6) (T := TX6) (N := 44) hx hb hts kt_X6 hown hK hP 0 rfl rfl 23 (by decide) (kx_word hG kq_05_morder_3 rfl) (fun _ h9 => h9) rfl dX6_step_270 ?_
                                    refine lv_iload_n hx hb dX6_step_273 rfl (lv_at hl 5 rfl) ?_
                                    refine lv_bipush (v := iz 20) hx hb dX6_step_274 (by decide) ?_
                                    refine lv_iload_n hx hb dX6_step_276 rfl (lv_at hl 6 rfl) ?_
                                    refine ki_imul hx hb dX6_step_277 ?_
                                    refine lv_iload_n hx hb dX6_step_278 rfl (lv_at hl 3 rfl) ?_
                                    refine ki_iadd hx hb dX6_step_279 ?_
                                    refine ki_iast (F := upI (F 23) sd 0) hx hb hK hP hD hS 18 17 rfl rfl (by omega) (by omega) (by decide) dX6_step_280 (fun H locs hP hD hS => ?_)
                                    have hP : va_P (dC, dI) kxCl (mW mo ma cs I (va_up (va_up (va_up (va_up (va_up (va_up (va_up F 20 (upI (F 20) sd pa)) 22 (upI (F 22) sd (-1))) 23 (upI (F 23) sd 0)) 24 (upI (F 24) sd 0)) 21 (upI (F 21) sd (vp_nar .boolean (iz 1)).toInt)) 22 (upI (upI (F 22) sd (-1)) sd 1)) 23 (upI (upI (F 23) sd 0) sd ((20 * p0) + pz)))) H := hP
                                    have hD : va_D A (mW mo ma cs I (va_up (va_up (va_up (va_up (va_up (va_up (va_up F 20 (upI (F 20) sd pa)) 22 (upI (F 22) sd (-1))) 23 (upI (F 23) sd 0)) 24 (upI (F 24) sd 0)) 21 (upI (F 21) sd (vp_nar .boolean (iz 1)).toInt)) 22 (upI (upI (F 22) sd (-1)) sd 1)) 23 (upI (upI (F 23) sd 0) sd ((20 * p0) + pz)))) := hD
                                    refine lv_aload_n hx hb dX6_step_281 rfl (lv_at hl 4 rfl) ?_
                                    refine va_get (D := (dC, dI)) (ci := 6) (v := .ref (ma 24)) (C := RX6) (T := TX6) (N := 44) hx hb hts kt_X6 hown hK hP 0 rfl rfl 24 (by decide) (kx_word hG kq_05_morder_4 rfl) (fun _ h9 => h9) rfl dX6_step_282 ?_
                                    refine lv_iload_n hx hb dX6_step_285 rfl (lv_at hl 5 rfl) ?_
                                    refine lv_iload hx hb dX6_step_286 (lv_at hl 0 rfl) ?_
                                    refine lv_iload_n hx hb dX6_step_288 rfl (lv_at hl 3 rfl) ?_
                                    refine ki_isub hx hb dX6_step_289 ?_
                                    refine ki_iast (F := upI (F 24) sd 0) hx hb hK hP hD hS 19 18 rfl rfl (by omega) (by omega) (by decide) dX6_step_290 (fun H locs hP hD hS => ?_)
                                    have hP : va_P (dC, dI) kxCl (mW mo ma cs I (va_up (va_up (va_up (va_up (va_up (va_up (va_up (va_up F 20 (upI (F 20) sd pa)) 22 (upI (F 22) sd (-1))) 23 (upI (F 23) sd 0)) 24 (upI (F 24) sd 0)) 21 (upI (F 21) sd (vp_nar .boolean (iz 1)).toInt)) 22 (upI (upI (F 22) sd (-1)) sd 1)) 23 (upI (upI (F 23) sd 0) sd ((20 * p0) + pz))) 24 (upI (upI (F 24) sd 0) sd (en - pz)))) H := hP
                                    have hD : va_D A (mW mo ma cs I (va_up (va_up (va_up (va_up (va_up (va_up (va_up (va_up F 20 (upI (F 20) sd pa)) 22 (upI (F 22) sd (-1))) 23 (upI (F 23) sd 0)) 24 (upI (F 24) sd 0)) 21 (upI (F 21) sd (vp_nar .boolean (iz 1)).toInt)) 22 (upI (upI (F 22) sd (-1)) sd 1)) 23 (upI (upI (F 23) sd 0) sd ((20 * p0) + pz))) 24 (upI (upI (F 24) sd 0) sd (en - pz)))) := hD
                                    refine lv_aload_n hx hb dX6_step_291 rfl (lv_at hl 4 rfl) ?_
                                    refine va_get (D := (dC, dI)) (ci := 6) (v := .ref (ma 20)) (C := RX6) (T := TX6) (N := 44) hx hb hts kt_X6 hown hK hP 0 rfl rfl 20 (by decide) (kx_word hG kq_05_morder_0 rfl) (fun _ h9 => h9) rfl dX6_step_292 ?_
                                    refine lv_iload_n hx hb dX6_step_295 rfl (lv_at hl 5 rfl) ?_
                                    refine lv_iload hx hb dX6_step_296 (lv_at hl 0 rfl) ?_
                                    refine ki_iast (F := upI (F 20) sd pa) hx hb hK hP hD hS 15 14 rfl rfl (by omega) (by omega) (by decide) dX6_step_298 (fun H locs hP hD hS => ?_)
                                    have hP : va_P (dC, dI) kxCl (mW mo ma cs I (va_up (va_up (va_up (va_up (va_up (va_up (va_up (va_up (va_up F 20 (upI (F 20) sd pa)) 22 (upI (F 22) sd (-1))) 23 (upI (F 23) sd 0)) 24 (upI (F 24) sd 0)) 21 (upI (F 21) sd (vp_nar .boolean (iz 1)).toInt)) 22 (upI (upI (F 22) sd (-1)) sd 1)) 23 (upI (upI (F 23) sd 0) sd ((20 * p0) + pz))) 24 (upI (upI (F 24) sd 0) sd (en - pz))) 20 (upI (upI (F 20) sd pa) sd en))) H := hP
                                    have hD : va_D A (mW mo ma cs I (va_up (va_up (va_up (va_up (va_up (va_up (va_up (va_up (va_up F 20 (upI (F 20) sd pa)) 22 (upI (F 22) sd (-1))) 23 (upI (F 23) sd 0)) 24 (upI (F 24) sd 0)) 21 (upI (F 21) sd (vp_nar .boolean (iz 1)).toInt)) 22 (upI (upI (F 22) sd (-1)) sd 1)) 23 (upI (upI (F 23) sd 0) sd ((20 * p0) + pz))) 24 (upI (upI (F 24) sd 0) sd (en - pz))) 20 (upI (upI (F 20) sd pa) sd en))) := hD
                                    have ev20 : (va_up (va_up (va_up (va_up (va_up (va_up (va_up (va_up (va_up F 20 (upI (F 20) sd pa)) 22 (upI (F 22) sd (-1))) 23 (upI (F 23) sd 0)) 24 (upI (F 24) sd 0)) 21 (upI (F 21) sd (vp_nar .boolean (iz 1)).toInt)) 22 (upI (upI (F 22) sd (-1)) sd 1)) 23 (upI (upI (F 23) sd 0) sd ((20 * p0) + pz))) 24 (upI (upI (F 24) sd 0) sd (en - pz))) 20 (upI (upI (F 20) sd pa) sd en)) 20 sd = en := upI_self _ _ _
                                    have ev21 : (va_up (va_up (va_up (va_up (va_up (va_up (va_up (va_up (va_up F 20 (upI (F 20) sd pa)) 22 (upI (F 22) sd (-1))) 23 (upI (F 23) sd 0)) 24 (upI (F 24) sd 0)) 21 (upI (F 21) sd (vp_nar .boolean (iz 1)).toInt)) 22 (upI (upI (F 22) sd (-1)) sd 1)) 23 (upI (upI (F 23) sd 0) sd ((20 * p0) + pz))) 24 (upI (upI (F 24) sd 0) sd (en - pz))) 20 (upI (upI (F 20) sd pa) sd en)) 21 sd = (vp_nar .boolean (iz 1)).toInt := upI_self _ _ _
                                    have ev22 : (va_up (va_up (va_up (va_up (va_up (va_up (va_up (va_up (va_up F 20 (upI (F 20) sd pa)) 22 (upI (F 22) sd (-1))) 23 (upI (F 23) sd 0)) 24 (upI (F 24) sd 0)) 21 (upI (F 21) sd (vp_nar .boolean (iz 1)).toInt)) 22 (upI (upI (F 22) sd (-1)) sd 1)) 23 (upI (upI (F 23) sd 0) sd ((20 * p0) + pz))) 24 (upI (upI (F 24) sd 0) sd (en - pz))) 20 (upI (upI (F 20) sd pa) sd en)) 22 sd = 1 := upI_self _ _ _
                                    have ev23 : (va_up (va_up (va_up (va_up (va_up (va_up (va_up (va_up (va_up F 20 (upI (F 20) sd pa)) 22 (upI (F 22) sd (-1))) 23 (upI (F 23) sd 0)) 24 (upI (F 24) sd 0)) 21 (upI (F 21) sd (vp_nar .boolean (iz 1)).toInt)) 22 (upI (upI (F 22) sd (-1)) sd 1)) 23 (upI (upI (F 23) sd 0) sd ((20 * p0) + pz))) 24 (upI (upI (F 24) sd 0) sd (en - pz))) 20 (upI (upI (F 20) sd pa) sd en)) 23 sd = ((20 * p0) + pz) := upI_self _ _ _
                                    have ev24 : (va_up (va_up (va_up (va_up (va_up (va_up (va_up (va_up (va_up F 20 (upI (F 20) sd pa)) 22 (upI (F 22) sd (-1))) 23 (upI (F 23) sd 0)) 24 (upI (F 24) sd 0)) 21 (upI (F 21) sd (vp_nar .boolean (iz 1)).toInt)) 22 (upI (upI (F 22) sd (-1)) sd 1)) 23 (upI (upI (F 23) sd 0) sd ((20 * p0) + pz))) 24 (upI (upI (F 24) sd 0) sd (en - pz))) 20 (upI (upI (F 20) sd pa) sd en)) 24 sd = (en - pz) := upI_self _ _ _
                                    have ezn0 : (vp_nar .boolean (iz 1)).toInt = 1 := by decide
                                    have e_151 : (va_up (va_up (va_up (va_up (va_up (va_up (va_up (va_up (va_up F 20 (upI (F 20) sd pa)) 22 (upI (F 22) sd (-1))) 23 (upI (F 23) sd 0)) 24 (upI (F 24) sd 0)) 21 (upI (F 21) sd (vp_nar .boolean (iz 1)).toInt)) 22 (upI (upI (F 22) sd (-1)) sd 1)) 23 (upI (upI (F 23) sd 0) sd ((20 * p0) + pz))) 24 (upI (upI (F 24) sd 0) sd (en - pz))) 20 (upI (upI (F 20) sd pa) sd en)) 20 sd = en := upI_self _ _ _
                                    have e_152 : (va_up (va_up (va_up (va_up (va_up (va_up (va_up (va_up (va_up F 20 (upI (F 20) sd pa)) 22 (upI (F 22) sd (-1))) 23 (upI (F 23) sd 0)) 24 (upI (F 24) sd 0)) 21 (upI (F 21) sd (vp_nar .boolean (iz 1)).toInt)) 22 (upI (upI (F 22) sd (-1)) sd 1)) 23 (upI (upI (F 23) sd 0) sd ((20 * p0) + pz))) 24 (upI (upI (F 24) sd 0) sd (en - pz))) 20 (upI (upI (F 20) sd pa) sd en)) 22 sd = 1 := upI_self _ _ _
                                    have e_153 : (va_up (va_up (va_up (va_up (va_up (va_up (va_up (va_up (va_up F 20 (upI (F 20) sd pa)) 22 (upI (F 22) sd (-1))) 23 (upI (F 23) sd 0)) 24 (upI (F 24) sd 0)) 21 (upI (F 21) sd (vp_nar .boolean (iz 1)).toInt)) 22 (upI (upI (F 22) sd (-1)) sd 1)) 23 (upI (upI (F 23) sd 0) sd ((20 * p0) + pz))) 24 (upI (upI (F 24) sd 0) sd (en - pz))) 20 (upI (upI (F 20) sd pa) sd en)) 23 sd = (20 * p0) + pz := upI_self _ _ _
                                    have e_154 : (va_up (va_up (va_up (va_up (va_up (va_up (va_up (va_up (va_up F 20 (upI (F 20) sd pa)) 22 (upI (F 22) sd (-1))) 23 (upI (F 23) sd 0)) 24 (upI (F 24) sd 0)) 21 (upI (F 21) sd (vp_nar .boolean (iz 1)).toInt)) 22 (upI (upI (F 22) sd (-1)) sd 1)) 23 (upI (upI (F 23) sd 0) sd ((20 * p0) + pz))) 24 (upI (upI (F 24) sd 0) sd (en - pz))) 20 (upI (upI (F 20) sd pa) sd en)) 24 sd = en - pz := upI_self _ _ _
                                    have e_155 : (va_up (va_up (va_up (va_up (va_up (va_up (va_up (va_up (va_up F 20 (upI (F 20) sd pa)) 22 (upI (F 22) sd (-1))) 23 (upI (F 23) sd 0)) 24 (upI (F 24) sd 0)) 21 (upI (F 21) sd (vp_nar .boolean (iz 1)).toInt)) 22 (upI (upI (F 22) sd (-1)) sd 1)) 23 (upI (upI (F 23) sd 0) sd ((20 * p0) + pz))) 24 (upI (upI (F 24) sd 0) sd (en - pz))) 20 (upI (upI (F 20) sd pa) sd en)) 21 sd = (vp_nar .boolean (iz 1)).toInt := upI_self _ _ _
                                    rw [← hQe]
                                    exact mk_ret hx hb hr hlocks hP hD hK hS dX6_step_299 (⟨rfl, (mB_f (mB_f (mB_f (mB_f (mB_f (mB_f (mB_f (mB_f (mB_f hB 20 sd (by omega) (by omega)) 22 sd (by omega) (by omega)) 23 sd (by omega) (by omega)) 24 sd (by omega) (by omega)) 21 sd (iz_lo _) (iz_hi _)) 22 sd (by omega) (by omega)) 23 sd (by omega) (by omega)) 24 sd (by omega) (by omega)) 20 sd (by omega) (by omega)), (mfr.upF (mfr.upF (mfr.upF (mfr.upF (mfr.upF (mfr.upF (mfr.upF (mfr.upF (mfr.upF mfr.rf (by decide) _) (by decide) _) (by decide) _) (by decide) _) (by decide) _) (by decide) _) (by decide) _) (by decide) _) (by decide) _), (mo1.up (mo1.up (mo1.up (mo1.up (mo1.up (mo1.up (mo1.up (mo1.up (mo1.up mo1.rf 20 _) 22 _) 23 _) 24 _) 21 _) 22 _) 23 _) 24 _) 20 _), by omega, by omega, by omega, by rw [ev22, ev23, ev24]; exact Or.inr (Or.inr (Or.inl ⟨rfl, by omega, by omega⟩)), by rw [ev21]; exact Or.inr ezn0, by omega, by rw [ev20]; exact hboE, by rw [ev22, ev23, ev24, ev20, ev21, ezn0, kf_eu_num (f := kf_sg F p0) (fun i => rfl) hkzE]; exact hnum⟩)
                                  · skip
                                    refine lv_aload_n hx hb dX6_step_240 rfl (lv_at hl 4 rfl) ?_
                                    refine va_get (D := (dC, dI)) (ci := 6) (v := .ref (ma 4)) (C := RX6) (T := TX6) (N := 44) hx hb hts kt_X6 hown hK hP 0 rfl rfl 4 (by decide) (kx_word hG kq_04_msmall_16 rfl) (fun _ h9 => h9) rfl dX6_step_241 ?_
                                    refine lv_bipush (v := iz 20) hx hb dX6_step_244 (by decide) ?_
                                    refine lv_iload_n hx hb dX6_step_246 rfl (lv_at hl 6 rfl) ?_
                                    refine ki_imul hx hb dX6_step_247 ?_
                                    refine lv_iload_n hx hb dX6_step_248 rfl (lv_at hl 3 rfl) ?_
                                    refine ki_iadd hx hb dX6_step_249 ?_
                                    refine ki_iald (F := F 4) hx hb hK hP 3 2 rfl rfl (by omega) (by omega) (by decide) dX6_step_250 ?_
                                    have hbd_156 := hB.2 4 ((20 * p0) + pz)
                                    refine ki_is (show iz (F 4 ((20 * p0) + pz)) = iz (kf_sg F p0 pz) from rfl) ?_
                                    have hsk_157 := hsg pz (by omega) (by omega)
                                    refine lv_bipush (v := iz 48) hx hb dX6_step_251 (by decide) ?_
                                    refine ki_icmp_ne (tgt := 262) hx hb dX6_step_253 (by decide) (by omega) (by omega) (by omega) (by omega) (fun c_158 => ?_) (fun c_158 => ?_)
                                    · skip
                                      have hkzE : kf_kz (kf_sg F p0) en (en - pa).toNat pa = pz := hkz.trans (kf_kz_stop (by omega))
                                      refine lv_aload_n hx hb dX6_step_262 rfl (lv_at hl 4 rfl) ?_
                                      refine va_get (D := (dC, dI)) (ci := 6) (v := .ref (ma 22)) (C := RX6) (T := TX6) (N := 44) hx hb hts kt_X6 hown hK hP 0 rfl rfl 22 (by decide) (kx_word hG kq_05_morder_2 rfl) (fun _ h9 => h9) rfl dX6_step_263 ?_
                                      refine lv_iload_n hx hb dX6_step_266 rfl (lv_at hl 5 rfl) ?_
                                      refine lv_iconst (v := iz 1) hx hb dX6_step_267 (by decide) ?_
                                      refine ki_iast (F := upI (F 22) sd (-1)) hx hb hK hP hD hS 17 16 rfl rfl (by omega) (by omega) (by decide) dX6_step_268 (fun H locs hP hD hS => ?_)
                                      have hP : va_P (dC, dI) kxCl (mW mo ma cs I (va_up (va_up (va_up (va_up (va_up (va_up F 20 (upI (F 20) sd pa)) 22 (upI (F 22) sd (-1))) 23 (upI (F 23) sd 0)) 24 (upI (F 24) sd 0)) 21 (upI (F 21) sd (vp_nar .boolean (iz 1)).toInt)) 22 (upI (upI (F 22) sd (-1)) sd 1))) H := hP
                                      have hD : va_D A (mW mo ma cs I (va_up (va_up (va_up (va_up (va_up (va_up F 20 (upI (F 20) sd pa)) 22 (upI (F 22) sd (-1))) 23 (upI (F 23) sd 0)) 24 (upI (F 24) sd 0)) 21 (upI (F 21) sd (vp_nar .boolean (iz 1)).toInt)) 22 (upI (upI (F 22) sd (-1)) sd 1))) := hD
                                      refine lv_aload_n hx hb dX6_step_269 rfl (lv_at hl 4 rfl) ?_
                                      refine va_get (D := (dC, dI)) (ci := 6) (v := .ref (ma 23)) (C := RX6) (T := TX6) (N := 44) hx hb hts kt_X6 hown hK hP 0 rfl rfl 23 (by decide) (kx_word hG kq_05_morder_3 rfl) (fun _ h9 => h9) rfl dX6_step_270 ?_
                                      refine lv_iload_n hx hb dX6_step_273 rfl (lv_at hl 5 rfl) ?_
                                      refine lv_bipush (v := iz 20) hx hb dX6_step_274 (by decide) ?_
                                      refine lv_iload_n hx hb dX6_step_276 rfl (lv_at hl 6 rfl) ?_
                                      refine ki_imul hx hb dX6_step_277 ?_
                                      refine lv_iload_n hx hb dX6_step_278 rfl (lv_at hl 3 rfl) ?_
                                      refine ki_iadd hx hb dX6_step_279 ?_
                                      refine ki_iast (F := upI (F 23) sd 0) hx hb hK hP hD hS 18 17 rfl rfl (by omega) (by omega) (by decide) dX6_step_280 (fun H locs hP hD hS => ?_)
                                      have hP : va_P (dC, dI) kxCl (mW mo ma cs I (va_up (va_up (va_up (va_up (va_up (va_up (va_up F 20 (upI (F 20) sd pa)) 22 (upI (F 22) sd (-1))) 23 (upI (F 23) sd 0)) 24 (upI (F 24) sd 0)) 21 (upI (F 21) sd (vp_nar .boolean (iz 1)).toInt)) 22 (upI (upI (F 22) sd (-1)) sd 1)) 23 (upI (upI (F 23) sd 0) sd ((20 * p0) + pz)))) H := hP
                                      have hD : va_D A (mW mo ma cs I (va_up (va_up (va_up (va_up (va_up (va_up (va_up F 20 (upI (F 20) sd pa)) 22 (upI (F 22) sd (-1))) 23 (upI (F 23) sd 0)) 24 (upI (F 24) sd 0)) 21 (upI (F 21) sd (vp_nar .boolean (iz 1)).toInt)) 22 (upI (upI (F 22) sd (-1)) sd 1)) 23 (upI (upI (F 23) sd 0) sd ((20 * p0) + pz)))) := hD
                                      refine lv_aload_n hx hb dX6_step_281 rfl (lv_at hl 4 rfl) ?_
                                      refine va_get (D := (dC, dI)) (ci := 6) (v := .ref (ma 24)) (C := RX6) (T := TX6) (N := 44) hx hb hts kt_X6 hown hK hP 0 rfl rfl 24 (by decide) (kx_word hG kq_05_morder_4 rfl) (fun _ h9 => h9) rfl dX6_step_282 ?_
                                      refine lv_iload_n hx hb dX6_step_285 rfl (lv_at hl 5 rfl) ?_
                                      refine lv_iload hx hb dX6_step_286 (lv_at hl 0 rfl) ?_
                                      refine lv_iload_n hx hb dX6_step_288 rfl (lv_at hl 3 rfl) ?_
                                      refine ki_isub hx hb dX6_step_289 ?_
                                      refine ki_iast (F := upI (F 24) sd 0) hx hb hK hP hD hS 19 18 rfl rfl (by omega) (by omega) (by decide) dX6_step_290 (fun H locs hP hD hS => ?_)
                                      have hP : va_P (dC, dI) kxCl (mW mo ma cs I (va_up (va_up (va_up (va_up (va_up (va_up (va_up (va_up F 20 (upI (F 20) sd pa)) 22 (upI (F 22) sd (-1))) 23 (upI (F 23) sd 0)) 24 (upI (F 24) sd 0)) 21 (upI (F 21) sd (vp_nar .boolean (iz 1)).toInt)) 22 (upI (upI (F 22) sd (-1)) sd 1)) 23 (upI (upI (F 23) sd 0) sd ((20 * p0) + pz))) 24 (upI (upI (F 24) sd 0) sd (en - pz)))) H := hP
                                      have hD : va_D A (mW mo ma cs I (va_up (va_up (va_up (va_up (va_up (va_up (va_up (va_up F 20 (upI (F 20) sd pa)) 22 (upI (F 22) sd (-1))) 23 (upI (F 23) sd 0)) 24 (upI (F 24) sd 0)) 21 (upI (F 21) sd (vp_nar .boolean (iz 1)).toInt)) 22 (upI (upI (F 22) sd (-1)) sd 1)) 23 (upI (upI (F 23) sd 0) sd ((20 * p0) + pz))) 24 (upI (upI (F 24) sd 0) sd (en - pz)))) := hD
                                      refine lv_aload_n hx hb dX6_step_291 rfl (lv_at hl 4 rfl) ?_
                                      refine va_get (D := (dC, dI)) (ci := 6) (v := .ref (ma 20)) (C := RX6) (T := TX6) (N := 44) hx hb hts kt_X6 hown hK hP 0 rfl rfl 20 (by decide) (kx_word hG kq_05_morder_0 rfl) (fun _ h9 => h9) rfl dX6_step_292 ?_
                                      refine lv_iload_n hx hb dX6_step_295 rfl (lv_at hl 5 rfl) ?_
                                      refine lv_iload hx hb dX6_step_296 (lv_at hl 0 rfl) ?_
                                      refine ki_iast (F := upI (F 20) sd pa) hx hb hK hP hD hS 15 14 rfl rfl (by omega) (by omega) (by decide) dX6_step_298 (fun H locs hP hD hS => ?_)
                                      have hP : va_P (dC, dI) kxCl (mW mo ma cs I (va_up (va_up (va_up (va_up (va_up (va_up (va_up (va_up (va_up F 20 (upI (F 20) sd pa)) 22 (upI (F 22) sd (-1))) 23 (upI (F 23) sd 0)) 24 (upI (F 24) sd 0)) 21 (upI (F 21) sd (vp_nar .boolean (iz 1)).toInt)) 22 (upI (upI (F 22) sd (-1)) sd 1)) 23 (upI (upI (F 23) sd 0) sd ((20 * p0) + pz))) 24 (upI (upI (F 24) sd 0) sd (en - pz))) 20 (upI (upI (F 20) sd pa) sd en))) H := hP
                                      have hD : va_D A (mW mo ma cs I (va_up (va_up (va_up (va_up (va_up (va_up (va_up (va_up (va_up F 20 (upI (F 20) sd pa)) 22 (upI (F 22) sd (-1))) 23 (upI (F 23) sd 0)) 24 (upI (F 24) sd 0)) 21 (upI (F 21) sd (vp_nar .boolean (iz 1)).toInt)) 22 (upI (upI (F 22) sd (-1)) sd 1)) 23 (upI (upI (F 23) sd 0) sd ((20 * p0) + pz))) 24 (upI (upI (F 24) sd 0) sd (en - pz))) 20 (upI (upI (F 20) sd pa) sd en))) := hD
                                      have ev20 : (va_up (va_up (va_up (va_up (va_up (va_up (va_up (va_up (va_up F 20 (upI (F 20) sd pa)) 22 (upI (F 22) sd (-1))) 23 (upI (F 23) sd 0)) 24 (upI (F 24) sd 0)) 21 (upI (F 21) sd (vp_nar .boolean (iz 1)).toInt)) 22 (upI (upI (F 22) sd (-1)) sd 1)) 23 (upI (upI (F 23) sd 0) sd ((20 * p0) + pz))) 24 (upI (upI (F 24) sd 0) sd (en - pz))) 20 (upI (upI (F 20) sd pa) sd en)) 20 sd = en := upI_self _ _ _
                                      have ev21 : (va_up (va_up (va_up (va_up (va_up (va_up (va_up (va_up (va_up F 20 (upI (F 20) sd pa)) 22 (upI (F 22) sd (-1))) 23 (upI (F 23) sd 0)) 24 (upI (F 24) sd 0)) 21 (upI (F 21) sd (vp_nar .boolean (iz 1)).toInt)) 22 (upI (upI (F 22) sd (-1)) sd 1)) 23 (upI (upI (F 23) sd 0) sd ((20 * p0) + pz))) 24 (upI (upI (F 24) sd 0) sd (en - pz))) 20 (upI (upI (F 20) sd pa) sd en)) 21 sd = (vp_nar .boolean (iz 1)).toInt := upI_self _ _ _
                                      have ev22 : (va_up (va_up (va_up (va_up (va_up (va_up (va_up (va_up (va_up F 20 (upI (F 20) sd pa)) 22 (upI (F 22) sd (-1))) 23 (upI (F 23) sd 0)) 24 (upI (F 24) sd 0)) 21 (upI (F 21) sd (vp_nar .boolean (iz 1)).toInt)) 22 (upI (upI (F 22) sd (-1)) sd 1)) 23 (upI (upI (F 23) sd 0) sd ((20 * p0) + pz))) 24 (upI (upI (F 24) sd 0) sd (en - pz))) 20 (upI (upI (F 20) sd pa) sd en)) 22 sd = 1 := upI_self _ _ _
                                      have ev23 : (va_up (va_up (va_up (va_up (va_up (va_up (va_up (va_up (va_up F 20 (upI (F 20) sd pa)) 22 (upI (F 22) sd (-1))) 23 (upI (F 23) sd 0)) 24 (upI (F 24) sd 0)) 21 (upI (F 21) sd (vp_nar .boolean (iz 1)).toInt)) 22 (upI (upI (F 22) sd (-1)) sd 1)) 23 (upI (upI (F 23) sd 0) sd ((20 * p0) + pz))) 24 (upI (upI (F 24) sd 0) sd (en - pz))) 20 (upI (upI (F 20) sd pa) sd en)) 23 sd = ((20 * p0) + pz) := upI_self _ _ _
                                      have ev24 : (va_up (va_up (va_up (va_up (va_up (va_up (va_up (va_up (va_up F 20 (upI (F 20) sd pa)) 22 (upI (F 22) sd (-1))) 23 (upI (F 23) sd 0)) 24 (upI (F 24) sd 0)) 21 (upI (F 21) sd (vp_nar .boolean (iz 1)).toInt)) 22 (upI (upI (F 22) sd (-1)) sd 1)) 23 (upI (upI (F 23) sd 0) sd ((20 * p0) + pz))) 24 (upI (upI (F 24) sd 0) sd (en - pz))) 20 (upI (upI (F 20) sd pa) sd en)) 24 sd = (en - pz) := upI_self _ _ _
                                      have ezn0 : (vp_nar .boolean (iz 1)).toInt = 1 := by decide
                                      have e_159 : (va_up (va_up (va_up (va_up (va_up (va_up (va_up (va_up (va_up F 20 (upI (F 20) sd pa)) 22 (upI (F 22) sd (-1))) 23 (upI (F 23) sd 0)) 24 (upI (F 24) sd 0)) 21 (upI (F 21) sd (vp_nar .boolean (iz 1)).toInt)) 22 (upI (upI (F 22) sd (-1)) sd 1)) 23 (upI (upI (F 23) sd 0) sd ((20 * p0) + pz))) 24 (upI (upI (F 24) sd 0) sd (en - pz))) 20 (upI (upI (F 20) sd pa) sd en)) 20 sd = en := upI_self _ _ _
                                      have e_160 : (va_up (va_up (va_up (va_up (va_up (va_up (va_up (va_up (va_up F 20 (upI (F 20) sd pa)) 22 (upI (F 22) sd (-1))) 23 (upI (F 23) sd 0)) 24 (upI (F 24) sd 0)) 21 (upI (F 21) sd (vp_nar .boolean (iz 1)).toInt)) 22 (upI (upI (F 22) sd (-1)) sd 1)) 23 (upI (upI (F 23) sd 0) sd ((20 * p0) + pz))) 24 (upI (upI (F 24) sd 0) sd (en - pz))) 20 (upI (upI (F 20) sd pa) sd en)) 22 sd = 1 := upI_self _ _ _
                                      have e_161 : (va_up (va_up (va_up (va_up (va_up (va_up (va_up (va_up (va_up F 20 (upI (F 20) sd pa)) 22 (upI (F 22) sd (-1))) 23 (upI (F 23) sd 0)) 24 (upI (F 24) sd 0)) 21 (upI (F 21) sd (vp_nar .boolean (iz 1)).toInt)) 22 (upI (upI (F 22) sd (-1)) sd 1)) 23 (upI (upI (F 23) sd 0) sd ((20 * p0) + pz))) 24 (upI (upI (F 24) sd 0) sd (en - pz))) 20 (upI (upI (F 20) sd pa) sd en)) 23 sd = (20 * p0) + pz := upI_self _ _ _
                                      have e_162 : (va_up (va_up (va_up (va_up (va_up (va_up (va_up (va_up (va_up F 20 (upI (F 20) sd pa)) 22 (upI (F 22) sd (-1))) 23 (upI (F 23) sd 0)) 24 (upI (F 24) sd 0)) 21 (upI (F 21) sd (vp_nar .boolean (iz 1)).toInt)) 22 (upI (upI (F 22) sd (-1)) sd 1)) 23 (upI (upI (F 23) sd 0) sd ((20 * p0) + pz))) 24 (upI (upI (F 24) sd 0) sd (en - pz))) 20 (upI (upI (F 20) sd pa) sd en)) 24 sd = en - pz := upI_self _ _ _
                                      have e_163 : (va_up (va_up (va_up (va_up (va_up (va_up (va_up (va_up (va_up F 20 (upI (F 20) sd pa)) 22 (upI (F 22) sd (-1))) 23 (upI (F 23) sd 0)) 24 (upI (F 24) sd 0)) 21 (upI (F 21) sd (vp_nar .boolean (iz 1)).toInt)) 22 (upI (upI (F 22) sd (-1)) sd 1)) 23 (upI (upI (F 23) sd 0) sd ((20 * p0) + pz))) 24 (upI (upI (F 24) sd 0) sd (en - pz))) 20 (upI (upI (F 20) sd pa) sd en)) 21 sd = (vp_nar .boolean (iz 1)).toInt := upI_self _ _ _
                                      rw [← hQe]
                                      exact mk_ret hx hb hr hlocks hP hD hK hS dX6_step_299 (⟨rfl, (mB_f (mB_f (mB_f (mB_f (mB_f (mB_f (mB_f (mB_f (mB_f hB 20 sd (by omega) (by omega)) 22 sd (by omega) (by omega)) 23 sd (by omega) (by omega)) 24 sd (by omega) (by omega)) 21 sd (iz_lo _) (iz_hi _)) 22 sd (by omega) (by omega)) 23 sd (by omega) (by omega)) 24 sd (by omega) (by omega)) 20 sd (by omega) (by omega)), (mfr.upF (mfr.upF (mfr.upF (mfr.upF (mfr.upF (mfr.upF (mfr.upF (mfr.upF (mfr.upF mfr.rf (by decide) _) (by decide) _) (by decide) _) (by decide) _) (by decide) _) (by decide) _) (by decide) _) (by decide) _) (by decide) _), (mo1.up (mo1.up (mo1.up (mo1.up (mo1.up (mo1.up (mo1.up (mo1.up (mo1.up mo1.rf 20 _) 22 _) 23 _) 24 _) 21 _) 22 _) 23 _) 24 _) 20 _), by omega, by omega, by omega, by rw [ev22, ev23, ev24]; exact Or.inr (Or.inr (Or.inl ⟨rfl, by omega, by omega⟩)), by rw [ev21]; exact Or.inr ezn0, by omega, by rw [ev20]; exact hboE, by rw [ev22, ev23, ev24, ev20, ev21, ezn0, kf_eu_num (f := kf_sg F p0) (fun i => rfl) hkzE]; exact hnum⟩)
                                    · skip
                                      refine lv_iinc (v := iz (pz + 1)) (lv' := [(3, .int (iz (pz + 1))), (6, .int (iz en)), (5, .int (iz (kf_sg F p0 pa))), (4, .int (iz ps)), (0, .ref mo), (1, .int (iz sd)), (2, .int (iz p0))]) hx hb dX6_step_256 hl (k := 3) rfl (iz_add pz 1) (by decide) rfl (fun ls hl => ?_)
                                      refine lv_goto (tgt := 234) hx hb dX6_step_259 (by decide) ?_
                                      exact ih234 (pz + 1) ⟨by omega, hkz.trans (kf_kz_step (by omega) (by omega))⟩ (by omega) _ _ hP hD hS ls (lv_sub hl [1, 2, 3, 0, 4, 5, 6] rfl)
                              exact lp234 _ pa ⟨by omega, rfl⟩ (Nat.lt_succ_self _) _ _ hP hD hS ls (lv_sub hl [0, 1, 2, 3, 4, 5, 6] rfl)
                            · skip
                              refine lv_aload_n hx hb dX6_step_210 rfl (lv_at hl 4 rfl) ?_
                              refine va_get (D := (dC, dI)) (ci := 6) (v := .ref (ma 4)) (C := RX6) (T := TX6) (N := 44) hx hb hts kt_X6 hown hK hP 0 rfl rfl 4 (by decide) (kx_word hG kq_04_msmall_16 rfl) (fun _ h9 => h9) rfl dX6_step_211 ?_
                              refine lv_bipush (v := iz 20) hx hb dX6_step_214 (by decide) ?_
                              refine lv_iload_n hx hb dX6_step_216 rfl (lv_at hl 6 rfl) ?_
                              refine ki_imul hx hb dX6_step_217 ?_
                              refine lv_iload hx hb dX6_step_218 (lv_at hl 0 rfl) ?_
                              refine ki_iadd hx hb dX6_step_220 ?_
                              refine ki_iald (F := F 4) hx hb hK hP 3 2 rfl rfl (by omega) (by omega) (by decide) dX6_step_221 ?_
                              have hbd_164 := hB.2 4 ((20 * p0) + en)
                              refine ki_is (show iz (F 4 ((20 * p0) + en)) = iz (kf_sg F p0 en) from rfl) ?_
                              have hsk_165 := hsg en (by omega) (by omega)
                              refine mk_calls (As := [.int (iz (kf_sg F p0 en))]) (rest := []) ⟨hx, hb, hml, hown, hts⟩ (k_isNumber2 l dC dI (kf_sg F p0 en) H.size (by omega) (by omega)) (va_cwS 1 hts (kx_gS kq_05_morder_8 kq_05_morder_9 kq_04_msmall_6 kq_05_morder_10 rfl) rfl rfl rfl (by decide +kernel) ⟨Nat.le_of_ble_eq_true rfl, Nat.le_of_ble_eq_true rfl⟩) hP hD hK hG hZ hS hA rfl hl.1 rfl (Nat.le_of_ble_eq_true rfl) dX6_step_222 ⟨Nat.le_of_ble_eq_true rfl, Nat.le_of_ble_eq_true rfl⟩ (fun z_166 H locs hq_167 hP hS => ?_)
                              try dsimp only at hq_167
                              rcases hq_167 with ⟨rfl, hq_167⟩ | ⟨rfl, hq_167⟩
                              · skip
                                refine ki_if_eq (tgt := 234) hx hb dX6_step_225 (by decide) (by omega) (by omega) (fun c_168 => ?_) (fun c_168 => ?_)
                                · omega
                                · skip
                                  refine lv_iinc (v := iz (en + 1)) (lv' := [(6, .int (iz (en + 1))), (5, .int (iz (kf_sg F p0 pa))), (4, .int (iz ps)), (3, .int (iz pa)), (0, .ref mo), (1, .int (iz sd)), (2, .int (iz p0))]) hx hb dX6_step_228 hl (k := 0) rfl (iz_add en 1) (by decide) rfl (fun ls hl => ?_)
                                  refine lv_goto (tgt := 192) hx hb dX6_step_231 (by decide) ?_
                                  exact ih192 (en + 1) ⟨by omega, Or.inr (by omega), fun h9 => (hke h9).trans (kf_ke_step (by omega) (by omega))⟩ (by omega) _ _ hP hD hS ls (lv_sub hl [0, 1, 2, 3, 4, 5, 6] rfl)
                              · skip
                                refine ki_if_eq (tgt := 234) hx hb dX6_step_225 (by decide) (by omega) (by omega) (fun c_169 => ?_) (fun c_169 => ?_)
                                · skip
                                  have hkeE : ¬ I 14 = 0 → kf_ke (kf_sg F p0) (F 5 p0) (F 5 p0 - pa).toNat pa = en := fun h9 => (hke h9).trans (kf_ke_stop (by omega))
                                  have hen1 : I 14 = 0 → en = pa + 1 := fun h9 => by rcases hen0 with h8 | h8; exact h8; exact absurd h9 h8
                                  have hnum : kf_kI (kf_sg F p0) (F 5 p0) (I 14) (I 15) (F 20 sd) 0 (F 21 sd) = kf_kn (kf_sg F p0) pa en ++ kf_kI (kf_sg F p0) (F 5 p0) (I 14) (I 15) en 0 1 := by by_cases h9 : I 14 = 0; rw [hen1 h9]; exact hK0.trans (kf_kI_one (kf_sg F p0) (F 5 p0) (I 14) (I 15) pa 0 (F 21 sd) 1 (by omega) hkd h9 rfl (by omega)); have h7 := hK0.trans (kf_kI_whole (kf_sg F p0) (F 5 p0) (I 14) (I 15) pa 0 (F 21 sd) 1 (by omega) (by omega) hkd h9 (hbo2 h9) rfl (by omega)); rw [hkeE h9] at h7; exact h7
                                  have hboE : kf_kbo (kf_sg F p0) (F 5 p0) (I 14) en := by by_cases h9 : I 14 = 0; exact Or.inl h9; exact Or.inr (fun h7 => by have h6 := (kf_ke_run (kf_sg F p0) (F 5 p0) (F 5 p0 - pa).toNat pa (by omega) (Nat.le_refl _)).2; rw [hkeE h9] at h6; exact h6 h7.1 h7.2.2.1)
                                  have lp234 : ∀ (n : Nat) (pz : Int), ((pa ≤ pz ∧ pz ≤ en) ∧ (kf_kz (kf_sg F p0) en (en - pa).toNat pa = kf_kz (kf_sg F p0) en (en - pz).toNat pz)) → (en - pz).toNat < n → ∀ (H : Heap) (locs : List Loc), va_P (dC, dI) kxCl (mW mo ma cs I (va_up (va_up (va_up (va_up (va_up F 20 (upI (F 20) sd pa)) 22 (upI (F 22) sd (-1))) 23 (upI (F 23) sd 0)) 24 (upI (F 24) sd 0)) 21 (upI (F 21) sd (vp_nar .boolean (iz 1)).toInt))) H → va_D A (mW mo ma cs I (va_up (va_up (va_up (va_up (va_up F 20 (upI (F 20) sd pa)) 22 (upI (F 22) sd (-1))) 23 (upI (F 23) sd 0)) 24 (upI (F 24) sd 0)) 21 (upI (F 21) sd (vp_nar .boolean (iz 1)).toInt))) → va_S A s.heap H locs → ∀ ls : Array Slot, lv_has ls 7 [(6, .int (iz en)), (5, .int (iz (kf_sg F p0 pa))), (4, .int (iz ps)), (3, .int (iz pz)), (0, .ref mo), (1, .int (iz sd)), (2, .int (iz p0))] → W p l e (headSpec [.code yX6_step cX6_step 7 none] ({ frames := 1, cells := 0, slots := 0, locals := 21 })).room s m ([.ref mo, .int (iz sd), .int (iz p0)] : List Value).toArray below meth c H locs 0 0 QQ (F0 m 234 ls []) := by
                                    intro n
                                    induction n with
                                    | zero => intro pz hinv hm; exact absurd hm (Nat.not_lt_zero _)
                                    | succ n ih234 =>
                                      intro pz hinv hm H locs hP hD hS ls hl
                                      obtain ⟨hpz, hkz⟩ := hinv
                                      refine lv_iload_n hx hb dX6_step_234 rfl (lv_at hl 3 rfl) ?_
                                      refine lv_iload hx hb dX6_step_235 (lv_at hl 0 rfl) ?_
                                      refine ki_icmp_ge (tgt := 262) hx hb dX6_step_237 (by decide) (by omega) (by omega) (by omega) (by omega) (fun c_170 => ?_) (fun c_170 => ?_)
                                      · skip
                                        have hkzE : kf_kz (kf_sg F p0) en (en - pa).toNat pa = pz := hkz.trans (kf_kz_stop (by omega))
                                        refine lv_aload_n hx hb dX6_step_262 rfl (lv_at hl 4 rfl) ?_
                                        refine va_get (D := (dC, dI)) (ci := 6) (v := .ref (ma 22)) (C := RX6) (T := TX6) (N := 44) hx hb hts kt_X6 hown hK hP 0 rfl rfl 22 (by decide) (kx_word hG kq_05_morder_2 rfl) (fun _ h9 => h9) rfl dX6_step_263 ?_
                                        refine lv_iload_n hx hb dX6_step_266 rfl (lv_at hl 5 rfl) ?_
                                        refine lv_iconst (v := iz 1) hx hb dX6_step_267 (by decide) ?_
                                        refine ki_iast (F := upI (F 22) sd (-1)) hx hb hK hP hD hS 17 16 rfl rfl (by omega) (by omega) (by decide) dX6_step_268 (fun H locs hP hD hS => ?_)
                                        have hP : va_P (dC, dI) kxCl (mW mo ma cs I (va_up (va_up (va_up (va_up (va_up (va_up F 20 (upI (F 20) sd pa)) 22 (upI (F 22) sd (-1))) 23 (upI (F 23) sd 0)) 24 (upI (F 24) sd 0)) 21 (upI (F 21) sd (vp_nar .boolean (iz 1)).toInt)) 22 (upI (upI (F 22) sd (-1)) sd 1))) H := hP
                                        have hD : va_D A (mW mo ma cs I (va_up (va_up (va_up (va_up (va_up (va_up F 20 (upI (F 20) sd pa)) 22 (upI (F 22) sd (-1))) 23 (upI (F 23) sd 0)) 24 (upI (F 24) sd 0)) 21 (upI (F 21) sd (vp_nar .boolean (iz 1)).toInt)) 22 (upI (upI (F 22) sd (-1)) sd 1))) := hD
                                        refine lv_aload_n hx hb dX6_step_269 rfl (lv_at hl 4 rfl) ?_
                                        refine va_get (D := (dC, dI)) (ci := 6) (v := .ref (ma 23)) (C := RX6) (T := TX6) (N := 44) hx hb hts kt_X6 hown hK hP 0 rfl rfl 23 (by decide) (kx_word hG kq_05_morder_3 rfl) (fun _ h9 => h9) rfl dX6_step_270 ?_
                                        refine lv_iload_n hx hb dX6_step_273 rfl (lv_at hl 5 rfl) ?_
                                        refine lv_bipush (v := iz 20) hx hb dX6_step_274 (by decide) ?_
                                        refine lv_iload_n hx hb dX6_step_276 rfl (lv_at hl 6 rfl) ?_
                                        refine ki_imul hx hb dX6_step_277 ?_
                                        refine lv_iload_n hx hb dX6_step_278 rfl (lv_at hl 3 rfl) ?_
                                        refine ki_iadd hx hb dX6_step_279 ?_
                                        refine ki_iast (F := upI (F 23) sd 0) hx hb hK hP hD hS 18 17 rfl rfl (by omega) (by omega) (by decide) dX6_step_280 (fun H locs hP hD hS => ?_)
                                        have hP : va_P (dC, dI) kxCl (mW mo ma cs I (va_up (va_up (va_up (va_up (va_up (va_up (va_up F 20 (upI (F 20) sd pa)) 22 (upI (F 22) sd (-1))) 23 (upI (F 23) sd 0)) 24 (upI (F 24) sd 0)) 21 (upI (F 21) sd (vp_nar .boolean (iz 1)).toInt)) 22 (upI (upI (F 22) sd (-1)) sd 1)) 23 (upI (upI (F 23) sd 0) sd ((20 * p0) + pz)))) H := hP
                                        have hD : va_D A (mW mo ma cs I (va_up (va_up (va_up (va_up (va_up (va_up (va_up F 20 (upI (F 20) sd pa)) 22 (upI (F 22) sd (-1))) 23 (upI (F 23) sd 0)) 24 (upI (F 24) sd 0)) 21 (upI (F 21) sd (vp_nar .boolean (iz 1)).toInt)) 22 (upI (upI (F 22) sd (-1)) sd 1)) 23 (upI (upI (F 23) sd 0) sd ((20 * p0) + pz)))) := hD
                                        refine lv_aload_n hx hb dX6_step_281 rfl (lv_at hl 4 rfl) ?_
                                        refine va_get (D := (dC, dI)) (ci := 6) (v := .ref (ma 24)) (C := RX6) (T := TX6) (N := 44) hx hb hts kt_X6 hown hK hP 0 rfl rfl 24 (by decide) (kx_word hG kq_05_morder_4 rfl) (fun _ h9 => h9) rfl dX6_step_282 ?_
                                        refine lv_iload_n hx hb dX6_step_285 rfl (lv_at hl 5 rfl) ?_
                                        refine lv_iload hx hb dX6_step_286 (lv_at hl 0 rfl) ?_
                                        refine lv_iload_n hx hb dX6_step_288 rfl (lv_at hl 3 rfl) ?_
                                        refine ki_isub hx hb dX6_step_289 ?_
                                        refine ki_iast (F := upI (F 24) sd 0) hx hb hK hP hD hS 19 18 rfl rfl (by omega) (by omega) (by decide) dX6_step_290 (fun H locs hP hD hS => ?_)
                                        have hP : va_P (dC, dI) kxCl (mW mo ma cs I (va_up (va_up (va_up (va_up (va_up (va_up (va_up (va_up F 20 (upI (F 20) sd pa)) 22 (upI (F 22) sd (-1))) 23 (upI (F 23) sd 0)) 24 (upI (F 24) sd 0)) 21 (upI (F 21) sd (vp_nar .boolean (iz 1)).toInt)) 22 (upI (upI (F 22) sd (-1)) sd 1)) 23 (upI (upI (F 23) sd 0) sd ((20 * p0) + pz))) 24 (upI (upI (F 24) sd 0) sd (en - pz)))) H := hP
                                        have hD : va_D A (mW mo ma cs I (va_up (va_up (va_up (va_up (va_up (va_up (va_up (va_up F 20 (upI (F 20) sd pa)) 22 (upI (F 22) sd (-1))) 23 (upI (F 23) sd 0)) 24 (upI (F 24) sd 0)) 21 (upI (F 21) sd (vp_nar .boolean (iz 1)).toInt)) 22 (upI (upI (F 22) sd (-1)) sd 1)) 23 (upI (upI (F 23) sd 0) sd ((20 * p0) + pz))) 24 (upI (upI (F 24) sd 0) sd (en - pz)))) := hD
                                        refine lv_aload_n hx hb dX6_step_291 rfl (lv_at hl 4 rfl) ?_
                                        refine va_get (D := (dC, dI)) (ci := 6) (v := .ref (ma 20)) (C := RX6) (T := TX6) (N := 44) hx hb hts kt_X6 hown hK hP 0 rfl rfl 20 (by decide) (kx_word hG kq_05_morder_0 rfl) (fun _ h9 => h9) rfl dX6_step_292 ?_
                                        refine lv_iload_n hx hb dX6_step_295 rfl (lv_at hl 5 rfl) ?_
                                        refine lv_iload hx hb dX6_step_296 (lv_at hl 0 rfl) ?_
                                        refine ki_iast (F := upI (F 20) sd pa) hx hb hK hP hD hS 15 14 rfl rfl (by omega) (by omega) (by decide) dX6_step_298 (fun H locs hP hD hS => ?_)
                                        have hP : va_P (dC, dI) kxCl (mW mo ma cs I (va_up (va_up (va_up (va_up (va_up (va_up (va_up (va_up (va_up F 20 (upI (F 20) sd pa)) 22 (upI (F 22) sd (-1))) 23 (upI (F 23) sd 0)) 24 (upI (F 24) sd 0)) 21 (upI (F 21) sd (vp_nar .boolean (iz 1)).toInt)) 22 (upI (upI (F 22) sd (-1)) sd 1)) 23 (upI (upI (F 23) sd 0) sd ((20 * p0) + pz))) 24 (upI (upI (F 24) sd 0) sd (en - pz))) 20 (upI (upI (F 20) sd pa) sd en))) H := hP
                                        have hD : va_D A (mW mo ma cs I (va_up (va_up (va_up (va_up (va_up (va_up (va_up (va_up (va_up F 20 (upI (F 20) sd pa)) 22 (upI (F 22) sd (-1))) 23 (upI (F 23) sd 0)) 24 (upI (F 24) sd 0)) 21 (upI (F 21) sd (vp_nar .boolean (iz 1)).toInt)) 22 (upI (upI (F 22) sd (-1)) sd 1)) 23 (upI (upI (F 23) sd 0) sd ((20 * p0) + pz))) 24 (upI (upI (F 24) sd 0) sd (en - pz))) 20 (upI (upI (F 20) sd pa) sd en))) := hD
                                        have ev20 : (va_up (va_up (va_up (va_up (va_up (va_up (va_up (va_up (va_up F 20 (upI (F 20) sd pa)) 22 (upI (F 22) sd (-1))) 23 (upI (F 23) sd 0)) 24 (upI (F 24) sd 0)) 21 (upI (F 21) sd (vp_nar .boolean (iz 1)).toInt)) 22 (upI (upI (F 22) sd (-1)) sd 1)) 23 (upI (upI (F 23) sd 0) sd ((20 * p0) + pz))) 24 (upI (upI (F 24) sd 0) sd (en - pz))) 20 (upI (upI (F 20) sd pa) sd en)) 20 sd = en := upI_self _ _ _
                                        have ev21 : (va_up (va_up (va_up (va_up (va_up (va_up (va_up (va_up (va_up F 20 (upI (F 20) sd pa)) 22 (upI (F 22) sd (-1))) 23 (upI (F 23) sd 0)) 24 (upI (F 24) sd 0)) 21 (upI (F 21) sd (vp_nar .boolean (iz 1)).toInt)) 22 (upI (upI (F 22) sd (-1)) sd 1)) 23 (upI (upI (F 23) sd 0) sd ((20 * p0) + pz))) 24 (upI (upI (F 24) sd 0) sd (en - pz))) 20 (upI (upI (F 20) sd pa) sd en)) 21 sd = (vp_nar .boolean (iz 1)).toInt := upI_self _ _ _
                                        have ev22 : (va_up (va_up (va_up (va_up (va_up (va_up (va_up (va_up (va_up F 20 (upI (F 20) sd pa)) 22 (upI (F 22) sd (-1))) 23 (upI (F 23) sd 0)) 24 (upI (F 24) sd 0)) 21 (upI (F 21) sd (vp_nar .boolean (iz 1)).toInt)) 22 (upI (upI (F 22) sd (-1)) sd 1)) 23 (upI (upI (F 23) sd 0) sd ((20 * p0) + pz))) 24 (upI (upI (F 24) sd 0) sd (en - pz))) 20 (upI (upI (F 20) sd pa) sd en)) 22 sd = 1 := upI_self _ _ _
                                        have ev23 : (va_up (va_up (va_up (va_up (va_up (va_up (va_up (va_up (va_up F 20 (upI (F 20) sd pa)) 22 (upI (F 22) sd (-1))) 23 (upI (F 23) sd 0)) 24 (upI (F 24) sd 0)) 21 (upI (F 21) sd (vp_nar .boolean (iz 1)).toInt)) 22 (upI (upI (F 22) sd (-1)) sd 1)) 23 (upI (upI (F 23) sd 0) sd ((20 * p0) + pz))) 24 (upI (upI (F 24) sd 0) sd (en - pz))) 20 (upI (upI (F 20) sd pa) sd en)) 23 sd = ((20 * p0) + pz) := upI_self _ _ _
                                        have ev24 : (va_up (va_up (va_up (va_up (va_up (va_up (va_up (va_up (va_up F 20 (upI (F 20) sd pa)) 22 (upI (F 22) sd (-1))) 23 (upI (F 23) sd 0)) 24 (upI (F 24) sd 0)) 21 (upI (F 21) sd (vp_nar .boolean (iz 1)).toInt)) 22 (upI (upI (F 22) sd (-1)) sd 1)) 23 (upI (upI (F 23) sd 0) sd ((20 * p0) + pz))) 24 (upI (upI (F 24) sd 0) sd (en - pz))) 20 (upI (upI (F 20) sd pa) sd en)) 24 sd = (en - pz) := upI_self _ _ _
                                        have ezn0 : (vp_nar .boolean (iz 1)).toInt = 1 := by decide
                                        have e_171 : (va_up (va_up (va_up (va_up (va_up (va_up (va_up (va_up (va_up F 20 (upI (F 20) sd pa)) 22 (upI (F 22) sd (-1))) 23 (upI (F 23) sd 0)) 24 (upI (F 24) sd 0)) 21 (upI (F 21) sd (vp_nar .boolean (iz 1)).toInt)) 22 (upI (upI (F 22) sd (-1)) sd 1)) 23 (upI (upI (F 23) sd 0) sd ((20 * p0) + pz))) 24 (upI (upI (F 24) sd 0) sd (en - pz))) 20 (upI (upI (F 20) sd pa) sd en)) 20 sd = en := upI_self _ _ _
                                        have e_172 : (va_up (va_up (va_up (va_up (va_up (va_up (va_up (va_up (va_up F 20 (upI (F 20) sd pa)) 22 (upI (F 22) sd (-1))) 23 (upI (F 23) sd 0)) 24 (upI (F 24) sd 0)) 21 (upI (F 21) sd (vp_nar .boolean (iz 1)).toInt)) 22 (upI (upI (F 22) sd (-1)) sd 1)) 23 (upI (upI (F 23) sd 0) sd ((20 * p0) + pz))) 24 (upI (upI (F 24) sd 0) sd (en - pz))) 20 (upI (upI (F 20) sd pa) sd en)) 22 sd = 1 := upI_self _ _ _
                                        have e_173 : (va_up (va_up (va_up (va_up (va_up (va_up (va_up (va_up (va_up F 20 (upI (F 20) sd pa)) 22 (upI (F 22) sd (-1))) 23 (upI (F 23) sd 0)) 24 (upI (F 24) sd 0)) 21 (upI (F 21) sd (vp_nar .boolean (iz 1)).toInt)) 22 (upI (upI (F 22) sd (-1)) sd 1)) 23 (upI (upI (F 23) sd 0) sd ((20 * p0) + pz))) 24 (upI (upI (F 24) sd 0) sd (en - pz))) 20 (upI (upI (F 20) sd pa) sd en)) 23 sd = (20 * p0) + pz := upI_self _ _ _
                                        have e_174 : (va_up (va_up (va_up (va_up (va_up (va_up (va_up (va_up (va_up F 20 (upI (F 20) sd pa)) 22 (upI (F 22) sd (-1))) 23 (upI (F 23) sd 0)) 24 (upI (F 24) sd 0)) 21 (upI (F 21) sd (vp_nar .boolean (iz 1)).toInt)) 22 (upI (upI (F 22) sd (-1)) sd 1)) 23 (upI (upI (F 23) sd 0) sd ((20 * p0) + pz))) 24 (upI (upI (F 24) sd 0) sd (en - pz))) 20 (upI (upI (F 20) sd pa) sd en)) 24 sd = en - pz := upI_self _ _ _
                                        have e_175 : (va_up (va_up (va_up (va_up (va_up (va_up (va_up (va_up (va_up F 20 (upI (F 20) sd pa)) 22 (upI (F 22) sd (-1))) 23 (upI (F 23) sd 0)) 24 (upI (F 24) sd 0)) 21 (upI (F 21) sd (vp_nar .boolean (iz 1)).toInt)) 22 (upI (upI (F 22) sd (-1)) sd 1)) 23 (upI (upI (F 23) sd 0) sd ((20 * p0) + pz))) 24 (upI (upI (F 24) sd 0) sd (en - pz))) 20 (upI (upI (F 20) sd pa) sd en)) 21 sd = (vp_nar .boolean (iz 1)).toInt := upI_self _ _ _
                                        rw [← hQe]
                                        exact mk_ret hx hb hr hlocks hP hD hK hS dX6_step_299 (⟨rfl, (mB_f (mB_f (mB_f (mB_f (mB_f (mB_f (mB_f (mB_f (mB_f hB 20 sd (by omega) (by omega)) 22 sd (by omega) (by omega)) 23 sd (by omega) (by omega)) 24 sd (by omega) (by omega)) 21 sd (iz_lo _) (iz_hi _)) 22 sd (by omega) (by omega)) 23 sd (by omega) (by omega)) 24 sd (by omega) (by omega)) 20 sd (by omega) (by omega)), (mfr.upF (mfr.upF (mfr.upF (mfr.upF (mfr.upF (mfr.upF (mfr.upF (mfr.upF (mfr.upF mfr.rf (by decide) _) (by decide) _) (by decide) _) (by decide) _) (by decide) _) (by decide) _) (by decide) _) (by decide) _) (by decide) _), (mo1.up (mo1.up (mo1.up (mo1.up (mo1.up (mo1.up (mo1.up (mo1.up (mo1.up mo1.rf 20 _) 22 _) 23 _) 24 _) 21 _) 22 _) 23 _) 24 _) 20 _), by omega, by omega, by omega, by rw [ev22, ev23, ev24]; exact Or.inr (Or.inr (Or.inl ⟨rfl, by omega, by omega⟩)), by rw [ev21]; exact Or.inr ezn0, by omega, by rw [ev20]; exact hboE, by rw [ev22, ev23, ev24, ev20, ev21, ezn0, kf_eu_num (f := kf_sg F p0) (fun i => rfl) hkzE]; exact hnum⟩)
                                      · skip
                                        refine lv_aload_n hx hb dX6_step_240 rfl (lv_at hl 4 rfl) ?_
                                        refine va_get (D := (dC, dI)) (ci := 6) (v := .ref (ma 4)) (C := RX6) (T := TX6) (N := 44) hx hb hts kt_X6 hown hK hP 0 rfl rfl 4 (by decide) (kx_word hG kq_04_msmall_16 rfl) (fun _ h9 => h9) rfl dX6_step_241 ?_
                                        refine lv_bipush (v := iz 20) hx hb dX6_step_244 (by decide) ?_
                                        refine lv_iload_n hx hb dX6_step_246 rfl (lv_at hl 6 rfl) ?_
                                        refine ki_imul hx hb dX6_step_247 ?_
                                        refine lv_iload_n hx hb dX6_step_248 rfl (lv_at hl 3 rfl) ?_
                                        refine ki_iadd hx hb dX6_step_249 ?_
                                        refine ki_iald (F := F 4) hx hb hK hP 3 2 rfl rfl (by omega) (by omega) (by decide) dX6_step_250 ?_
                                        have hbd_176 := hB.2 4 ((20 * p0) + pz)
                                        refine ki_is (show iz (F 4 ((20 * p0) + pz)) = iz (kf_sg F p0 pz) from rfl) ?_
                                        have hsk_177 := hsg pz (by omega) (by omega)
                                        refine lv_bipush (v := iz 48) hx hb dX6_step_251 (by decide) ?_
                                        refine ki_icmp_ne (tgt := 262) hx hb dX6_step_253 (by decide) (by omega) (by omega) (by omega) (by omega) (fun c_178 => ?_) (fun c_178 => ?_)
                                        · skip
                                          have hkzE : kf_kz (kf_sg F p0) en (en - pa).toNat pa = pz := hkz.trans (kf_kz_stop (by omega))
                                          refine lv_aload_n hx hb dX6_step_262 rfl (lv_at hl 4 rfl) ?_
                                          refine va_get (D := (dC, dI)) (ci := 6) (v := .ref (ma 22)) (C := RX6) (T := TX6) (N := 44) hx hb hts kt_X6 hown hK hP 0 rfl rfl 22 (by decide) (kx_word hG kq_05_morder_2 rfl) (fun _ h9 => h9) rfl dX6_step_263 ?_
                                          refine lv_iload_n hx hb dX6_step_266 rfl (lv_at hl 5 rfl) ?_
                                          refine lv_iconst (v := iz 1) hx hb dX6_step_267 (by decide) ?_
                                          refine ki_iast (F := upI (F 22) sd (-1)) hx hb hK hP hD hS 17 16 rfl rfl (by omega) (by omega) (by decide) dX6_step_268 (fun H locs hP hD hS => ?_)
                                          have hP : va_P (dC, dI) kxCl (mW mo ma cs I (va_up (va_up (va_up (va_up (va_up (va_up F 20 (upI (F 20) sd pa)) 22 (upI (F 22) sd (-1))) 23 (upI (F 23) sd 0)) 24 (upI (F 24) sd 0)) 21 (upI (F 21) sd (vp_nar .boolean (iz 1)).toInt)) 22 (upI (upI (F 22) sd (-1)) sd 1))) H := hP
                                          have hD : va_D A (mW mo ma cs I (va_up (va_up (va_up (va_up (va_up (va_up F 20 (upI (F 20) sd pa)) 22 (upI (F 22) sd (-1))) 23 (upI (F 23) sd 0)) 24 (upI (F 24) sd 0)) 21 (upI (F 21) sd (vp_nar .boolean (iz 1)).toInt)) 22 (upI (upI (F 22) sd (-1)) sd 1))) := hD
                                          refine lv_aload_n hx hb dX6_step_269 rfl (lv_at hl 4 rfl) ?_
                                          refine va_get (D := (dC, dI)) (ci := 6) (v := .ref (ma 23)) (C := RX6) (T := TX6) (N := 44) hx hb hts kt_X6 hown hK hP 0 rfl rfl 23 (by decide) (kx_word hG kq_05_morder_3 rfl) (fun _ h9 => h9) rfl dX6_step_270 ?_
                                          refine lv_iload_n hx hb dX6_step_273 rfl (lv_at hl 5 rfl) ?_
                                          refine lv_bipush (v := iz 20) hx hb dX6_step_274 (by decide) ?_
                                          refine lv_iload_n hx hb dX6_step_276 rfl (lv_at hl 6 rfl) ?_
                                          refine ki_imul hx hb dX6_step_277 ?_
                                          refine lv_iload_n hx hb dX6_step_278 rfl (lv_at hl 3 rfl) ?_
                                          refine ki_iadd hx hb dX6_step_279 ?_
                                          refine ki_iast (F := upI (F 23) sd 0) hx hb hK hP hD hS 18 17 rfl rfl (by omega) (by omega) (by decide) dX6_step_280 (fun H locs hP hD hS => ?_)
                                          have hP : va_P (dC, dI) kxCl (mW mo ma cs I (va_up (va_up (va_up (va_up (va_up (va_up (va_up F 20 (upI (F 20) sd pa)) 22 (upI (F 22) sd (-1))) 23 (upI (F 23) sd 0)) 24 (upI (F 24) sd 0)) 21 (upI (F 21) sd (vp_nar .boolean (iz 1)).toInt)) 22 (upI (upI (F 22) sd (-1)) sd 1)) 23 (upI (upI (F 23) sd 0) sd ((20 * p0) + pz)))) H := hP
                                          have hD : va_D A (mW mo ma cs I (va_up (va_up (va_up (va_up (va_up (va_up (va_up F 20 (upI (F 20) sd pa)) 22 (upI (F 22) sd (-1))) 23 (upI (F 23) sd 0)) 24 (upI (F 24) sd 0)) 21 (upI (F 21) sd (vp_nar .boolean (iz 1)).toInt)) 22 (upI (upI (F 22) sd (-1)) sd 1)) 23 (upI (upI (F 23) sd 0) sd ((20 * p0) + pz)))) := hD
                                          refine lv_aload_n hx hb dX6_step_281 rfl (lv_at hl 4 rfl) ?_
                                          refine va_get (D := (dC, dI)) (ci := 6) (v := .ref (ma 24)) (C := RX6) (T := TX6) (N := 44) hx hb hts kt_X6 hown hK hP 0 rfl rfl 24 (by decide) (kx_word hG kq_05_morder_4 rfl) (fun _ h9 => h9) rfl dX6_step_282 ?_
                                          refine lv_iload_n hx hb dX6_step_285 rfl (lv_at hl 5 rfl) ?_
                                          refine lv_iload hx hb dX6_step_286 (lv_at hl 0 rfl) ?_
                                          refine lv_iload_n hx hb dX6_step_288 rfl (lv_at hl 3 rfl) ?_
                                          refine ki_isub hx hb dX6_step_289 ?_
                                          refine ki_iast (F := upI (F 24) sd 0) hx hb hK hP hD hS 19 18 rfl rfl (by omega) (by omega) (by decide) dX6_step_290 (fun H locs hP hD hS => ?_)
                                          have hP : va_P (dC, dI) kxCl (mW mo ma cs I (va_up (va_up (va_up (va_up (va_up (va_up (va_up (va_up F 20 (upI (F 20) sd pa)) 22 (upI (F 22) sd (-1))) 23 (upI (F 23) sd 0)) 24 (upI (F 24) sd 0)) 21 (upI (F 21) sd (vp_nar .boolean (iz 1)).toInt)) 22 (upI (upI (F 22) sd (-1)) sd 1)) 23 (upI (upI (F 23) sd 0) sd ((20 * p0) + pz))) 24 (upI (upI (F 24) sd 0) sd (en - pz)))) H := hP
                                          have hD : va_D A (mW mo ma cs I (va_up (va_up (va_up (va_up (va_up (va_up (va_up (va_up F 20 (upI (F 20) sd pa)) 22 (upI (F 22) sd (-1))) 23 (upI (F 23) sd 0)) 24 (upI (F 24) sd 0)) 21 (upI (F 21) sd (vp_nar .boolean (iz 1)).toInt)) 22 (upI (upI (F 22) sd (-1)) sd 1)) 23 (upI (upI (F 23) sd 0) sd ((20 * p0) + pz))) 24 (upI (upI (F 24) sd 0) sd (en - pz)))) := hD
                                          refine lv_aload_n hx hb dX6_step_291 rfl (lv_at hl 4 rfl) ?_
                                          refine va_get (D := (dC, dI)) (ci := 6) (v := .ref (ma 20)) (C := RX6) (T := TX6) (N := 44) hx hb hts kt_X6 hown hK hP 0 rfl rfl 20 (by decide) (kx_word hG kq_05_morder_0 rfl) (fun _ h9 => h9) rfl dX6_step_292 ?_
                                          refine lv_iload_n hx hb dX6_step_295 rfl (lv_at hl 5 rfl) ?_
                                          refine lv_iload hx hb dX6_step_296 (lv_at hl 0 rfl) ?_
                                          refine ki_iast (F := upI (F 20) sd pa) hx hb hK hP hD hS 15 14 rfl rfl (by omega) (by omega) (by decide) dX6_step_298 (fun H locs hP hD hS => ?_)
                                          have hP : va_P (dC, dI) kxCl (mW mo ma cs I (va_up (va_up (va_up (va_up (va_up (va_up (va_up (va_up (va_up F 20 (upI (F 20) sd pa)) 22 (upI (F 22) sd (-1))) 23 (upI (F 23) sd 0)) 24 (upI (F 24) sd 0)) 21 (upI (F 21) sd (vp_nar .boolean (iz 1)).toInt)) 22 (upI (upI (F 22) sd (-1)) sd 1)) 23 (upI (upI (F 23) sd 0) sd ((20 * p0) + pz))) 24 (upI (upI (F 24) sd 0) sd (en - pz))) 20 (upI (upI (F 20) sd pa) sd en))) H := hP
                                          have hD : va_D A (mW mo ma cs I (va_up (va_up (va_up (va_up (va_up (va_up (va_up (va_up (va_up F 20 (upI (F 20) sd pa)) 22 (upI (F 22) sd (-1))) 23 (upI (F 23) sd 0)) 24 (upI (F 24) sd 0)) 21 (upI (F 21) sd (vp_nar .boolean (iz 1)).toInt)) 22 (upI (upI (F 22) sd (-1)) sd 1)) 23 (upI (upI (F 23) sd 0) sd ((20 * p0) + pz))) 24 (upI (upI (F 24) sd 0) sd (en - pz))) 20 (upI (upI (F 20) sd pa) sd en))) := hD
                                          have ev20 : (va_up (va_up (va_up (va_up (va_up (va_up (va_up (va_up (va_up F 20 (upI (F 20) sd pa)) 22 (upI (F 22) sd (-1))) 23 (upI (F 23) sd 0)) 24 (upI (F 24) sd 0)) 21 (upI (F 21) sd (vp_nar .boolean (iz 1)).toInt)) 22 (upI (upI (F 22) sd (-1)) sd 1)) 23 (upI (upI (F 23) sd 0) sd ((20 * p0) + pz))) 24 (upI (upI (F 24) sd 0) sd (en - pz))) 20 (upI (upI (F 20) sd pa) sd en)) 20 sd = en := upI_self _ _ _
                                          have ev21 : (va_up (va_up (va_up (va_up (va_up (va_up (va_up (va_up (va_up F 20 (upI (F 20) sd pa)) 22 (upI (F 22) sd (-1))) 23 (upI (F 23) sd 0)) 24 (upI (F 24) sd 0)) 21 (upI (F 21) sd (vp_nar .boolean (iz 1)).toInt)) 22 (upI (upI (F 22) sd (-1)) sd 1)) 23 (upI (upI (F 23) sd 0) sd ((20 * p0) + pz))) 24 (upI (upI (F 24) sd 0) sd (en - pz))) 20 (upI (upI (F 20) sd pa) sd en)) 21 sd = (vp_nar .boolean (iz 1)).toInt := upI_self _ _ _
                                          have ev22 : (va_up (va_up (va_up (va_up (va_up (va_up (va_up (va_up (va_up F 20 (upI (F 20) sd pa)) 22 (upI (F 22) sd (-1))) 23 (upI (F 23) sd 0)) 24 (upI (F 24) sd 0)) 21 (upI (F 21) sd (vp_nar .boolean (iz 1)).toInt)) 22 (upI (upI (F 22) sd (-1)) sd 1)) 23 (upI (upI (F 23) sd 0) sd ((20 * p0) + pz))) 24 (upI (upI (F 24) sd 0) sd (en - pz))) 20 (upI (upI (F 20) sd pa) sd en)) 22 sd = 1 := upI_self _ _ _
                                          have ev23 : (va_up (va_up (va_up (va_up (va_up (va_up (va_up (va_up (va_up F 20 (upI (F 20) sd pa)) 22 (upI (F 22) sd (-1))) 23 (upI (F 23) sd 0)) 24 (upI (F 24) sd 0)) 21 (upI (F 21) sd (vp_nar .boolean (iz 1)).toInt)) 22 (upI (upI (F 22) sd (-1)) sd 1)) 23 (upI (upI (F 23) sd 0) sd ((20 * p0) + pz))) 24 (upI (upI (F 24) sd 0) sd (en - pz))) 20 (upI (upI (F 20) sd pa) sd en)) 23 sd = ((20 * p0) + pz) := upI_self _ _ _
                                          have ev24 : (va_up (va_up (va_up (va_up (va_up (va_up (va_up (va_up (va_up F 20 (upI (F 20) sd pa)) 22 (upI (F 22) sd (-1))) 23 (upI (F 23) sd 0)) 24 (upI (F 24) sd 0)) 21 (upI (F 21) sd (vp_nar .boolean (iz 1)).toInt)) 22 (upI (upI (F 22) sd (-1)) sd 1)) 23 (upI (upI (F 23) sd 0) sd ((20 * p0) + pz))) 24 (upI (upI (F 24) sd 0) sd (en - pz))) 20 (upI (upI (F 20) sd pa) sd en)) 24 sd = (en - pz) := upI_self _ _ _
                                          have ezn0 : (vp_nar .boolean (iz 1)).toInt = 1 := by decide
                                          have e_179 : (va_up (va_up (va_up (va_up (va_up (va_up (va_up (va_up (va_up F 20 (upI (F 20) sd pa)) 22 (upI (F 22) sd (-1))) 23 (upI (F 23) sd 0)) 24 (upI (F 24) sd 0)) 21 (upI (F 21) sd (vp_nar .boolean (iz 1)).toInt)) 22 (upI (upI (F 22) sd (-1)) sd 1)) 23 (upI (upI (F 23) sd 0) sd ((20 * p0) + pz))) 24 (upI (upI (F 24) sd 0) sd (en - pz))) 20 (upI (upI (F 20) sd pa) sd en)) 20 sd = en := upI_self _ _ _
                                          have e_180 : (va_up (va_up (va_up (va_up (va_up (va_up (va_up (va_up (va_up F 20 (upI (F 20) sd pa)) 22 (upI (F 22) sd (-1))) 23 (upI (F 23) sd 0)) 24 (upI (F 24) sd 0)) 21 (upI (F 21) sd (vp_nar .boolean (iz 1)).toInt)) 22 (upI (upI (F 22) sd (-1)) sd 1)) 23 (upI (upI (F 23) sd 0) sd ((20 * p0) + pz))) 24 (upI (upI (F 24) sd 0) sd (en - pz))) 20 (upI (upI (F 20) sd pa) sd en)) 22 sd = 1 := upI_self _ _ _
                                          have e_181 : (va_up (va_up (va_up (va_up (va_up (va_up (va_up (va_up (va_up F 20 (upI (F 20) sd pa)) 22 (upI (F 22) sd (-1))) 23 (upI (F 23) sd 0)) 24 (upI (F 24) sd 0)) 21 (upI (F 21) sd (vp_nar .boolean (iz 1)).toInt)) 22 (upI (upI (F 22) sd (-1)) sd 1)) 23 (upI (upI (F 23) sd 0) sd ((20 * p0) + pz))) 24 (upI (upI (F 24) sd 0) sd (en - pz))) 20 (upI (upI (F 20) sd pa) sd en)) 23 sd = (20 * p0) + pz := upI_self _ _ _
                                          have e_182 : (va_up (va_up (va_up (va_up (va_up (va_up (va_up (va_up (va_up F 20 (upI (F 20) sd pa)) 22 (upI (F 22) sd (-1))) 23 (upI (F 23) sd 0)) 24 (upI (F 24) sd 0)) 21 (upI (F 21) sd (vp_nar .boolean (iz 1)).toInt)) 22 (upI (upI (F 22) sd (-1)) sd 1)) 23 (upI (upI (F 23) sd 0) sd ((20 * p0) + pz))) 24 (upI (upI (F 24) sd 0) sd (en - pz))) 20 (upI (upI (F 20) sd pa) sd en)) 24 sd = en - pz := upI_self _ _ _
                                          have e_183 : (va_up (va_up (va_up (va_up (va_up (va_up (va_up (va_up (va_up F 20 (upI (F 20) sd pa)) 22 (upI (F 22) sd (-1))) 23 (upI (F 23) sd 0)) 24 (upI (F 24) sd 0)) 21 (upI (F 21) sd (vp_nar .boolean (iz 1)).toInt)) 22 (upI (upI (F 22) sd (-1)) sd 1)) 23 (upI (upI (F 23) sd 0) sd ((20 * p0) + pz))) 24 (upI (upI (F 24) sd 0) sd (en - pz))) 20 (upI (upI (F 20) sd pa) sd en)) 21 sd = (vp_nar .boolean (iz 1)).toInt := upI_self _ _ _
                                          rw [← hQe]
                                          exact mk_ret hx hb hr hlocks hP hD hK hS dX6_step_299 (⟨rfl, (mB_f (mB_f (mB_f (mB_f (mB_f (mB_f (mB_f (mB_f (mB_f hB 20 sd (by omega) (by omega)) 22 sd (by omega) (by omega)) 23 sd (by omega) (by omega)) 24 sd (by omega) (by omega)) 21 sd (iz_lo _) (iz_hi _)) 22 sd (by omega) (by omega)) 23 sd (by omega) (by omega)) 24 sd (by omega) (by omega)) 20 sd (by omega) (by omega)), (mfr.upF (mfr.upF (mfr.upF (mfr.upF (mfr.upF (mfr.upF (mfr.upF (mfr.upF (mfr.upF mfr.rf (by decide) _) (by decide) _) (by decide) _) (by decide) _) (by decide) _) (by decide) _) (by decide) _) (by decide) _) (by decide) _), (mo1.up (mo1.up (mo1.up (mo1.up (mo1.up (mo1.up (mo1.up (mo1.up (mo1.up mo1.rf 20 _) 22 _) 23 _) 24 _) 21 _) 22 _) 23 _) 24 _) 20 _), by omega, by omega, by omega, by rw [ev22, ev23, ev24]; exact Or.inr (Or.inr (Or.inl ⟨rfl, by omega, by omega⟩)), by rw [ev21]; exact Or.inr ezn0, by omega, by rw [ev20]; exact hboE, by rw [ev22, ev23, ev24, ev20, ev21, ezn0, kf_eu_num (f := kf_sg F p0) (fun i => rfl) hkzE]; exact hnum⟩)
                                        · skip
                                          refine lv_iinc (v := iz (pz + 1)) (lv' := [(3, .int (iz (pz + 1))), (6, .int (iz en)), (5, .int (iz (kf_sg F p0 pa))), (4, .int (iz ps)), (0, .ref mo), (1, .int (iz sd)), (2, .int (iz p0))]) hx hb dX6_step_256 hl (k := 3) rfl (iz_add pz 1) (by decide) rfl (fun ls hl => ?_)
                                          refine lv_goto (tgt := 234) hx hb dX6_step_259 (by decide) ?_
                                          exact ih234 (pz + 1) ⟨by omega, hkz.trans (kf_kz_step (by omega) (by omega))⟩ (by omega) _ _ hP hD hS ls (lv_sub hl [1, 2, 3, 0, 4, 5, 6] rfl)
                                  exact lp234 _ pa ⟨by omega, rfl⟩ (Nat.lt_succ_self _) _ _ hP hD hS ls (lv_sub hl [0, 1, 2, 3, 4, 5, 6] rfl)
                                · omega
                      exact lp192 _ (pa + 1) ⟨by omega, Or.inl rfl, fun h9 => kf_ke_step (by omega) hkd⟩ (Nat.lt_succ_self _) _ _ hP hD hS ls (lv_sub hl [0, 1, 2, 3, 4, 5, 6] rfl)
                    · omega
                  · skip
                    refine lv_aload_n hx hb dX6_step_114 rfl (lv_at hl 2 rfl) ?_
                    refine va_get (D := (dC, dI)) (ci := 6) (v := .ref (ma 21)) (C := RX6) (T := TX6) (N := 44) hx hb hts kt_X6 hown hK hP 0 rfl rfl 21 (by decide) (kx_word hG kq_05_morder_1 rfl) (fun _ h9 => h9) rfl dX6_step_115 ?_
                    refine lv_iload_n hx hb dX6_step_118 rfl (lv_at hl 3 rfl) ?_
                    refine ki_zald (F := F 21) hx hb hK hP 16 15 rfl rfl (by omega) (by omega) (by decide) dX6_step_119 ?_
                    have hbd_184 := hB.2 21 sd
                    refine ki_if_eq (tgt := 131) hx hb dX6_step_120 (by decide) (by omega) (by omega) (fun c_185 => ?_) (fun c_185 => ?_)
                    · skip
                      have hK0 : kf_kI (kf_sg F p0) (F 5 p0) (I 14) (I 15) (F 20 sd) 0 (F 21 sd) = kf_kI (kf_sg F p0) (F 5 p0) (I 14) (I 15) pa 0 (F 21 sd) := by rcases hKy with ⟨-, h9⟩ | ⟨h7, h8, h6, -⟩ | ⟨-, -, h9⟩; exact h9; exact absurd h8 (by omega); exact h9
                      have hboP : kf_kbo (kf_sg F p0) (F 5 p0) (I 14) pa := by rcases hps with h9 | h9; rw [h9.2]; exact hbo; exact Or.inr (by have h8 := hprev h9.1; omega)
                      refine lv_aload_n hx hb dX6_step_131 rfl (lv_at hl 2 rfl) ?_
                      refine va_get (D := (dC, dI)) (ci := 6) (v := .ref (ma 21)) (C := RX6) (T := TX6) (N := 44) hx hb hts kt_X6 hown hK hP 0 rfl rfl 21 (by decide) (kx_word hG kq_05_morder_1 rfl) (fun _ h9 => h9) rfl dX6_step_132 ?_
                      refine lv_iload_n hx hb dX6_step_135 rfl (lv_at hl 3 rfl) ?_
                      refine lv_iconst (v := iz 1) hx hb dX6_step_136 (by decide) ?_
                      refine ki_zast (F := F 21) hx hb hK hP hD hS 16 15 rfl rfl (by omega) (by omega) (by decide) dX6_step_137 (fun H locs hP hD hS => ?_)
                      have hP : va_P (dC, dI) kxCl (mW mo ma cs I (va_up (va_up (va_up (va_up (va_up F 20 (upI (F 20) sd pa)) 22 (upI (F 22) sd (-1))) 23 (upI (F 23) sd 0)) 24 (upI (F 24) sd 0)) 21 (upI (F 21) sd (vp_nar .boolean (iz 1)).toInt))) H := hP
                      have hD : va_D A (mW mo ma cs I (va_up (va_up (va_up (va_up (va_up F 20 (upI (F 20) sd pa)) 22 (upI (F 22) sd (-1))) 23 (upI (F 23) sd 0)) 24 (upI (F 24) sd 0)) 21 (upI (F 21) sd (vp_nar .boolean (iz 1)).toInt))) := hD
                      refine lv_aload_n hx hb dX6_step_138 rfl (lv_at hl 2 rfl) ?_
                      refine va_get (D := (dC, dI)) (ci := 6) (v := .ref (ma 4)) (C := RX6) (T := TX6) (N := 44) hx hb hts kt_X6 hown hK hP 0 rfl rfl 4 (by decide) (kx_word hG kq_04_msmall_16 rfl) (fun _ h9 => h9) rfl dX6_step_139 ?_
                      refine lv_bipush (v := iz 20) hx hb dX6_step_142 (by decide) ?_
                      refine lv_iload_n hx hb dX6_step_144 rfl (lv_at hl 4 rfl) ?_
                      refine ki_imul hx hb dX6_step_145 ?_
                      refine lv_iload_n hx hb dX6_step_146 rfl (lv_at hl 1 rfl) ?_
                      refine ki_iadd hx hb dX6_step_147 ?_
                      refine ki_iald (F := F 4) hx hb hK hP 3 2 rfl rfl (by omega) (by omega) (by decide) dX6_step_148 ?_
                      refine ki_is (show iz (F 4 ((20 * p0) + pa)) = iz (kf_sg F p0 pa) from rfl) ?_
                      have hsk_186 := hsg pa (by omega) (by omega)
                      refine lv_istore (lv' := [(5, .int (iz (kf_sg F p0 pa))), (4, .int (iz ps)), (3, .int (iz pa)), (0, .ref mo), (1, .int (iz sd)), (2, .int (iz p0))]) hx hb dX6_step_149 hl (by decide) rfl (fun ls hl => ?_)
                      refine lv_iload hx hb dX6_step_151 (lv_at hl 0 rfl) ?_
                      refine mk_calls (As := [.int (iz (kf_sg F p0 pa))]) (rest := []) ⟨hx, hb, hml, hown, hts⟩ (k_letterOf2 l dC dI (kf_sg F p0 pa) H.size (by omega) (by omega) (hsg pa (by omega) (by omega))) (va_cwS 1 hts (kx_gS kq_05_morder_5 kq_05_morder_6 kq_04_msmall_6 kq_05_morder_7 rfl) rfl rfl rfl (by decide +kernel) ⟨Nat.le_of_ble_eq_true rfl, Nat.le_of_ble_eq_true rfl⟩) hP hD hK hG hZ hS hA rfl hl.1 rfl (Nat.le_of_ble_eq_true rfl) dX6_step_153 ⟨Nat.le_of_ble_eq_true rfl, Nat.le_of_ble_eq_true rfl⟩ (fun z_187 H locs hq_188 hP hS => ?_)
                      try dsimp only at hq_188
                      subst hq_188
                      refine W.eq (g2 := F0 m 156 ls [.int (iz (kf_kl (kf_sg F p0 pa)))]) rfl ?_
                      have hklb_189 := kf_kl_bd (kf_sg F p0 pa)
                      refine ki_if_le (tgt := 187) hx hb dX6_step_156 (by decide) (by omega) (by omega) (fun c_190 => ?_) (fun c_190 => ?_)
                      · skip
                        have hkd : kf_kd (kf_sg F p0 pa) := by omega
                        have hbo2 : ¬ I 14 = 0 → ¬ (0 < pa ∧ kf_kd (kf_sg F p0 (pa - 1))) := fun h9 => by rcases hboP with h8 | h8; exact absurd h8 h9; exact fun h7 => h8 ⟨by omega, h7.1, hkd, h7.2⟩
                        refine lv_iload_n hx hb dX6_step_187 rfl (lv_at hl 2 rfl) ?_
                        refine lv_iconst (v := iz 1) hx hb dX6_step_188 (by decide) ?_
                        refine ki_iadd hx hb dX6_step_189 ?_
                        refine lv_istore (lv' := [(6, .int (iz (pa + 1))), (5, .int (iz (kf_sg F p0 pa))), (4, .int (iz ps)), (3, .int (iz pa)), (0, .ref mo), (1, .int (iz sd)), (2, .int (iz p0))]) hx hb dX6_step_190 hl (by decide) rfl (fun ls hl => ?_)
                        have lp192 : ∀ (n : Nat) (en : Int), ((pa + 1 ≤ en ∧ en ≤ F 5 p0) ∧ (en = pa + 1 ∨ ¬ I 14 = 0) ∧ (¬ I 14 = 0 → kf_ke (kf_sg F p0) (F 5 p0) (F 5 p0 - pa).toNat pa = kf_ke (kf_sg F p0) (F 5 p0) (F 5 p0 - en).toNat en)) → (F 5 p0 - en).toNat < n → ∀ (H : Heap) (locs : List Loc), va_P (dC, dI) kxCl (mW mo ma cs I (va_up (va_up (va_up (va_up (va_up F 20 (upI (F 20) sd pa)) 22 (upI (F 22) sd (-1))) 23 (upI (F 23) sd 0)) 24 (upI (F 24) sd 0)) 21 (upI (F 21) sd (vp_nar .boolean (iz 1)).toInt))) H → va_D A (mW mo ma cs I (va_up (va_up (va_up (va_up (va_up F 20 (upI (F 20) sd pa)) 22 (upI (F 22) sd (-1))) 23 (upI (F 23) sd 0)) 24 (upI (F 24) sd 0)) 21 (upI (F 21) sd (vp_nar .boolean (iz 1)).toInt))) → va_S A s.heap H locs → ∀ ls : Array Slot, lv_has ls 7 [(6, .int (iz en)), (5, .int (iz (kf_sg F p0 pa))), (4, .int (iz ps)), (3, .int (iz pa)), (0, .ref mo), (1, .int (iz sd)), (2, .int (iz p0))] → W p l e (headSpec [.code yX6_step cX6_step 7 none] ({ frames := 1, cells := 0, slots := 0, locals := 21 })).room s m ([.ref mo, .int (iz sd), .int (iz p0)] : List Value).toArray below meth c H locs 0 0 QQ (F0 m 192 ls []) := by
                          intro n
                          induction n with
                          | zero => intro en hinv hm; exact absurd hm (Nat.not_lt_zero _)
                          | succ n ih192 =>
                            intro en hinv hm H locs hP hD hS ls hl
                            obtain ⟨hen, hen0, hke⟩ := hinv
                            refine lv_aload_n hx hb dX6_step_192 rfl (lv_at hl 4 rfl) ?_
                            refine va_get (D := (dC, dI)) (ci := 6) (v := .int (iz (I 14))) (C := RX6) (T := TX6) (N := 44) hx hb hts kt_X6 hown hK hP 0 rfl rfl 14 (by decide) (kx_word hG kq_04_msmall_17 rfl) (fun _ h9 => h9) rfl dX6_step_193 ?_
                            have hbd_191 := hB.1 14
                            refine ki_if_eq (tgt := 234) hx hb dX6_step_196 (by decide) (by omega) (by omega) (fun c_192 => ?_) (fun c_192 => ?_)
                            · skip
                              have hkeE : ¬ I 14 = 0 → kf_ke (kf_sg F p0) (F 5 p0) (F 5 p0 - pa).toNat pa = en := fun h9 => (hke h9).trans (kf_ke_stop (by omega))
                              have hen1 : I 14 = 0 → en = pa + 1 := fun h9 => by rcases hen0 with h8 | h8; exact h8; exact absurd h9 h8
                              have hnum : kf_kI (kf_sg F p0) (F 5 p0) (I 14) (I 15) (F 20 sd) 0 (F 21 sd) = kf_kn (kf_sg F p0) pa en ++ kf_kI (kf_sg F p0) (F 5 p0) (I 14) (I 15) en 0 1 := by by_cases h9 : I 14 = 0; rw [hen1 h9]; exact hK0.trans (kf_kI_one (kf_sg F p0) (F 5 p0) (I 14) (I 15) pa 0 (F 21 sd) 1 (by omega) hkd h9 rfl (by omega)); have h7 := hK0.trans (kf_kI_whole (kf_sg F p0) (F 5 p0) (I 14) (I 15) pa 0 (F 21 sd) 1 (by omega) (by omega) hkd h9 (hbo2 h9) rfl (by omega)); rw [hkeE h9] at h7; exact h7
                              have hboE : kf_kbo (kf_sg F p0) (F 5 p0) (I 14) en := by by_cases h9 : I 14 = 0; exact Or.inl h9; exact Or.inr (fun h7 => by have h6 := (kf_ke_run (kf_sg F p0) (F 5 p0) (F 5 p0 - pa).toNat pa (by omega) (Nat.le_refl _)).2; rw [hkeE h9] at h6; exact h6 h7.1 h7.2.2.1)
                              have lp234 : ∀ (n : Nat) (pz : Int), ((pa ≤ pz ∧ pz ≤ en) ∧ (kf_kz (kf_sg F p0) en (en - pa).toNat pa = kf_kz (kf_sg F p0) en (en - pz).toNat pz)) → (en - pz).toNat < n → ∀ (H : Heap) (locs : List Loc), va_P (dC, dI) kxCl (mW mo ma cs I (va_up (va_up (va_up (va_up (va_up F 20 (upI (F 20) sd pa)) 22 (upI (F 22) sd (-1))) 23 (upI (F 23) sd 0)) 24 (upI (F 24) sd 0)) 21 (upI (F 21) sd (vp_nar .boolean (iz 1)).toInt))) H → va_D A (mW mo ma cs I (va_up (va_up (va_up (va_up (va_up F 20 (upI (F 20) sd pa)) 22 (upI (F 22) sd (-1))) 23 (upI (F 23) sd 0)) 24 (upI (F 24) sd 0)) 21 (upI (F 21) sd (vp_nar .boolean (iz 1)).toInt))) → va_S A s.heap H locs → ∀ ls : Array Slot, lv_has ls 7 [(6, .int (iz en)), (5, .int (iz (kf_sg F p0 pa))), (4, .int (iz ps)), (3, .int (iz pz)), (0, .ref mo), (1, .int (iz sd)), (2, .int (iz p0))] → W p l e (headSpec [.code yX6_step cX6_step 7 none] ({ frames := 1, cells := 0, slots := 0, locals := 21 })).room s m ([.ref mo, .int (iz sd), .int (iz p0)] : List Value).toArray below meth c H locs 0 0 QQ (F0 m 234 ls []) := by
                                intro n
                                induction n with
                                | zero => intro pz hinv hm; exact absurd hm (Nat.not_lt_zero _)
                                | succ n ih234 =>
                                  intro pz hinv hm H locs hP hD hS ls hl
                                  obtain ⟨hpz, hkz⟩ := hinv
                                  refine lv_iload_n hx hb dX6_step_234 rfl (lv_at hl 3 rfl) ?_
                                  refine lv_iload hx hb dX6_step_235 (lv_at hl 0 rfl) ?_
                                  refine ki_icmp_ge (tgt := 262) hx hb dX6_step_237 (by decide) (by omega) (by omega) (by omega) (by omega) (fun c_193 => ?_) (fun c_193 => ?_)
                                  · skip
                                    have hkzE : kf_kz (kf_sg F p0) en (en - pa).toNat pa = pz := hkz.trans (kf_kz_stop (by omega))
                                    refine lv_aload_n hx hb dX6_step_262 rfl (lv_at hl 4 rfl) ?_
                                    refine va_get (D := (dC, dI)) (ci := 6) (v := .ref (ma 22)) (C := RX6) (T := TX6) (N := 44) hx hb hts kt_X6 hown hK hP 0 rfl rfl 22 (by decide) (kx_word hG kq_05_morder_2 rfl) (fun _ h9 => h9) rfl dX6_step_263 ?_
                                    refine lv_iload_n hx hb dX6_step_266 rfl (lv_at hl 5 rfl) ?_
                                    refine lv_iconst (v := iz 1) hx hb dX6_step_267 (by decide) ?_
                                    refine ki_iast (F := upI (F 22) sd (-1)) hx hb hK hP hD hS 17 16 rfl rfl (by omega) (by omega) (by decide) dX6_step_268 (fun H locs hP hD hS => ?_)
                                    have hP : va_P (dC, dI) kxCl (mW mo ma cs I (va_up (va_up (va_up (va_up (va_up (va_up F 20 (upI (F 20) sd pa)) 22 (upI (F 22) sd (-1))) 23 (upI (F 23) sd 0)) 24 (upI (F 24) sd 0)) 21 (upI (F 21) sd (vp_nar .boolean (iz 1)).toInt)) 22 (upI (upI (F 22) sd (-1)) sd 1))) H := hP
                                    have hD : va_D A (mW mo ma cs I (va_up (va_up (va_up (va_up (va_up (va_up F 20 (upI (F 20) sd pa)) 22 (upI (F 22) sd (-1))) 23 (upI (F 23) sd 0)) 24 (upI (F 24) sd 0)) 21 (upI (F 21) sd (vp_nar .boolean (iz 1)).toInt)) 22 (upI (upI (F 22) sd (-1)) sd 1))) := hD
                                    refine lv_aload_n hx hb dX6_step_269 rfl (lv_at hl 4 rfl) ?_
                                    refine va_get (D := (dC, dI)) (ci := 6) (v := .ref (ma 23)) (C := RX6) (T := TX6) (N := 44) hx hb hts kt_X6 hown hK hP 0 rfl rfl 23 (by decide) (kx_word hG kq_05_morder_3 rfl) (fun _ h9 => h9) rfl dX6_step_270 ?_
                                    refine lv_iload_n hx hb dX6_step_273 rfl (lv_at hl 5 rfl) ?_
                                    refine lv_bipush (v := iz 20) hx hb dX6_step_274 (by decide) ?_
                                    refine lv_iload_n hx hb dX6_step_276 rfl (lv_at hl 6 rfl) ?_
                                    refine ki_imul hx hb dX6_step_277 ?_
                                    refine lv_iload_n hx hb dX6_step_278 rfl (lv_at hl 3 rfl) ?_
                                    refine ki_iadd hx hb dX6_step_279 ?_
                                    refine ki_iast (F := upI (F 23) sd 0) hx hb hK hP hD hS 18 17 rfl rfl (by omega) (by omega) (by decide) dX6_step_280 (fun H locs hP hD hS => ?_)
                                    have hP : va_P (dC, dI) kxCl (mW mo ma cs I (va_up (va_up (va_up (va_up (va_up (va_up (va_up F 20 (upI (F 20) sd pa)) 22 (upI (F 22) sd (-1))) 23 (upI (F 23) sd 0)) 24 (upI (F 24) sd 0)) 21 (upI (F 21) sd (vp_nar .boolean (iz 1)).toInt)) 22 (upI (upI (F 22) sd (-1)) sd 1)) 23 (upI (upI (F 23) sd 0) sd ((20 * p0) + pz)))) H := hP
                                    have hD : va_D A (mW mo ma cs I (va_up (va_up (va_up (va_up (va_up (va_up (va_up F 20 (upI (F 20) sd pa)) 22 (upI (F 22) sd (-1))) 23 (upI (F 23) sd 0)) 24 (upI (F 24) sd 0)) 21 (upI (F 21) sd (vp_nar .boolean (iz 1)).toInt)) 22 (upI (upI (F 22) sd (-1)) sd 1)) 23 (upI (upI (F 23) sd 0) sd ((20 * p0) + pz)))) := hD
                                    refine lv_aload_n hx hb dX6_step_281 rfl (lv_at hl 4 rfl) ?_
                                    refine va_get (D := (dC, dI)) (ci := 6) (v := .ref (ma 24)) (C := RX6) (T := TX6) (N := 44) hx hb hts kt_X6 hown hK hP 0 rfl rfl 24 (by decide) (kx_word hG kq_05_morder_4 rfl) (fun _ h9 => h9) rfl dX6_step_282 ?_
                                    refine lv_iload_n hx hb dX6_step_285 rfl (lv_at hl 5 rfl) ?_
                                    refine lv_iload hx hb dX6_step_286 (lv_at hl 0 rfl) ?_
                                    refine lv_iload_n hx hb dX6_step_288 rfl (lv_at hl 3 rfl) ?_
                                    refine ki_isub hx hb dX6_step_289 ?_
                                    refine ki_iast (F := upI (F 24) sd 0) hx hb hK hP hD hS 19 18 rfl rfl (by omega) (by omega) (by decide) dX6_step_290 (fun H locs hP hD hS => ?_)
                                    have hP : va_P (dC, dI) kxCl (mW mo ma cs I (va_up (va_up (va_up (va_up (va_up (va_up (va_up (va_up F 20 (upI (F 20) sd pa)) 22 (upI (F 22) sd (-1))) 23 (upI (F 23) sd 0)) 24 (upI (F 24) sd 0)) 21 (upI (F 21) sd (vp_nar .boolean (iz 1)).toInt)) 22 (upI (upI (F 22) sd (-1)) sd 1)) 23 (upI (upI (F 23) sd 0) sd ((20 * p0) + pz))) 24 (upI (upI (F 24) sd 0) sd (en - pz)))) H := hP
                                    have hD : va_D A (mW mo ma cs I (va_up (va_up (va_up (va_up (va_up (va_up (va_up (va_up F 20 (upI (F 20) sd pa)) 22 (upI (F 22) sd (-1))) 23 (upI (F 23) sd 0)) 24 (upI (F 24) sd 0)) 21 (upI (F 21) sd (vp_nar .boolean (iz 1)).toInt)) 22 (upI (upI (F 22) sd (-1)) sd 1)) 23 (upI (upI (F 23) sd 0) sd ((20 * p0) + pz))) 24 (upI (upI (F 24) sd 0) sd (en - pz)))) := hD
                                    refine lv_aload_n hx hb dX6_step_291 rfl (lv_at hl 4 rfl) ?_
                                    refine va_get (D := (dC, dI)) (ci := 6) (v := .ref (ma 20)) (C := RX6) (T := TX6) (N := 44) hx hb hts kt_X6 hown hK hP 0 rfl rfl 20 (by decide) (kx_word hG kq_05_morder_0 rfl) (fun _ h9 => h9) rfl dX6_step_292 ?_
                                    refine lv_iload_n hx hb dX6_step_295 rfl (lv_at hl 5 rfl) ?_
                                    refine lv_iload hx hb dX6_step_296 (lv_at hl 0 rfl) ?_
                                    refine ki_iast (F := upI (F 20) sd pa) hx hb hK hP hD hS 15 14 rfl rfl (by omega) (by omega) (by decide) dX6_step_298 (fun H locs hP hD hS => ?_)
                                    have hP : va_P (dC, dI) kxCl (mW mo ma cs I (va_up (va_up (va_up (va_up (va_up (va_up (va_up (va_up (va_up F 20 (upI (F 20) sd pa)) 22 (upI (F 22) sd (-1))) 23 (upI (F 23) sd 0)) 24 (upI (F 24) sd 0)) 21 (upI (F 21) sd (vp_nar .boolean (iz 1)).toInt)) 22 (upI (upI (F 22) sd (-1)) sd 1)) 23 (upI (upI (F 23) sd 0) sd ((20 * p0) + pz))) 24 (upI (upI (F 24) sd 0) sd (en - pz))) 20 (upI (upI (F 20) sd pa) sd en))) H := hP
                                    have hD : va_D A (mW mo ma cs I (va_up (va_up (va_up (va_up (va_up (va_up (va_up (va_up (va_up F 20 (upI (F 20) sd pa)) 22 (upI (F 22) sd (-1))) 23 (upI (F 23) sd 0)) 24 (upI (F 24) sd 0)) 21 (upI (F 21) sd (vp_nar .boolean (iz 1)).toInt)) 22 (upI (upI (F 22) sd (-1)) sd 1)) 23 (upI (upI (F 23) sd 0) sd ((20 * p0) + pz))) 24 (upI (upI (F 24) sd 0) sd (en - pz))) 20 (upI (upI (F 20) sd pa) sd en))) := hD
                                    have ev20 : (va_up (va_up (va_up (va_up (va_up (va_up (va_up (va_up (va_up F 20 (upI (F 20) sd pa)) 22 (upI (F 22) sd (-1))) 23 (upI (F 23) sd 0)) 24 (upI (F 24) sd 0)) 21 (upI (F 21) sd (vp_nar .boolean (iz 1)).toInt)) 22 (upI (upI (F 22) sd (-1)) sd 1)) 23 (upI (upI (F 23) sd 0) sd ((20 * p0) + pz))) 24 (upI (upI (F 24) sd 0) sd (en - pz))) 20 (upI (upI (F 20) sd pa) sd en)) 20 sd = en := upI_self _ _ _
                                    have ev21 : (va_up (va_up (va_up (va_up (va_up (va_up (va_up (va_up (va_up F 20 (upI (F 20) sd pa)) 22 (upI (F 22) sd (-1))) 23 (upI (F 23) sd 0)) 24 (upI (F 24) sd 0)) 21 (upI (F 21) sd (vp_nar .boolean (iz 1)).toInt)) 22 (upI (upI (F 22) sd (-1)) sd 1)) 23 (upI (upI (F 23) sd 0) sd ((20 * p0) + pz))) 24 (upI (upI (F 24) sd 0) sd (en - pz))) 20 (upI (upI (F 20) sd pa) sd en)) 21 sd = (vp_nar .boolean (iz 1)).toInt := upI_self _ _ _
                                    have ev22 : (va_up (va_up (va_up (va_up (va_up (va_up (va_up (va_up (va_up F 20 (upI (F 20) sd pa)) 22 (upI (F 22) sd (-1))) 23 (upI (F 23) sd 0)) 24 (upI (F 24) sd 0)) 21 (upI (F 21) sd (vp_nar .boolean (iz 1)).toInt)) 22 (upI (upI (F 22) sd (-1)) sd 1)) 23 (upI (upI (F 23) sd 0) sd ((20 * p0) + pz))) 24 (upI (upI (F 24) sd 0) sd (en - pz))) 20 (upI (upI (F 20) sd pa) sd en)) 22 sd = 1 := upI_self _ _ _
                                    have ev23 : (va_up (va_up (va_up (va_up (va_up (va_up (va_up (va_up (va_up F 20 (upI (F 20) sd pa)) 22 (upI (F 22) sd (-1))) 23 (upI (F 23) sd 0)) 24 (upI (F 24) sd 0)) 21 (upI (F 21) sd (vp_nar .boolean (iz 1)).toInt)) 22 (upI (upI (F 22) sd (-1)) sd 1)) 23 (upI (upI (F 23) sd 0) sd ((20 * p0) + pz))) 24 (upI (upI (F 24) sd 0) sd (en - pz))) 20 (upI (upI (F 20) sd pa) sd en)) 23 sd = ((20 * p0) + pz) := upI_self _ _ _
                                    have ev24 : (va_up (va_up (va_up (va_up (va_up (va_up (va_up (va_up (va_up F 20 (upI (F 20) sd pa)) 22 (upI (F 22) sd (-1))) 23 (upI (F 23) sd 0)) 24 (upI (F 24) sd 0)) 21 (upI (F 21) sd (vp_nar .boolean (iz 1)).toInt)) 22 (upI (upI (F 22) sd (-1)) sd 1)) 23 (upI (upI (F 23) sd 0) sd ((20 * p0) + pz))) 24 (upI (upI (F 24) sd 0) sd (en - pz))) 20 (upI (upI (F 20) sd pa) sd en)) 24 sd = (en - pz) := upI_self _ _ _
                                    have ezn0 : (vp_nar .boolean (iz 1)).toInt = 1 := by decide
                                    have e_194 : (va_up (va_up (va_up (va_up (va_up (va_up (va_up (va_up (va_up F 20 (upI (F 20) sd pa)) 22 (upI (F 22) sd (-1))) 23 (upI (F 23) sd 0)) 24 (upI (F 24) sd 0)) 21 (upI (F 21) sd (vp_nar .boolean (iz 1)).toInt)) 22 (upI (upI (F 22) sd (-1)) sd 1)) 23 (upI (upI (F 23) sd 0) sd ((20 * p0) + pz))) 24 (upI (upI (F 24) sd 0) sd (en - pz))) 20 (upI (upI (F 20) sd pa) sd en)) 20 sd = en := upI_self _ _ _
                                    have e_195 : (va_up (va_up (va_up (va_up (va_up (va_up (va_up (va_up (va_up F 20 (upI (F 20) sd pa)) 22 (upI (F 22) sd (-1))) 23 (upI (F 23) sd 0)) 24 (upI (F 24) sd 0)) 21 (upI (F 21) sd (vp_nar .boolean (iz 1)).toInt)) 22 (upI (upI (F 22) sd (-1)) sd 1)) 23 (upI (upI (F 23) sd 0) sd ((20 * p0) + pz))) 24 (upI (upI (F 24) sd 0) sd (en - pz))) 20 (upI (upI (F 20) sd pa) sd en)) 22 sd = 1 := upI_self _ _ _
                                    have e_196 : (va_up (va_up (va_up (va_up (va_up (va_up (va_up (va_up (va_up F 20 (upI (F 20) sd pa)) 22 (upI (F 22) sd (-1))) 23 (upI (F 23) sd 0)) 24 (upI (F 24) sd 0)) 21 (upI (F 21) sd (vp_nar .boolean (iz 1)).toInt)) 22 (upI (upI (F 22) sd (-1)) sd 1)) 23 (upI (upI (F 23) sd 0) sd ((20 * p0) + pz))) 24 (upI (upI (F 24) sd 0) sd (en - pz))) 20 (upI (upI (F 20) sd pa) sd en)) 23 sd = (20 * p0) + pz := upI_self _ _ _
                                    have e_197 : (va_up (va_up (va_up (va_up (va_up (va_up (va_up (va_up (va_up F 20 (upI (F 20) sd pa)) 22 (upI (F 22) sd (-1))) 23 (upI (F 23) sd 0)) 24 (upI (F 24) sd 0)) 21 (upI (F 21) sd (vp_nar .boolean (iz 1)).toInt)) 22 (upI (upI (F 22) sd (-1)) sd 1)) 23 (upI (upI (F 23) sd 0) sd ((20 * p0) + pz))) 24 (upI (upI (F 24) sd 0) sd (en - pz))) 20 (upI (upI (F 20) sd pa) sd en)) 24 sd = en - pz := upI_self _ _ _
                                    have e_198 : (va_up (va_up (va_up (va_up (va_up (va_up (va_up (va_up (va_up F 20 (upI (F 20) sd pa)) 22 (upI (F 22) sd (-1))) 23 (upI (F 23) sd 0)) 24 (upI (F 24) sd 0)) 21 (upI (F 21) sd (vp_nar .boolean (iz 1)).toInt)) 22 (upI (upI (F 22) sd (-1)) sd 1)) 23 (upI (upI (F 23) sd 0) sd ((20 * p0) + pz))) 24 (upI (upI (F 24) sd 0) sd (en - pz))) 20 (upI (upI (F 20) sd pa) sd en)) 21 sd = (vp_nar .boolean (iz 1)).toInt := upI_self _ _ _
                                    rw [← hQe]
                                    exact mk_ret hx hb hr hlocks hP hD hK hS dX6_step_299 (⟨rfl, (mB_f (mB_f (mB_f (mB_f (mB_f (mB_f (mB_f (mB_f (mB_f hB 20 sd (by omega) (by omega)) 22 sd (by omega) (by omega)) 23 sd (by omega) (by omega)) 24 sd (by omega) (by omega)) 21 sd (iz_lo _) (iz_hi _)) 22 sd (by omega) (by omega)) 23 sd (by omega) (by omega)) 24 sd (by omega) (by omega)) 20 sd (by omega) (by omega)), (mfr.upF (mfr.upF (mfr.upF (mfr.upF (mfr.upF (mfr.upF (mfr.upF (mfr.upF (mfr.upF mfr.rf (by decide) _) (by decide) _) (by decide) _) (by decide) _) (by decide) _) (by decide) _) (by decide) _) (by decide) _) (by decide) _), (mo1.up (mo1.up (mo1.up (mo1.up (mo1.up (mo1.up (mo1.up (mo1.up (mo1.up mo1.rf 20 _) 22 _) 23 _) 24 _) 21 _) 22 _) 23 _) 24 _) 20 _), by omega, by omega, by omega, by rw [ev22, ev23, ev24]; exact Or.inr (Or.inr (Or.inl ⟨rfl, by omega, by omega⟩)), by rw [ev21]; exact Or.inr ezn0, by omega, by rw [ev20]; exact hboE, by rw [ev22, ev23, ev24, ev20, ev21, ezn0, kf_eu_num (f := kf_sg F p0) (fun i => rfl) hkzE]; exact hnum⟩)
                                  · skip
                                    refine lv_aload_n hx hb dX6_step_240 rfl (lv_at hl 4 rfl) ?_
                                    refine va_get (D := (dC, dI)) (ci := 6) (v := .ref (ma 4)) (C := RX6) (T := TX6) (N := 44) hx hb hts kt_X6 hown hK hP 0 rfl rfl 4 (by decide) (kx_word hG kq_04_msmall_16 rfl) (fun _ h9 => h9) rfl dX6_step_241 ?_
                                    refine lv_bipush (v := iz 20) hx hb dX6_step_244 (by decide) ?_
                                    refine lv_iload_n hx hb dX6_step_246 rfl (lv_at hl 6 rfl) ?_
                                    refine ki_imul hx hb dX6_step_247 ?_
                                    refine lv_iload_n hx hb dX6_step_248 rfl (lv_at hl 3 rfl) ?_
                                    refine ki_iadd hx hb dX6_step_249 ?_
                                    refine ki_iald (F := F 4) hx hb hK hP 3 2 rfl rfl (by omega) (by omega) (by decide) dX6_step_250 ?_
                                    have hbd_199 := hB.2 4 ((20 * p0) + pz)
                                    refine ki_is (show iz (F 4 ((20 * p0) + pz)) = iz (kf_sg F p0 pz) from rfl) ?_
                                    have hsk_200 := hsg pz (by omega) (by omega)
                                    refine lv_bipush (v := iz 48) hx hb dX6_step_251 (by decide) ?_
                                    refine ki_icmp_ne (tgt := 262) hx hb dX6_step_253 (by decide) (by omega) (by omega) (by omega) (by omega) (fun c_201 => ?_) (fun c_201 => ?_)
                                    · skip
                                      have hkzE : kf_kz (kf_sg F p0) en (en - pa).toNat pa = pz := hkz.trans (kf_kz_stop (by omega))
                                      refine lv_aload_n hx hb dX6_step_262 rfl (lv_at hl 4 rfl) ?_
                                      refine va_get (D := (dC, dI)) (ci := 6) (v := .ref (ma 22)) (C := RX6) (T := TX6) (N := 44) hx hb hts kt_X6 hown hK hP 0 rfl rfl 22 (by decide) (kx_word hG kq_05_morder_2 rfl) (fun _ h9 => h9) rfl dX6_step_263 ?_
                                      refine lv_iload_n hx hb dX6_step_266 rfl (lv_at hl 5 rfl) ?_
                                      refine lv_iconst (v := iz 1) hx hb dX6_step_267 (by decide) ?_
                                      refine ki_iast (F := upI (F 22) sd (-1)) hx hb hK hP hD hS 17 16 rfl rfl (by omega) (by omega) (by decide) dX6_step_268 (fun H locs hP hD hS => ?_)
                                      have hP : va_P (dC, dI) kxCl (mW mo ma cs I (va_up (va_up (va_up (va_up (va_up (va_up F 20 (upI (F 20) sd pa)) 22 (upI (F 22) sd (-1))) 23 (upI (F 23) sd 0)) 24 (upI (F 24) sd 0)) 21 (upI (F 21) sd (vp_nar .boolean (iz 1)).toInt)) 22 (upI (upI (F 22) sd (-1)) sd 1))) H := hP
                                      have hD : va_D A (mW mo ma cs I (va_up (va_up (va_up (va_up (va_up (va_up F 20 (upI (F 20) sd pa)) 22 (upI (F 22) sd (-1))) 23 (upI (F 23) sd 0)) 24 (upI (F 24) sd 0)) 21 (upI (F 21) sd (vp_nar .boolean (iz 1)).toInt)) 22 (upI (upI (F 22) sd (-1)) sd 1))) := hD
                                      refine lv_aload_n hx hb dX6_step_269 rfl (lv_at hl 4 rfl) ?_
                                      refine va_get (D := (dC, dI)) (ci := 6) (v := .ref (ma 23)) (C := RX6) (T := TX6) (N := 44) hx hb hts kt_X6 hown hK hP 0 rfl rfl 23 (by decide) (kx_word hG kq_05_morder_3 rfl) (fun _ h9 => h9) rfl dX6_step_270 ?_
                                      refine lv_iload_n hx hb dX6_step_273 rfl (lv_at hl 5 rfl) ?_
                                      refine lv_bipush (v := iz 20) hx hb dX6_step_274 (by decide) ?_
                                      refine lv_iload_n hx hb dX6_step_276 rfl (lv_at hl 6 rfl) ?_
                                      refine ki_imul hx hb dX6_step_277 ?_
                                      refine lv_iload_n hx hb dX6_step_278 rfl (lv_at hl 3 rfl) ?_
                                      refine ki_iadd hx hb dX6_step_279 ?_
                                      refine ki_iast (F := upI (F 23) sd 0) hx hb hK hP hD hS 18 17 rfl rfl (by omega) (by omega) (by decide) dX6_step_280 (fun H locs hP hD hS => ?_)
                                      have hP : va_P (dC, dI) kxCl (mW mo ma cs I (va_up (va_up (va_up (va_up (va_up (va_up (va_up F 20 (upI (F 20) sd pa)) 22 (upI (F 22) sd (-1))) 23 (upI (F 23) sd 0)) 24 (upI (F 24) sd 0)) 21 (upI (F 21) sd (vp_nar .boolean (iz 1)).toInt)) 22 (upI (upI (F 22) sd (-1)) sd 1)) 23 (upI (upI (F 23) sd 0) sd ((20 * p0) + pz)))) H := hP
                                      have hD : va_D A (mW mo ma cs I (va_up (va_up (va_up (va_up (va_up (va_up (va_up F 20 (upI (F 20) sd pa)) 22 (upI (F 22) sd (-1))) 23 (upI (F 23) sd 0)) 24 (upI (F 24) sd 0)) 21 (upI (F 21) sd (vp_nar .boolean (iz 1)).toInt)) 22 (upI (upI (F 22) sd (-1)) sd 1)) 23 (upI (upI (F 23) sd 0) sd ((20 * p0) + pz)))) := hD
                                      refine lv_aload_n hx hb dX6_step_281 rfl (lv_at hl 4 rfl) ?_
                                      refine va_get (D := (dC, dI)) (ci := 6) (v := .ref (ma 24)) (C := RX6) (T := TX6) (N := 44) hx hb hts kt_X6 hown hK hP 0 rfl rfl 24 (by decide) (kx_word hG kq_05_morder_4 rfl) (fun _ h9 => h9) rfl dX6_step_282 ?_
                                      refine lv_iload_n hx hb dX6_step_285 rfl (lv_at hl 5 rfl) ?_
                                      refine lv_iload hx hb dX6_step_286 (lv_at hl 0 rfl) ?_
                                      refine lv_iload_n hx hb dX6_step_288 rfl (lv_at hl 3 rfl) ?_
                                      refine ki_isub hx hb dX6_step_289 ?_
                                      refine ki_iast (F := upI (F 24) sd 0) hx hb hK hP hD hS 19 18 rfl rfl (by omega) (by omega) (by decide) dX6_step_290 (fun H locs hP hD hS => ?_)
                                      have hP : va_P (dC, dI) kxCl (mW mo ma cs I (va_up (va_up (va_up (va_up (va_up (va_up (va_up (va_up F 20 (upI (F 20) sd pa)) 22 (upI (F 22) sd (-1))) 23 (upI (F 23) sd 0)) 24 (upI (F 24) sd 0)) 21 (upI (F 21) sd (vp_nar .boolean (iz 1)).toInt)) 22 (upI (upI (F 22) sd (-1)) sd 1)) 23 (upI (upI (F 23) sd 0) sd ((20 * p0) + pz))) 24 (upI (upI (F 24) sd 0) sd (en - pz)))) H := hP
                                      have hD : va_D A (mW mo ma cs I (va_up (va_up (va_up (va_up (va_up (va_up (va_up (va_up F 20 (upI (F 20) sd pa)) 22 (upI (F 22) sd (-1))) 23 (upI (F 23) sd 0)) 24 (upI (F 24) sd 0)) 21 (upI (F 21) sd (vp_nar .boolean (iz 1)).toInt)) 22 (upI (upI (F 22) sd (-1)) sd 1)) 23 (upI (upI (F 23) sd 0) sd ((20 * p0) + pz))) 24 (upI (upI (F 24) sd 0) sd (en - pz)))) := hD
                                      refine lv_aload_n hx hb dX6_step_291 rfl (lv_at hl 4 rfl) ?_
                                      refine va_get (D := (dC, dI)) (ci := 6) (v := .ref (ma 20)) (C := RX6) (T := TX6) (N := 44) hx hb hts kt_X6 hown hK hP 0 rfl rfl 20 (by decide) (kx_word hG kq_05_morder_0 rfl) (fun _ h9 => h9) rfl dX6_step_292 ?_
                                      refine lv_iload_n hx hb dX6_step_295 rfl (lv_at hl 5 rfl) ?_
                                      refine lv_iload hx hb dX6_step_296 (lv_at hl 0 rfl) ?_
                                      refine ki_iast (F := upI (F 20) sd pa) hx hb hK hP hD hS 15 14 rfl rfl (by omega) (by omega) (by decide) dX6_step_298 (fun H locs hP hD hS => ?_)
                                      have hP : va_P (dC, dI) kxCl (mW mo ma cs I (va_up (va_up (va_up (va_up (va_up (va_up (va_up (va_up (va_up F 20 (upI (F 20) sd pa)) 22 (upI (F 22) sd (-1))) 23 (upI (F 23) sd 0)) 24 (upI (F 24) sd 0)) 21 (upI (F 21) sd (vp_nar .boolean (iz 1)).toInt)) 22 (upI (upI (F 22) sd (-1)) sd 1)) 23 (upI (upI (F 23) sd 0) sd ((20 * p0) + pz))) 24 (upI (upI (F 24) sd 0) sd (en - pz))) 20 (upI (upI (F 20) sd pa) sd en))) H := hP
                                      have hD : va_D A (mW mo ma cs I (va_up (va_up (va_up (va_up (va_up (va_up (va_up (va_up (va_up F 20 (upI (F 20) sd pa)) 22 (upI (F 22) sd (-1))) 23 (upI (F 23) sd 0)) 24 (upI (F 24) sd 0)) 21 (upI (F 21) sd (vp_nar .boolean (iz 1)).toInt)) 22 (upI (upI (F 22) sd (-1)) sd 1)) 23 (upI (upI (F 23) sd 0) sd ((20 * p0) + pz))) 24 (upI (upI (F 24) sd 0) sd (en - pz))) 20 (upI (upI (F 20) sd pa) sd en))) := hD
                                      have ev20 : (va_up (va_up (va_up (va_up (va_up (va_up (va_up (va_up (va_up F 20 (upI (F 20) sd pa)) 22 (upI (F 22) sd (-1))) 23 (upI (F 23) sd 0)) 24 (upI (F 24) sd 0)) 21 (upI (F 21) sd (vp_nar .boolean (iz 1)).toInt)) 22 (upI (upI (F 22) sd (-1)) sd 1)) 23 (upI (upI (F 23) sd 0) sd ((20 * p0) + pz))) 24 (upI (upI (F 24) sd 0) sd (en - pz))) 20 (upI (upI (F 20) sd pa) sd en)) 20 sd = en := upI_self _ _ _
                                      have ev21 : (va_up (va_up (va_up (va_up (va_up (va_up (va_up (va_up (va_up F 20 (upI (F 20) sd pa)) 22 (upI (F 22) sd (-1))) 23 (upI (F 23) sd 0)) 24 (upI (F 24) sd 0)) 21 (upI (F 21) sd (vp_nar .boolean (iz 1)).toInt)) 22 (upI (upI (F 22) sd (-1)) sd 1)) 23 (upI (upI (F 23) sd 0) sd ((20 * p0) + pz))) 24 (upI (upI (F 24) sd 0) sd (en - pz))) 20 (upI (upI (F 20) sd pa) sd en)) 21 sd = (vp_nar .boolean (iz 1)).toInt := upI_self _ _ _
                                      have ev22 : (va_up (va_up (va_up (va_up (va_up (va_up (va_up (va_up (va_up F 20 (upI (F 20) sd pa)) 22 (upI (F 22) sd (-1))) 23 (upI (F 23) sd 0)) 24 (upI (F 24) sd 0)) 21 (upI (F 21) sd (vp_nar .boolean (iz 1)).toInt)) 22 (upI (upI (F 22) sd (-1)) sd 1)) 23 (upI (upI (F 23) sd 0) sd ((20 * p0) + pz))) 24 (upI (upI (F 24) sd 0) sd (en - pz))) 20 (upI (upI (F 20) sd pa) sd en)) 22 sd = 1 := upI_self _ _ _
                                      have ev23 : (va_up (va_up (va_up (va_up (va_up (va_up (va_up (va_up (va_up F 20 (upI (F 20) sd pa)) 22 (upI (F 22) sd (-1))) 23 (upI (F 23) sd 0)) 24 (upI (F 24) sd 0)) 21 (upI (F 21) sd (vp_nar .boolean (iz 1)).toInt)) 22 (upI (upI (F 22) sd (-1)) sd 1)) 23 (upI (upI (F 23) sd 0) sd ((20 * p0) + pz))) 24 (upI (upI (F 24) sd 0) sd (en - pz))) 20 (upI (upI (F 20) sd pa) sd en)) 23 sd = ((20 * p0) + pz) := upI_self _ _ _
                                      have ev24 : (va_up (va_up (va_up (va_up (va_up (va_up (va_up (va_up (va_up F 20 (upI (F 20) sd pa)) 22 (upI (F 22) sd (-1))) 23 (upI (F 23) sd 0)) 24 (upI (F 24) sd 0)) 21 (upI (F 21) sd (vp_nar .boolean (iz 1)).toInt)) 22 (upI (upI (F 22) sd (-1)) sd 1)) 23 (upI (upI (F 23) sd 0) sd ((20 * p0) + pz))) 24 (upI (upI (F 24) sd 0) sd (en - pz))) 20 (upI (upI (F 20) sd pa) sd en)) 24 sd = (en - pz) := upI_self _ _ _
                                      have ezn0 : (vp_nar .boolean (iz 1)).toInt = 1 := by decide
                                      have e_202 : (va_up (va_up (va_up (va_up (va_up (va_up (va_up (va_up (va_up F 20 (upI (F 20) sd pa)) 22 (upI (F 22) sd (-1))) 23 (upI (F 23) sd 0)) 24 (upI (F 24) sd 0)) 21 (upI (F 21) sd (vp_nar .boolean (iz 1)).toInt)) 22 (upI (upI (F 22) sd (-1)) sd 1)) 23 (upI (upI (F 23) sd 0) sd ((20 * p0) + pz))) 24 (upI (upI (F 24) sd 0) sd (en - pz))) 20 (upI (upI (F 20) sd pa) sd en)) 20 sd = en := upI_self _ _ _
                                      have e_203 : (va_up (va_up (va_up (va_up (va_up (va_up (va_up (va_up (va_up F 20 (upI (F 20) sd pa)) 22 (upI (F 22) sd (-1))) 23 (upI (F 23) sd 0)) 24 (upI (F 24) sd 0)) 21 (upI (F 21) sd (vp_nar .boolean (iz 1)).toInt)) 22 (upI (upI (F 22) sd (-1)) sd 1)) 23 (upI (upI (F 23) sd 0) sd ((20 * p0) + pz))) 24 (upI (upI (F 24) sd 0) sd (en - pz))) 20 (upI (upI (F 20) sd pa) sd en)) 22 sd = 1 := upI_self _ _ _
                                      have e_204 : (va_up (va_up (va_up (va_up (va_up (va_up (va_up (va_up (va_up F 20 (upI (F 20) sd pa)) 22 (upI (F 22) sd (-1))) 23 (upI (F 23) sd 0)) 24 (upI (F 24) sd 0)) 21 (upI (F 21) sd (vp_nar .boolean (iz 1)).toInt)) 22 (upI (upI (F 22) sd (-1)) sd 1)) 23 (upI (upI (F 23) sd 0) sd ((20 * p0) + pz))) 24 (upI (upI (F 24) sd 0) sd (en - pz))) 20 (upI (upI (F 20) sd pa) sd en)) 23 sd = (20 * p0) + pz := upI_self _ _ _
                                      have e_205 : (va_up (va_up (va_up (va_up (va_up (va_up (va_up (va_up (va_up F 20 (upI (F 20) sd pa)) 22 (upI (F 22) sd (-1))) 23 (upI (F 23) sd 0)) 24 (upI (F 24) sd 0)) 21 (upI (F 21) sd (vp_nar .boolean (iz 1)).toInt)) 22 (upI (upI (F 22) sd (-1)) sd 1)) 23 (upI (upI (F 23) sd 0) sd ((20 * p0) + pz))) 24 (upI (upI (F 24) sd 0) sd (en - pz))) 20 (upI (upI (F 20) sd pa) sd en)) 24 sd = en - pz := upI_self _ _ _
                                      have e_206 : (va_up (va_up (va_up (va_up (va_up (va_up (va_up (va_up (va_up F 20 (upI (F 20) sd pa)) 22 (upI (F 22) sd (-1))) 23 (upI (F 23) sd 0)) 24 (upI (F 24) sd 0)) 21 (upI (F 21) sd (vp_nar .boolean (iz 1)).toInt)) 22 (upI (upI (F 22) sd (-1)) sd 1)) 23 (upI (upI (F 23) sd 0) sd ((20 * p0) + pz))) 24 (upI (upI (F 24) sd 0) sd (en - pz))) 20 (upI (upI (F 20) sd pa) sd en)) 21 sd = (vp_nar .boolean (iz 1)).toInt := upI_self _ _ _
                                      rw [← hQe]
                                      exact mk_ret hx hb hr hlocks hP hD hK hS dX6_step_299 (⟨rfl, (mB_f (mB_f (mB_f (mB_f (mB_f (mB_f (mB_f (mB_f (mB_f hB 20 sd (by omega) (by omega)) 22 sd (by omega) (by omega)) 23 sd (by omega) (by omega)) 24 sd (by omega) (by omega)) 21 sd (iz_lo _) (iz_hi _)) 22 sd (by omega) (by omega)) 23 sd (by omega) (by omega)) 24 sd (by omega) (by omega)) 20 sd (by omega) (by omega)), (mfr.upF (mfr.upF (mfr.upF (mfr.upF (mfr.upF (mfr.upF (mfr.upF (mfr.upF (mfr.upF mfr.rf (by decide) _) (by decide) _) (by decide) _) (by decide) _) (by decide) _) (by decide) _) (by decide) _) (by decide) _) (by decide) _), (mo1.up (mo1.up (mo1.up (mo1.up (mo1.up (mo1.up (mo1.up (mo1.up (mo1.up mo1.rf 20 _) 22 _) 23 _) 24 _) 21 _) 22 _) 23 _) 24 _) 20 _), by omega, by omega, by omega, by rw [ev22, ev23, ev24]; exact Or.inr (Or.inr (Or.inl ⟨rfl, by omega, by omega⟩)), by rw [ev21]; exact Or.inr ezn0, by omega, by rw [ev20]; exact hboE, by rw [ev22, ev23, ev24, ev20, ev21, ezn0, kf_eu_num (f := kf_sg F p0) (fun i => rfl) hkzE]; exact hnum⟩)
                                    · skip
                                      refine lv_iinc (v := iz (pz + 1)) (lv' := [(3, .int (iz (pz + 1))), (6, .int (iz en)), (5, .int (iz (kf_sg F p0 pa))), (4, .int (iz ps)), (0, .ref mo), (1, .int (iz sd)), (2, .int (iz p0))]) hx hb dX6_step_256 hl (k := 3) rfl (iz_add pz 1) (by decide) rfl (fun ls hl => ?_)
                                      refine lv_goto (tgt := 234) hx hb dX6_step_259 (by decide) ?_
                                      exact ih234 (pz + 1) ⟨by omega, hkz.trans (kf_kz_step (by omega) (by omega))⟩ (by omega) _ _ hP hD hS ls (lv_sub hl [1, 2, 3, 0, 4, 5, 6] rfl)
                              exact lp234 _ pa ⟨by omega, rfl⟩ (Nat.lt_succ_self _) _ _ hP hD hS ls (lv_sub hl [0, 1, 2, 3, 4, 5, 6] rfl)
                            · skip
                              refine lv_iload hx hb dX6_step_199 (lv_at hl 0 rfl) ?_
                              refine lv_aload_n hx hb dX6_step_201 rfl (lv_at hl 4 rfl) ?_
                              refine va_get (D := (dC, dI)) (ci := 6) (v := .ref (ma 5)) (C := RX6) (T := TX6) (N := 44) hx hb hts kt_X6 hown hK hP 0 rfl rfl 5 (by decide) (kx_word hG kq_04_msmall_15 rfl) (fun _ h9 => h9) rfl dX6_step_202 ?_
                              refine lv_iload_n hx hb dX6_step_205 rfl (lv_at hl 6 rfl) ?_
                              refine ki_iald (F := F 5) hx hb hK hP 4 3 rfl rfl (by omega) (by omega) (by decide) dX6_step_206 ?_
                              refine ki_icmp_ge (tgt := 234) hx hb dX6_step_207 (by decide) (by omega) (by omega) (by omega) (by omega) (fun c_207 => ?_) (fun c_207 => ?_)
                              · skip
                                have hkeE : ¬ I 14 = 0 → kf_ke (kf_sg F p0) (F 5 p0) (F 5 p0 - pa).toNat pa = en := fun h9 => (hke h9).trans (kf_ke_stop (by omega))
                                have hen1 : I 14 = 0 → en = pa + 1 := fun h9 => by rcases hen0 with h8 | h8; exact h8; exact absurd h9 h8
                                have hnum : kf_kI (kf_sg F p0) (F 5 p0) (I 14) (I 15) (F 20 sd) 0 (F 21 sd) = kf_kn (kf_sg F p0) pa en ++ kf_kI (kf_sg F p0) (F 5 p0) (I 14) (I 15) en 0 1 := by by_cases h9 : I 14 = 0; rw [hen1 h9]; exact hK0.trans (kf_kI_one (kf_sg F p0) (F 5 p0) (I 14) (I 15) pa 0 (F 21 sd) 1 (by omega) hkd h9 rfl (by omega)); have h7 := hK0.trans (kf_kI_whole (kf_sg F p0) (F 5 p0) (I 14) (I 15) pa 0 (F 21 sd) 1 (by omega) (by omega) hkd h9 (hbo2 h9) rfl (by omega)); rw [hkeE h9] at h7; exact h7
                                have hboE : kf_kbo (kf_sg F p0) (F 5 p0) (I 14) en := by by_cases h9 : I 14 = 0; exact Or.inl h9; exact Or.inr (fun h7 => by have h6 := (kf_ke_run (kf_sg F p0) (F 5 p0) (F 5 p0 - pa).toNat pa (by omega) (Nat.le_refl _)).2; rw [hkeE h9] at h6; exact h6 h7.1 h7.2.2.1)
                                have lp234 : ∀ (n : Nat) (pz : Int), ((pa ≤ pz ∧ pz ≤ en) ∧ (kf_kz (kf_sg F p0) en (en - pa).toNat pa = kf_kz (kf_sg F p0) en (en - pz).toNat pz)) → (en - pz).toNat < n → ∀ (H : Heap) (locs : List Loc), va_P (dC, dI) kxCl (mW mo ma cs I (va_up (va_up (va_up (va_up (va_up F 20 (upI (F 20) sd pa)) 22 (upI (F 22) sd (-1))) 23 (upI (F 23) sd 0)) 24 (upI (F 24) sd 0)) 21 (upI (F 21) sd (vp_nar .boolean (iz 1)).toInt))) H → va_D A (mW mo ma cs I (va_up (va_up (va_up (va_up (va_up F 20 (upI (F 20) sd pa)) 22 (upI (F 22) sd (-1))) 23 (upI (F 23) sd 0)) 24 (upI (F 24) sd 0)) 21 (upI (F 21) sd (vp_nar .boolean (iz 1)).toInt))) → va_S A s.heap H locs → ∀ ls : Array Slot, lv_has ls 7 [(6, .int (iz en)), (5, .int (iz (kf_sg F p0 pa))), (4, .int (iz ps)), (3, .int (iz pz)), (0, .ref mo), (1, .int (iz sd)), (2, .int (iz p0))] → W p l e (headSpec [.code yX6_step cX6_step 7 none] ({ frames := 1, cells := 0, slots := 0, locals := 21 })).room s m ([.ref mo, .int (iz sd), .int (iz p0)] : List Value).toArray below meth c H locs 0 0 QQ (F0 m 234 ls []) := by
                                  intro n
                                  induction n with
                                  | zero => intro pz hinv hm; exact absurd hm (Nat.not_lt_zero _)
                                  | succ n ih234 =>
                                    intro pz hinv hm H locs hP hD hS ls hl
                                    obtain ⟨hpz, hkz⟩ := hinv
                                    refine lv_iload_n hx hb dX6_step_234 rfl (lv_at hl 3 rfl) ?_
                                    refine lv_iload hx hb dX6_step_235 (lv_at hl 0 rfl) ?_
                                    refine ki_icmp_ge (tgt := 262) hx hb dX6_step_237 (by decide) (by omega) (by omega) (by omega) (by omega) (fun c_208 => ?_) (fun c_208 => ?_)
                                    · skip
                                      have hkzE : kf_kz (kf_sg F p0) en (en - pa).toNat pa = pz := hkz.trans (kf_kz_stop (by omega))
                                      refine lv_aload_n hx hb dX6_step_262 rfl (lv_at hl 4 rfl) ?_
                                      refine va_get (D := (dC, dI)) (ci := 6) (v := .ref (ma 22)) (C := RX6) (T := TX6) (N := 44) hx hb hts kt_X6 hown hK hP 0 rfl rfl 22 (by decide) (kx_word hG kq_05_morder_2 rfl) (fun _ h9 => h9) rfl dX6_step_263 ?_
                                      refine lv_iload_n hx hb dX6_step_266 rfl (lv_at hl 5 rfl) ?_
                                      refine lv_iconst (v := iz 1) hx hb dX6_step_267 (by decide) ?_
                                      refine ki_iast (F := upI (F 22) sd (-1)) hx hb hK hP hD hS 17 16 rfl rfl (by omega) (by omega) (by decide) dX6_step_268 (fun H locs hP hD hS => ?_)
                                      have hP : va_P (dC, dI) kxCl (mW mo ma cs I (va_up (va_up (va_up (va_up (va_up (va_up F 20 (upI (F 20) sd pa)) 22 (upI (F 22) sd (-1))) 23 (upI (F 23) sd 0)) 24 (upI (F 24) sd 0)) 21 (upI (F 21) sd (vp_nar .boolean (iz 1)).toInt)) 22 (upI (upI (F 22) sd (-1)) sd 1))) H := hP
                                      have hD : va_D A (mW mo ma cs I (va_up (va_up (va_up (va_up (va_up (va_up F 20 (upI (F 20) sd pa)) 22 (upI (F 22) sd (-1))) 23 (upI (F 23) sd 0)) 24 (upI (F 24) sd 0)) 21 (upI (F 21) sd (vp_nar .boolean (iz 1)).toInt)) 22 (upI (upI (F 22) sd (-1)) sd 1))) := hD
                                      refine lv_aload_n hx hb dX6_step_269 rfl (lv_at hl 4 rfl) ?_
                                      refine va_get (D := (dC, dI)) (ci := 6) (v := .ref (ma 23)) (C := RX6) (T := TX6) (N := 44) hx hb hts kt_X6 hown hK hP 0 rfl rfl 23 (by decide) (kx_word hG kq_05_morder_3 rfl) (fun _ h9 => h9) rfl dX6_step_270 ?_
                                      refine lv_iload_n hx hb dX6_step_273 rfl (lv_at hl 5 rfl) ?_
                                      refine lv_bipush (v := iz 20) hx hb dX6_step_274 (by decide) ?_
                                      refine lv_iload_n hx hb dX6_step_276 rfl (lv_at hl 6 rfl) ?_
                                      refine ki_imul hx hb dX6_step_277 ?_
                                      refine lv_iload_n hx hb dX6_step_278 rfl (lv_at hl 3 rfl) ?_
                                      refine ki_iadd hx hb dX6_step_279 ?_
                                      refine ki_iast (F := upI (F 23) sd 0) hx hb hK hP hD hS 18 17 rfl rfl (by omega) (by omega) (by decide) dX6_step_280 (fun H locs hP hD hS => ?_)
                                      have hP : va_P (dC, dI) kxCl (mW mo ma cs I (va_up (va_up (va_up (va_up (va_up (va_up (va_up F 20 (upI (F 20) sd pa)) 22 (upI (F 22) sd (-1))) 23 (upI (F 23) sd 0)) 24 (upI (F 24) sd 0)) 21 (upI (F 21) sd (vp_nar .boolean (iz 1)).toInt)) 22 (upI (upI (F 22) sd (-1)) sd 1)) 23 (upI (upI (F 23) sd 0) sd ((20 * p0) + pz)))) H := hP
                                      have hD : va_D A (mW mo ma cs I (va_up (va_up (va_up (va_up (va_up (va_up (va_up F 20 (upI (F 20) sd pa)) 22 (upI (F 22) sd (-1))) 23 (upI (F 23) sd 0)) 24 (upI (F 24) sd 0)) 21 (upI (F 21) sd (vp_nar .boolean (iz 1)).toInt)) 22 (upI (upI (F 22) sd (-1)) sd 1)) 23 (upI (upI (F 23) sd 0) sd ((20 * p0) + pz)))) := hD
                                      refine lv_aload_n hx hb dX6_step_281 rfl (lv_at hl 4 rfl) ?_
                                      refine va_get (D := (dC, dI)) (ci := 6) (v := .ref (ma 24)) (C := RX6) (T := TX6) (N := 44) hx hb hts kt_X6 hown hK hP 0 rfl rfl 24 (by decide) (kx_word hG kq_05_morder_4 rfl) (fun _ h9 => h9) rfl dX6_step_282 ?_
                                      refine lv_iload_n hx hb dX6_step_285 rfl (lv_at hl 5 rfl) ?_
                                      refine lv_iload hx hb dX6_step_286 (lv_at hl 0 rfl) ?_
                                      refine lv_iload_n hx hb dX6_step_288 rfl (lv_at hl 3 rfl) ?_
                                      refine ki_isub hx hb dX6_step_289 ?_
                                      refine ki_iast (F := upI (F 24) sd 0) hx hb hK hP hD hS 19 18 rfl rfl (by omega) (by omega) (by decide) dX6_step_290 (fun H locs hP hD hS => ?_)
                                      have hP : va_P (dC, dI) kxCl (mW mo ma cs I (va_up (va_up (va_up (va_up (va_up (va_up (va_up (va_up F 20 (upI (F 20) sd pa)) 22 (upI (F 22) sd (-1))) 23 (upI (F 23) sd 0)) 24 (upI (F 24) sd 0)) 21 (upI (F 21) sd (vp_nar .boolean (iz 1)).toInt)) 22 (upI (upI (F 22) sd (-1)) sd 1)) 23 (upI (upI (F 23) sd 0) sd ((20 * p0) + pz))) 24 (upI (upI (F 24) sd 0) sd (en - pz)))) H := hP
                                      have hD : va_D A (mW mo ma cs I (va_up (va_up (va_up (va_up (va_up (va_up (va_up (va_up F 20 (upI (F 20) sd pa)) 22 (upI (F 22) sd (-1))) 23 (upI (F 23) sd 0)) 24 (upI (F 24) sd 0)) 21 (upI (F 21) sd (vp_nar .boolean (iz 1)).toInt)) 22 (upI (upI (F 22) sd (-1)) sd 1)) 23 (upI (upI (F 23) sd 0) sd ((20 * p0) + pz))) 24 (upI (upI (F 24) sd 0) sd (en - pz)))) := hD
                                      refine lv_aload_n hx hb dX6_step_291 rfl (lv_at hl 4 rfl) ?_
                                      refine va_get (D := (dC, dI)) (ci := 6) (v := .ref (ma 20)) (C := RX6) (T := TX6) (N := 44) hx hb hts kt_X6 hown hK hP 0 rfl rfl 20 (by decide) (kx_word hG kq_05_morder_0 rfl) (fun _ h9 => h9) rfl dX6_step_292 ?_
                                      refine lv_iload_n hx hb dX6_step_295 rfl (lv_at hl 5 rfl) ?_
                                      refine lv_iload hx hb dX6_step_296 (lv_at hl 0 rfl) ?_
                                      refine ki_iast (F := upI (F 20) sd pa) hx hb hK hP hD hS 15 14 rfl rfl (by omega) (by omega) (by decide) dX6_step_298 (fun H locs hP hD hS => ?_)
                                      have hP : va_P (dC, dI) kxCl (mW mo ma cs I (va_up (va_up (va_up (va_up (va_up (va_up (va_up (va_up (va_up F 20 (upI (F 20) sd pa)) 22 (upI (F 22) sd (-1))) 23 (upI (F 23) sd 0)) 24 (upI (F 24) sd 0)) 21 (upI (F 21) sd (vp_nar .boolean (iz 1)).toInt)) 22 (upI (upI (F 22) sd (-1)) sd 1)) 23 (upI (upI (F 23) sd 0) sd ((20 * p0) + pz))) 24 (upI (upI (F 24) sd 0) sd (en - pz))) 20 (upI (upI (F 20) sd pa) sd en))) H := hP
                                      have hD : va_D A (mW mo ma cs I (va_up (va_up (va_up (va_up (va_up (va_up (va_up (va_up (va_up F 20 (upI (F 20) sd pa)) 22 (upI (F 22) sd (-1))) 23 (upI (F 23) sd 0)) 24 (upI (F 24) sd 0)) 21 (upI (F 21) sd (vp_nar .boolean (iz 1)).toInt)) 22 (upI (upI (F 22) sd (-1)) sd 1)) 23 (upI (upI (F 23) sd 0) sd ((20 * p0) + pz))) 24 (upI (upI (F 24) sd 0) sd (en - pz))) 20 (upI (upI (F 20) sd pa) sd en))) := hD
                                      have ev20 : (va_up (va_up (va_up (va_up (va_up (va_up (va_up (va_up (va_up F 20 (upI (F 20) sd pa)) 22 (upI (F 22) sd (-1))) 23 (upI (F 23) sd 0)) 24 (upI (F 24) sd 0)) 21 (upI (F 21) sd (vp_nar .boolean (iz 1)).toInt)) 22 (upI (upI (F 22) sd (-1)) sd 1)) 23 (upI (upI (F 23) sd 0) sd ((20 * p0) + pz))) 24 (upI (upI (F 24) sd 0) sd (en - pz))) 20 (upI (upI (F 20) sd pa) sd en)) 20 sd = en := upI_self _ _ _
                                      have ev21 : (va_up (va_up (va_up (va_up (va_up (va_up (va_up (va_up (va_up F 20 (upI (F 20) sd pa)) 22 (upI (F 22) sd (-1))) 23 (upI (F 23) sd 0)) 24 (upI (F 24) sd 0)) 21 (upI (F 21) sd (vp_nar .boolean (iz 1)).toInt)) 22 (upI (upI (F 22) sd (-1)) sd 1)) 23 (upI (upI (F 23) sd 0) sd ((20 * p0) + pz))) 24 (upI (upI (F 24) sd 0) sd (en - pz))) 20 (upI (upI (F 20) sd pa) sd en)) 21 sd = (vp_nar .boolean (iz 1)).toInt := upI_self _ _ _
                                      have ev22 : (va_up (va_up (va_up (va_up (va_up (va_up (va_up (va_up (va_up F 20 (upI (F 20) sd pa)) 22 (upI (F 22) sd (-1))) 23 (upI (F 23) sd 0)) 24 (upI (F 24) sd 0)) 21 (upI (F 21) sd (vp_nar .boolean (iz 1)).toInt)) 22 (upI (upI (F 22) sd (-1)) sd 1)) 23 (upI (upI (F 23) sd 0) sd ((20 * p0) + pz))) 24 (upI (upI (F 24) sd 0) sd (en - pz))) 20 (upI (upI (F 20) sd pa) sd en)) 22 sd = 1 := upI_self _ _ _
                                      have ev23 : (va_up (va_up (va_up (va_up (va_up (va_up (va_up (va_up (va_up F 20 (upI (F 20) sd pa)) 22 (upI (F 22) sd (-1))) 23 (upI (F 23) sd 0)) 24 (upI (F 24) sd 0)) 21 (upI (F 21) sd (vp_nar .boolean (iz 1)).toInt)) 22 (upI (upI (F 22) sd (-1)) sd 1)) 23 (upI (upI (F 23) sd 0) sd ((20 * p0) + pz))) 24 (upI (upI (F 24) sd 0) sd (en - pz))) 20 (upI (upI (F 20) sd pa) sd en)) 23 sd = ((20 * p0) + pz) := upI_self _ _ _
                                      have ev24 : (va_up (va_up (va_up (va_up (va_up (va_up (va_up (va_up (va_up F 20 (upI (F 20) sd pa)) 22 (upI (F 22) sd (-1))) 23 (upI (F 23) sd 0)) 24 (upI (F 24) sd 0)) 21 (upI (F 21) sd (vp_nar .boolean (iz 1)).toInt)) 22 (upI (upI (F 22) sd (-1)) sd 1)) 23 (upI (upI (F 23) sd 0) sd ((20 * p0) + pz))) 24 (upI (upI (F 24) sd 0) sd (en - pz))) 20 (upI (upI (F 20) sd pa) sd en)) 24 sd = (en - pz) := upI_self _ _ _
                                      have ezn0 : (vp_nar .boolean (iz 1)).toInt = 1 := by decide
                                      have e_209 : (va_up (va_up (va_up (va_up (va_up (va_up (va_up (va_up (va_up F 20 (upI (F 20) sd pa)) 22 (upI (F 22) sd (-1))) 23 (upI (F 23) sd 0)) 24 (upI (F 24) sd 0)) 21 (upI (F 21) sd (vp_nar .boolean (iz 1)).toInt)) 22 (upI (upI (F 22) sd (-1)) sd 1)) 23 (upI (upI (F 23) sd 0) sd ((20 * p0) + pz))) 24 (upI (upI (F 24) sd 0) sd (en - pz))) 20 (upI (upI (F 20) sd pa) sd en)) 20 sd = en := upI_self _ _ _
                                      have e_210 : (va_up (va_up (va_up (va_up (va_up (va_up (va_up (va_up (va_up F 20 (upI (F 20) sd pa)) 22 (upI (F 22) sd (-1))) 23 (upI (F 23) sd 0)) 24 (upI (F 24) sd 0)) 21 (upI (F 21) sd (vp_nar .boolean (iz 1)).toInt)) 22 (upI (upI (F 22) sd (-1)) sd 1)) 23 (upI (upI (F 23) sd 0) sd ((20 * p0) + pz))) 24 (upI (upI (F 24) sd 0) sd (en - pz))) 20 (upI (upI (F 20) sd pa) sd en)) 22 sd = 1 := upI_self _ _ _
                                      have e_211 : (va_up (va_up (va_up (va_up (va_up (va_up (va_up (va_up (va_up F 20 (upI (F 20) sd pa)) 22 (upI (F 22) sd (-1))) 23 (upI (F 23) sd 0)) 24 (upI (F 24) sd 0)) 21 (upI (F 21) sd (vp_nar .boolean (iz 1)).toInt)) 22 (upI (upI (F 22) sd (-1)) sd 1)) 23 (upI (upI (F 23) sd 0) sd ((20 * p0) + pz))) 24 (upI (upI (F 24) sd 0) sd (en - pz))) 20 (upI (upI (F 20) sd pa) sd en)) 23 sd = (20 * p0) + pz := upI_self _ _ _
                                      have e_212 : (va_up (va_up (va_up (va_up (va_up (va_up (va_up (va_up (va_up F 20 (upI (F 20) sd pa)) 22 (upI (F 22) sd (-1))) 23 (upI (F 23) sd 0)) 24 (upI (F 24) sd 0)) 21 (upI (F 21) sd (vp_nar .boolean (iz 1)).toInt)) 22 (upI (upI (F 22) sd (-1)) sd 1)) 23 (upI (upI (F 23) sd 0) sd ((20 * p0) + pz))) 24 (upI (upI (F 24) sd 0) sd (en - pz))) 20 (upI (upI (F 20) sd pa) sd en)) 24 sd = en - pz := upI_self _ _ _
                                      have e_213 : (va_up (va_up (va_up (va_up (va_up (va_up (va_up (va_up (va_up F 20 (upI (F 20) sd pa)) 22 (upI (F 22) sd (-1))) 23 (upI (F 23) sd 0)) 24 (upI (F 24) sd 0)) 21 (upI (F 21) sd (vp_nar .boolean (iz 1)).toInt)) 22 (upI (upI (F 22) sd (-1)) sd 1)) 23 (upI (upI (F 23) sd 0) sd ((20 * p0) + pz))) 24 (upI (upI (F 24) sd 0) sd (en - pz))) 20 (upI (upI (F 20) sd pa) sd en)) 21 sd = (vp_nar .boolean (iz 1)).toInt := upI_self _ _ _
                                      rw [← hQe]
                                      exact mk_ret hx hb hr hlocks hP hD hK hS dX6_step_299 (⟨rfl, (mB_f (mB_f (mB_f (mB_f (mB_f (mB_f (mB_f (mB_f (mB_f hB 20 sd (by omega) (by omega)) 22 sd (by omega) (by omega)) 23 sd (by omega) (by omega)) 24 sd (by omega) (by omega)) 21 sd (iz_lo _) (iz_hi _)) 22 sd (by omega) (by omega)) 23 sd (by omega) (by omega)) 24 sd (by omega) (by omega)) 20 sd (by omega) (by omega)), (mfr.upF (mfr.upF (mfr.upF (mfr.upF (mfr.upF (mfr.upF (mfr.upF (mfr.upF (mfr.upF mfr.rf (by decide) _) (by decide) _) (by decide) _) (by decide) _) (by decide) _) (by decide) _) (by decide) _) (by decide) _) (by decide) _), (mo1.up (mo1.up (mo1.up (mo1.up (mo1.up (mo1.up (mo1.up (mo1.up (mo1.up mo1.rf 20 _) 22 _) 23 _) 24 _) 21 _) 22 _) 23 _) 24 _) 20 _), by omega, by omega, by omega, by rw [ev22, ev23, ev24]; exact Or.inr (Or.inr (Or.inl ⟨rfl, by omega, by omega⟩)), by rw [ev21]; exact Or.inr ezn0, by omega, by rw [ev20]; exact hboE, by rw [ev22, ev23, ev24, ev20, ev21, ezn0, kf_eu_num (f := kf_sg F p0) (fun i => rfl) hkzE]; exact hnum⟩)
                                    · skip
                                      refine lv_aload_n hx hb dX6_step_240 rfl (lv_at hl 4 rfl) ?_
                                      refine va_get (D := (dC, dI)) (ci := 6) (v := .ref (ma 4)) (C := RX6) (T := TX6) (N := 44) hx hb hts kt_X6 hown hK hP 0 rfl rfl 4 (by decide) (kx_word hG kq_04_msmall_16 rfl) (fun _ h9 => h9) rfl dX6_step_241 ?_
                                      refine lv_bipush (v := iz 20) hx hb dX6_step_244 (by decide) ?_
                                      refine lv_iload_n hx hb dX6_step_246 rfl (lv_at hl 6 rfl) ?_
                                      refine ki_imul hx hb dX6_step_247 ?_
                                      refine lv_iload_n hx hb dX6_step_248 rfl (lv_at hl 3 rfl) ?_
                                      refine ki_iadd hx hb dX6_step_249 ?_
                                      refine ki_iald (F := F 4) hx hb hK hP 3 2 rfl rfl (by omega) (by omega) (by decide) dX6_step_250 ?_
                                      have hbd_214 := hB.2 4 ((20 * p0) + pz)
                                      refine ki_is (show iz (F 4 ((20 * p0) + pz)) = iz (kf_sg F p0 pz) from rfl) ?_
                                      have hsk_215 := hsg pz (by omega) (by omega)
                                      refine lv_bipush (v := iz 48) hx hb dX6_step_251 (by decide) ?_
                                      refine ki_icmp_ne (tgt := 262) hx hb dX6_step_253 (by decide) (by omega) (by omega) (by omega) (by omega) (fun c_216 => ?_) (fun c_216 => ?_)
                                      · skip
                                        have hkzE : kf_kz (kf_sg F p0) en (en - pa).toNat pa = pz := hkz.trans (kf_kz_stop (by omega))
                                        refine lv_aload_n hx hb dX6_step_262 rfl (lv_at hl 4 rfl) ?_
                                        refine va_get (D := (dC, dI)) (ci := 6) (v := .ref (ma 22)) (C := RX6) (T := TX6) (N := 44) hx hb hts kt_X6 hown hK hP 0 rfl rfl 22 (by decide) (kx_word hG kq_05_morder_2 rfl) (fun _ h9 => h9) rfl dX6_step_263 ?_
                                        refine lv_iload_n hx hb dX6_step_266 rfl (lv_at hl 5 rfl) ?_
                                        refine lv_iconst (v := iz 1) hx hb dX6_step_267 (by decide) ?_
                                        refine ki_iast (F := upI (F 22) sd (-1)) hx hb hK hP hD hS 17 16 rfl rfl (by omega) (by omega) (by decide) dX6_step_268 (fun H locs hP hD hS => ?_)
                                        have hP : va_P (dC, dI) kxCl (mW mo ma cs I (va_up (va_up (va_up (va_up (va_up (va_up F 20 (upI (F 20) sd pa)) 22 (upI (F 22) sd (-1))) 23 (upI (F 23) sd 0)) 24 (upI (F 24) sd 0)) 21 (upI (F 21) sd (vp_nar .boolean (iz 1)).toInt)) 22 (upI (upI (F 22) sd (-1)) sd 1))) H := hP
                                        have hD : va_D A (mW mo ma cs I (va_up (va_up (va_up (va_up (va_up (va_up F 20 (upI (F 20) sd pa)) 22 (upI (F 22) sd (-1))) 23 (upI (F 23) sd 0)) 24 (upI (F 24) sd 0)) 21 (upI (F 21) sd (vp_nar .boolean (iz 1)).toInt)) 22 (upI (upI (F 22) sd (-1)) sd 1))) := hD
                                        refine lv_aload_n hx hb dX6_step_269 rfl (lv_at hl 4 rfl) ?_
                                        refine va_get (D := (dC, dI)) (ci := 6) (v := .ref (ma 23)) (C := RX6) (T := TX6) (N := 44) hx hb hts kt_X6 hown hK hP 0 rfl rfl 23 (by decide) (kx_word hG kq_05_morder_3 rfl) (fun _ h9 => h9) rfl dX6_step_270 ?_
                                        refine lv_iload_n hx hb dX6_step_273 rfl (lv_at hl 5 rfl) ?_
                                        refine lv_bipush (v := iz 20) hx hb dX6_step_274 (by decide) ?_
                                        refine lv_iload_n hx hb dX6_step_276 rfl (lv_at hl 6 rfl) ?_
                                        refine ki_imul hx hb dX6_step_277 ?_
                                        refine lv_iload_n hx hb dX6_step_278 rfl (lv_at hl 3 rfl) ?_
                                        refine ki_iadd hx hb dX6_step_279 ?_
                                        refine ki_iast (F := upI (F 23) sd 0) hx hb hK hP hD hS 18 17 rfl rfl (by omega) (by omega) (by decide) dX6_step_280 (fun H locs hP hD hS => ?_)
                                        have hP : va_P (dC, dI) kxCl (mW mo ma cs I (va_up (va_up (va_up (va_up (va_up (va_up (va_up F 20 (upI (F 20) sd pa)) 22 (upI (F 22) sd (-1))) 23 (upI (F 23) sd 0)) 24 (upI (F 24) sd 0)) 21 (upI (F 21) sd (vp_nar .boolean (iz 1)).toInt)) 22 (upI (upI (F 22) sd (-1)) sd 1)) 23 (upI (upI (F 23) sd 0) sd ((20 * p0) + pz)))) H := hP
                                        have hD : va_D A (mW mo ma cs I (va_up (va_up (va_up (va_up (va_up (va_up (va_up F 20 (upI (F 20) sd pa)) 22 (upI (F 22) sd (-1))) 23 (upI (F 23) sd 0)) 24 (upI (F 24) sd 0)) 21 (upI (F 21) sd (vp_nar .boolean (iz 1)).toInt)) 22 (upI (upI (F 22) sd (-1)) sd 1)) 23 (upI (upI (F 23) sd 0) sd ((20 * p0) + pz)))) := hD
                                        refine lv_aload_n hx hb dX6_step_281 rfl (lv_at hl 4 rfl) ?_
                                        refine va_get (D := (dC, dI)) (ci := 6) (v := .ref (ma 24)) (C := RX6) (T := TX6) (N := 44) hx hb hts kt_X6 hown hK hP 0 rfl rfl 24 (by decide) (kx_word hG kq_05_morder_4 rfl) (fun _ h9 => h9) rfl dX6_step_282 ?_
                                        refine lv_iload_n hx hb dX6_step_285 rfl (lv_at hl 5 rfl) ?_
                                        refine lv_iload hx hb dX6_step_286 (lv_at hl 0 rfl) ?_
                                        refine lv_iload_n hx hb dX6_step_288 rfl (lv_at hl 3 rfl) ?_
                                        refine ki_isub hx hb dX6_step_289 ?_
                                        refine ki_iast (F := upI (F 24) sd 0) hx hb hK hP hD hS 19 18 rfl rfl (by omega) (by omega) (by decide) dX6_step_290 (fun H locs hP hD hS => ?_)
                                        have hP : va_P (dC, dI) kxCl (mW mo ma cs I (va_up (va_up (va_up (va_up (va_up (va_up (va_up (va_up F 20 (upI (F 20) sd pa)) 22 (upI (F 22) sd (-1))) 23 (upI (F 23) sd 0)) 24 (upI (F 24) sd 0)) 21 (upI (F 21) sd (vp_nar .boolean (iz 1)).toInt)) 22 (upI (upI (F 22) sd (-1)) sd 1)) 23 (upI (upI (F 23) sd 0) sd ((20 * p0) + pz))) 24 (upI (upI (F 24) sd 0) sd (en - pz)))) H := hP
                                        have hD : va_D A (mW mo ma cs I (va_up (va_up (va_up (va_up (va_up (va_up (va_up (va_up F 20 (upI (F 20) sd pa)) 22 (upI (F 22) sd (-1))) 23 (upI (F 23) sd 0)) 24 (upI (F 24) sd 0)) 21 (upI (F 21) sd (vp_nar .boolean (iz 1)).toInt)) 22 (upI (upI (F 22) sd (-1)) sd 1)) 23 (upI (upI (F 23) sd 0) sd ((20 * p0) + pz))) 24 (upI (upI (F 24) sd 0) sd (en - pz)))) := hD
                                        refine lv_aload_n hx hb dX6_step_291 rfl (lv_at hl 4 rfl) ?_
                                        refine va_get (D := (dC, dI)) (ci := 6) (v := .ref (ma 20)) (C := RX6) (T := TX6) (N := 44) hx hb hts kt_X6 hown hK hP 0 rfl rfl 20 (by decide) (kx_word hG kq_05_morder_0 rfl) (fun _ h9 => h9) rfl dX6_step_292 ?_
                                        refine lv_iload_n hx hb dX6_step_295 rfl (lv_at hl 5 rfl) ?_
                                        refine lv_iload hx hb dX6_step_296 (lv_at hl 0 rfl) ?_
                                        refine ki_iast (F := upI (F 20) sd pa) hx hb hK hP hD hS 15 14 rfl rfl (by omega) (by omega) (by decide) dX6_step_298 (fun H locs hP hD hS => ?_)
                                        have hP : va_P (dC, dI) kxCl (mW mo ma cs I (va_up (va_up (va_up (va_up (va_up (va_up (va_up (va_up (va_up F 20 (upI (F 20) sd pa)) 22 (upI (F 22) sd (-1))) 23 (upI (F 23) sd 0)) 24 (upI (F 24) sd 0)) 21 (upI (F 21) sd (vp_nar .boolean (iz 1)).toInt)) 22 (upI (upI (F 22) sd (-1)) sd 1)) 23 (upI (upI (F 23) sd 0) sd ((20 * p0) + pz))) 24 (upI (upI (F 24) sd 0) sd (en - pz))) 20 (upI (upI (F 20) sd pa) sd en))) H := hP
                                        have hD : va_D A (mW mo ma cs I (va_up (va_up (va_up (va_up (va_up (va_up (va_up (va_up (va_up F 20 (upI (F 20) sd pa)) 22 (upI (F 22) sd (-1))) 23 (upI (F 23) sd 0)) 24 (upI (F 24) sd 0)) 21 (upI (F 21) sd (vp_nar .boolean (iz 1)).toInt)) 22 (upI (upI (F 22) sd (-1)) sd 1)) 23 (upI (upI (F 23) sd 0) sd ((20 * p0) + pz))) 24 (upI (upI (F 24) sd 0) sd (en - pz))) 20 (upI (upI (F 20) sd pa) sd en))) := hD
                                        have ev20 : (va_up (va_up (va_up (va_up (va_up (va_up (va_up (va_up (va_up F 20 (upI (F 20) sd pa)) 22 (upI (F 22) sd (-1))) 23 (upI (F 23) sd 0)) 24 (upI (F 24) sd 0)) 21 (upI (F 21) sd (vp_nar .boolean (iz 1)).toInt)) 22 (upI (upI (F 22) sd (-1)) sd 1)) 23 (upI (upI (F 23) sd 0) sd ((20 * p0) + pz))) 24 (upI (upI (F 24) sd 0) sd (en - pz))) 20 (upI (upI (F 20) sd pa) sd en)) 20 sd = en := upI_self _ _ _
                                        have ev21 : (va_up (va_up (va_up (va_up (va_up (va_up (va_up (va_up (va_up F 20 (upI (F 20) sd pa)) 22 (upI (F 22) sd (-1))) 23 (upI (F 23) sd 0)) 24 (upI (F 24) sd 0)) 21 (upI (F 21) sd (vp_nar .boolean (iz 1)).toInt)) 22 (upI (upI (F 22) sd (-1)) sd 1)) 23 (upI (upI (F 23) sd 0) sd ((20 * p0) + pz))) 24 (upI (upI (F 24) sd 0) sd (en - pz))) 20 (upI (upI (F 20) sd pa) sd en)) 21 sd = (vp_nar .boolean (iz 1)).toInt := upI_self _ _ _
                                        have ev22 : (va_up (va_up (va_up (va_up (va_up (va_up (va_up (va_up (va_up F 20 (upI (F 20) sd pa)) 22 (upI (F 22) sd (-1))) 23 (upI (F 23) sd 0)) 24 (upI (F 24) sd 0)) 21 (upI (F 21) sd (vp_nar .boolean (iz 1)).toInt)) 22 (upI (upI (F 22) sd (-1)) sd 1)) 23 (upI (upI (F 23) sd 0) sd ((20 * p0) + pz))) 24 (upI (upI (F 24) sd 0) sd (en - pz))) 20 (upI (upI (F 20) sd pa) sd en)) 22 sd = 1 := upI_self _ _ _
                                        have ev23 : (va_up (va_up (va_up (va_up (va_up (va_up (va_up (va_up (va_up F 20 (upI (F 20) sd pa)) 22 (upI (F 22) sd (-1))) 23 (upI (F 23) sd 0)) 24 (upI (F 24) sd 0)) 21 (upI (F 21) sd (vp_nar .boolean (iz 1)).toInt)) 22 (upI (upI (F 22) sd (-1)) sd 1)) 23 (upI (upI (F 23) sd 0) sd ((20 * p0) + pz))) 24 (upI (upI (F 24) sd 0) sd (en - pz))) 20 (upI (upI (F 20) sd pa) sd en)) 23 sd = ((20 * p0) + pz) := upI_self _ _ _
                                        have ev24 : (va_up (va_up (va_up (va_up (va_up (va_up (va_up (va_up (va_up F 20 (upI (F 20) sd pa)) 22 (upI (F 22) sd (-1))) 23 (upI (F 23) sd 0)) 24 (upI (F 24) sd 0)) 21 (upI (F 21) sd (vp_nar .boolean (iz 1)).toInt)) 22 (upI (upI (F 22) sd (-1)) sd 1)) 23 (upI (upI (F 23) sd 0) sd ((20 * p0) + pz))) 24 (upI (upI (F 24) sd 0) sd (en - pz))) 20 (upI (upI (F 20) sd pa) sd en)) 24 sd = (en - pz) := upI_self _ _ _
                                        have ezn0 : (vp_nar .boolean (iz 1)).toInt = 1 := by decide
                                        have e_217 : (va_up (va_up (va_up (va_up (va_up (va_up (va_up (va_up (va_up F 20 (upI (F 20) sd pa)) 22 (upI (F 22) sd (-1))) 23 (upI (F 23) sd 0)) 24 (upI (F 24) sd 0)) 21 (upI (F 21) sd (vp_nar .boolean (iz 1)).toInt)) 22 (upI (upI (F 22) sd (-1)) sd 1)) 23 (upI (upI (F 23) sd 0) sd ((20 * p0) + pz))) 24 (upI (upI (F 24) sd 0) sd (en - pz))) 20 (upI (upI (F 20) sd pa) sd en)) 20 sd = en := upI_self _ _ _
                                        have e_218 : (va_up (va_up (va_up (va_up (va_up (va_up (va_up (va_up (va_up F 20 (upI (F 20) sd pa)) 22 (upI (F 22) sd (-1))) 23 (upI (F 23) sd 0)) 24 (upI (F 24) sd 0)) 21 (upI (F 21) sd (vp_nar .boolean (iz 1)).toInt)) 22 (upI (upI (F 22) sd (-1)) sd 1)) 23 (upI (upI (F 23) sd 0) sd ((20 * p0) + pz))) 24 (upI (upI (F 24) sd 0) sd (en - pz))) 20 (upI (upI (F 20) sd pa) sd en)) 22 sd = 1 := upI_self _ _ _
                                        have e_219 : (va_up (va_up (va_up (va_up (va_up (va_up (va_up (va_up (va_up F 20 (upI (F 20) sd pa)) 22 (upI (F 22) sd (-1))) 23 (upI (F 23) sd 0)) 24 (upI (F 24) sd 0)) 21 (upI (F 21) sd (vp_nar .boolean (iz 1)).toInt)) 22 (upI (upI (F 22) sd (-1)) sd 1)) 23 (upI (upI (F 23) sd 0) sd ((20 * p0) + pz))) 24 (upI (upI (F 24) sd 0) sd (en - pz))) 20 (upI (upI (F 20) sd pa) sd en)) 23 sd = (20 * p0) + pz := upI_self _ _ _
                                        have e_220 : (va_up (va_up (va_up (va_up (va_up (va_up (va_up (va_up (va_up F 20 (upI (F 20) sd pa)) 22 (upI (F 22) sd (-1))) 23 (upI (F 23) sd 0)) 24 (upI (F 24) sd 0)) 21 (upI (F 21) sd (vp_nar .boolean (iz 1)).toInt)) 22 (upI (upI (F 22) sd (-1)) sd 1)) 23 (upI (upI (F 23) sd 0) sd ((20 * p0) + pz))) 24 (upI (upI (F 24) sd 0) sd (en - pz))) 20 (upI (upI (F 20) sd pa) sd en)) 24 sd = en - pz := upI_self _ _ _
                                        have e_221 : (va_up (va_up (va_up (va_up (va_up (va_up (va_up (va_up (va_up F 20 (upI (F 20) sd pa)) 22 (upI (F 22) sd (-1))) 23 (upI (F 23) sd 0)) 24 (upI (F 24) sd 0)) 21 (upI (F 21) sd (vp_nar .boolean (iz 1)).toInt)) 22 (upI (upI (F 22) sd (-1)) sd 1)) 23 (upI (upI (F 23) sd 0) sd ((20 * p0) + pz))) 24 (upI (upI (F 24) sd 0) sd (en - pz))) 20 (upI (upI (F 20) sd pa) sd en)) 21 sd = (vp_nar .boolean (iz 1)).toInt := upI_self _ _ _
                                        rw [← hQe]
                                        exact mk_ret hx hb hr hlocks hP hD hK hS dX6_step_299 (⟨rfl, (mB_f (mB_f (mB_f (mB_f (mB_f (mB_f (mB_f (mB_f (mB_f hB 20 sd (by omega) (by omega)) 22 sd (by omega) (by omega)) 23 sd (by omega) (by omega)) 24 sd (by omega) (by omega)) 21 sd (iz_lo _) (iz_hi _)) 22 sd (by omega) (by omega)) 23 sd (by omega) (by omega)) 24 sd (by omega) (by omega)) 20 sd (by omega) (by omega)), (mfr.upF (mfr.upF (mfr.upF (mfr.upF (mfr.upF (mfr.upF (mfr.upF (mfr.upF (mfr.upF mfr.rf (by decide) _) (by decide) _) (by decide) _) (by decide) _) (by decide) _) (by decide) _) (by decide) _) (by decide) _) (by decide) _), (mo1.up (mo1.up (mo1.up (mo1.up (mo1.up (mo1.up (mo1.up (mo1.up (mo1.up mo1.rf 20 _) 22 _) 23 _) 24 _) 21 _) 22 _) 23 _) 24 _) 20 _), by omega, by omega, by omega, by rw [ev22, ev23, ev24]; exact Or.inr (Or.inr (Or.inl ⟨rfl, by omega, by omega⟩)), by rw [ev21]; exact Or.inr ezn0, by omega, by rw [ev20]; exact hboE, by rw [ev22, ev23, ev24, ev20, ev21, ezn0, kf_eu_num (f := kf_sg F p0) (fun i => rfl) hkzE]; exact hnum⟩)
                                      · skip
                                        refine lv_iinc (v := iz (pz + 1)) (lv' := [(3, .int (iz (pz + 1))), (6, .int (iz en)), (5, .int (iz (kf_sg F p0 pa))), (4, .int (iz ps)), (0, .ref mo), (1, .int (iz sd)), (2, .int (iz p0))]) hx hb dX6_step_256 hl (k := 3) rfl (iz_add pz 1) (by decide) rfl (fun ls hl => ?_)
                                        refine lv_goto (tgt := 234) hx hb dX6_step_259 (by decide) ?_
                                        exact ih234 (pz + 1) ⟨by omega, hkz.trans (kf_kz_step (by omega) (by omega))⟩ (by omega) _ _ hP hD hS ls (lv_sub hl [1, 2, 3, 0, 4, 5, 6] rfl)
                                exact lp234 _ pa ⟨by omega, rfl⟩ (Nat.lt_succ_self _) _ _ hP hD hS ls (lv_sub hl [0, 1, 2, 3, 4, 5, 6] rfl)
                              · skip
                                refine lv_aload_n hx hb dX6_step_210 rfl (lv_at hl 4 rfl) ?_
                                refine va_get (D := (dC, dI)) (ci := 6) (v := .ref (ma 4)) (C := RX6) (T := TX6) (N := 44) hx hb hts kt_X6 hown hK hP 0 rfl rfl 4 (by decide) (kx_word hG kq_04_msmall_16 rfl) (fun _ h9 => h9) rfl dX6_step_211 ?_
                                refine lv_bipush (v := iz 20) hx hb dX6_step_214 (by decide) ?_
                                refine lv_iload_n hx hb dX6_step_216 rfl (lv_at hl 6 rfl) ?_
                                refine ki_imul hx hb dX6_step_217 ?_
                                refine lv_iload hx hb dX6_step_218 (lv_at hl 0 rfl) ?_
                                refine ki_iadd hx hb dX6_step_220 ?_
                                refine ki_iald (F := F 4) hx hb hK hP 3 2 rfl rfl (by omega) (by omega) (by decide) dX6_step_221 ?_
                                have hbd_222 := hB.2 4 ((20 * p0) + en)
                                refine ki_is (show iz (F 4 ((20 * p0) + en)) = iz (kf_sg F p0 en) from rfl) ?_
                                have hsk_223 := hsg en (by omega) (by omega)
                                refine mk_calls (As := [.int (iz (kf_sg F p0 en))]) (rest := []) ⟨hx, hb, hml, hown, hts⟩ (k_isNumber2 l dC dI (kf_sg F p0 en) H.size (by omega) (by omega)) (va_cwS 1 hts (kx_gS kq_05_morder_8 kq_05_morder_9 kq_04_msmall_6 kq_05_morder_10 rfl) rfl rfl rfl (by decide +kernel) ⟨Nat.le_of_ble_eq_true rfl, Nat.le_of_ble_eq_true rfl⟩) hP hD hK hG hZ hS hA rfl hl.1 rfl (Nat.le_of_ble_eq_true rfl) dX6_step_222 ⟨Nat.le_of_ble_eq_true rfl, Nat.le_of_ble_eq_true rfl⟩ (fun z_224 H locs hq_225 hP hS => ?_)
                                try dsimp only at hq_225
                                rcases hq_225 with ⟨rfl, hq_225⟩ | ⟨rfl, hq_225⟩
                                · skip
                                  refine ki_if_eq (tgt := 234) hx hb dX6_step_225 (by decide) (by omega) (by omega) (fun c_226 => ?_) (fun c_226 => ?_)
                                  · omega
                                  · skip
                                    refine lv_iinc (v := iz (en + 1)) (lv' := [(6, .int (iz (en + 1))), (5, .int (iz (kf_sg F p0 pa))), (4, .int (iz ps)), (3, .int (iz pa)), (0, .ref mo), (1, .int (iz sd)), (2, .int (iz p0))]) hx hb dX6_step_228 hl (k := 0) rfl (iz_add en 1) (by decide) rfl (fun ls hl => ?_)
                                    refine lv_goto (tgt := 192) hx hb dX6_step_231 (by decide) ?_
                                    exact ih192 (en + 1) ⟨by omega, Or.inr (by omega), fun h9 => (hke h9).trans (kf_ke_step (by omega) (by omega))⟩ (by omega) _ _ hP hD hS ls (lv_sub hl [0, 1, 2, 3, 4, 5, 6] rfl)
                                · skip
                                  refine ki_if_eq (tgt := 234) hx hb dX6_step_225 (by decide) (by omega) (by omega) (fun c_227 => ?_) (fun c_227 => ?_)
                                  · skip
                                    have hkeE : ¬ I 14 = 0 → kf_ke (kf_sg F p0) (F 5 p0) (F 5 p0 - pa).toNat pa = en := fun h9 => (hke h9).trans (kf_ke_stop (by omega))
                                    have hen1 : I 14 = 0 → en = pa + 1 := fun h9 => by rcases hen0 with h8 | h8; exact h8; exact absurd h9 h8
                                    have hnum : kf_kI (kf_sg F p0) (F 5 p0) (I 14) (I 15) (F 20 sd) 0 (F 21 sd) = kf_kn (kf_sg F p0) pa en ++ kf_kI (kf_sg F p0) (F 5 p0) (I 14) (I 15) en 0 1 := by by_cases h9 : I 14 = 0; rw [hen1 h9]; exact hK0.trans (kf_kI_one (kf_sg F p0) (F 5 p0) (I 14) (I 15) pa 0 (F 21 sd) 1 (by omega) hkd h9 rfl (by omega)); have h7 := hK0.trans (kf_kI_whole (kf_sg F p0) (F 5 p0) (I 14) (I 15) pa 0 (F 21 sd) 1 (by omega) (by omega) hkd h9 (hbo2 h9) rfl (by omega)); rw [hkeE h9] at h7; exact h7
                                    have hboE : kf_kbo (kf_sg F p0) (F 5 p0) (I 14) en := by by_cases h9 : I 14 = 0; exact Or.inl h9; exact Or.inr (fun h7 => by have h6 := (kf_ke_run (kf_sg F p0) (F 5 p0) (F 5 p0 - pa).toNat pa (by omega) (Nat.le_refl _)).2; rw [hkeE h9] at h6; exact h6 h7.1 h7.2.2.1)
                                    have lp234 : ∀ (n : Nat) (pz : Int), ((pa ≤ pz ∧ pz ≤ en) ∧ (kf_kz (kf_sg F p0) en (en - pa).toNat pa = kf_kz (kf_sg F p0) en (en - pz).toNat pz)) → (en - pz).toNat < n → ∀ (H : Heap) (locs : List Loc), va_P (dC, dI) kxCl (mW mo ma cs I (va_up (va_up (va_up (va_up (va_up F 20 (upI (F 20) sd pa)) 22 (upI (F 22) sd (-1))) 23 (upI (F 23) sd 0)) 24 (upI (F 24) sd 0)) 21 (upI (F 21) sd (vp_nar .boolean (iz 1)).toInt))) H → va_D A (mW mo ma cs I (va_up (va_up (va_up (va_up (va_up F 20 (upI (F 20) sd pa)) 22 (upI (F 22) sd (-1))) 23 (upI (F 23) sd 0)) 24 (upI (F 24) sd 0)) 21 (upI (F 21) sd (vp_nar .boolean (iz 1)).toInt))) → va_S A s.heap H locs → ∀ ls : Array Slot, lv_has ls 7 [(6, .int (iz en)), (5, .int (iz (kf_sg F p0 pa))), (4, .int (iz ps)), (3, .int (iz pz)), (0, .ref mo), (1, .int (iz sd)), (2, .int (iz p0))] → W p l e (headSpec [.code yX6_step cX6_step 7 none] ({ frames := 1, cells := 0, slots := 0, locals := 21 })).room s m ([.ref mo, .int (iz sd), .int (iz p0)] : List Value).toArray below meth c H locs 0 0 QQ (F0 m 234 ls []) := by
                                      intro n
                                      induction n with
                                      | zero => intro pz hinv hm; exact absurd hm (Nat.not_lt_zero _)
                                      | succ n ih234 =>
                                        intro pz hinv hm H locs hP hD hS ls hl
                                        obtain ⟨hpz, hkz⟩ := hinv
                                        refine lv_iload_n hx hb dX6_step_234 rfl (lv_at hl 3 rfl) ?_
                                        refine lv_iload hx hb dX6_step_235 (lv_at hl 0 rfl) ?_
                                        refine ki_icmp_ge (tgt := 262) hx hb dX6_step_237 (by decide) (by omega) (by omega) (by omega) (by omega) (fun c_228 => ?_) (fun c_228 => ?_)
                                        · skip
                                          have hkzE : kf_kz (kf_sg F p0) en (en - pa).toNat pa = pz := hkz.trans (kf_kz_stop (by omega))
                                          refine lv_aload_n hx hb dX6_step_262 rfl (lv_at hl 4 rfl) ?_
                                          refine va_get (D := (dC, dI)) (ci := 6) (v := .ref (ma 22)) (C := RX6) (T := TX6) (N := 44) hx hb hts kt_X6 hown hK hP 0 rfl rfl 22 (by decide) (kx_word hG kq_05_morder_2 rfl) (fun _ h9 => h9) rfl dX6_step_263 ?_
                                          refine lv_iload_n hx hb dX6_step_266 rfl (lv_at hl 5 rfl) ?_
                                          refine lv_iconst (v := iz 1) hx hb dX6_step_267 (by decide) ?_
                                          refine ki_iast (F := upI (F 22) sd (-1)) hx hb hK hP hD hS 17 16 rfl rfl (by omega) (by omega) (by decide) dX6_step_268 (fun H locs hP hD hS => ?_)
                                          have hP : va_P (dC, dI) kxCl (mW mo ma cs I (va_up (va_up (va_up (va_up (va_up (va_up F 20 (upI (F 20) sd pa)) 22 (upI (F 22) sd (-1))) 23 (upI (F 23) sd 0)) 24 (upI (F 24) sd 0)) 21 (upI (F 21) sd (vp_nar .boolean (iz 1)).toInt)) 22 (upI (upI (F 22) sd (-1)) sd 1))) H := hP
                                          have hD : va_D A (mW mo ma cs I (va_up (va_up (va_up (va_up (va_up (va_up F 20 (upI (F 20) sd pa)) 22 (upI (F 22) sd (-1))) 23 (upI (F 23) sd 0)) 24 (upI (F 24) sd 0)) 21 (upI (F 21) sd (vp_nar .boolean (iz 1)).toInt)) 22 (upI (upI (F 22) sd (-1)) sd 1))) := hD
                                          refine lv_aload_n hx hb dX6_step_269 rfl (lv_at hl 4 rfl) ?_
                                          refine va_get (D := (dC, dI)) (ci := 6) (v := .ref (ma 23)) (C := RX6) (T := TX6) (N := 44) hx hb hts kt_X6 hown hK hP 0 rfl rfl 23 (by decide) (kx_word hG kq_05_morder_3 rfl) (fun _ h9 => h9) rfl dX6_step_270 ?_
                                          refine lv_iload_n hx hb dX6_step_273 rfl (lv_at hl 5 rfl) ?_
                                          refine lv_bipush (v := iz 20) hx hb dX6_step_274 (by decide) ?_
                                          refine lv_iload_n hx hb dX6_step_276 rfl (lv_at hl 6 rfl) ?_
                                          refine ki_imul hx hb dX6_step_277 ?_
                                          refine lv_iload_n hx hb dX6_step_278 rfl (lv_at hl 3 rfl) ?_
                                          refine ki_iadd hx hb dX6_step_279 ?_
                                          refine ki_iast (F := upI (F 23) sd 0) hx hb hK hP hD hS 18 17 rfl rfl (by omega) (by omega) (by decide) dX6_step_280 (fun H locs hP hD hS => ?_)
                                          have hP : va_P (dC, dI) kxCl (mW mo ma cs I (va_up (va_up (va_up (va_up (va_up (va_up (va_up F 20 (upI (F 20) sd pa)) 22 (upI (F 22) sd (-1))) 23 (upI (F 23) sd 0)) 24 (upI (F 24) sd 0)) 21 (upI (F 21) sd (vp_nar .boolean (iz 1)).toInt)) 22 (upI (upI (F 22) sd (-1)) sd 1)) 23 (upI (upI (F 23) sd 0) sd ((20 * p0) + pz)))) H := hP
                                          have hD : va_D A (mW mo ma cs I (va_up (va_up (va_up (va_up (va_up (va_up (va_up F 20 (upI (F 20) sd pa)) 22 (upI (F 22) sd (-1))) 23 (upI (F 23) sd 0)) 24 (upI (F 24) sd 0)) 21 (upI (F 21) sd (vp_nar .boolean (iz 1)).toInt)) 22 (upI (upI (F 22) sd (-1)) sd 1)) 23 (upI (upI (F 23) sd 0) sd ((20 * p0) + pz)))) := hD
                                          refine lv_aload_n hx hb dX6_step_281 rfl (lv_at hl 4 rfl) ?_
                                          refine va_get (D := (dC, dI)) (ci := 6) (v := .ref (ma 24)) (C := RX6) (T := TX6) (N := 44) hx hb hts kt_X6 hown hK hP 0 rfl rfl 24 (by decide) (kx_word hG kq_05_morder_4 rfl) (fun _ h9 => h9) rfl dX6_step_282 ?_
                                          refine lv_iload_n hx hb dX6_step_285 rfl (lv_at hl 5 rfl) ?_
                                          refine lv_iload hx hb dX6_step_286 (lv_at hl 0 rfl) ?_
                                          refine lv_iload_n hx hb dX6_step_288 rfl (lv_at hl 3 rfl) ?_
                                          refine ki_isub hx hb dX6_step_289 ?_
                                          refine ki_iast (F := upI (F 24) sd 0) hx hb hK hP hD hS 19 18 rfl rfl (by omega) (by omega) (by decide) dX6_step_290 (fun H locs hP hD hS => ?_)
                                          have hP : va_P (dC, dI) kxCl (mW mo ma cs I (va_up (va_up (va_up (va_up (va_up (va_up (va_up (va_up F 20 (upI (F 20) sd pa)) 22 (upI (F 22) sd (-1))) 23 (upI (F 23) sd 0)) 24 (upI (F 24) sd 0)) 21 (upI (F 21) sd (vp_nar .boolean (iz 1)).toInt)) 22 (upI (upI (F 22) sd (-1)) sd 1)) 23 (upI (upI (F 23) sd 0) sd ((20 * p0) + pz))) 24 (upI (upI (F 24) sd 0) sd (en - pz)))) H := hP
                                          have hD : va_D A (mW mo ma cs I (va_up (va_up (va_up (va_up (va_up (va_up (va_up (va_up F 20 (upI (F 20) sd pa)) 22 (upI (F 22) sd (-1))) 23 (upI (F 23) sd 0)) 24 (upI (F 24) sd 0)) 21 (upI (F 21) sd (vp_nar .boolean (iz 1)).toInt)) 22 (upI (upI (F 22) sd (-1)) sd 1)) 23 (upI (upI (F 23) sd 0) sd ((20 * p0) + pz))) 24 (upI (upI (F 24) sd 0) sd (en - pz)))) := hD
                                          refine lv_aload_n hx hb dX6_step_291 rfl (lv_at hl 4 rfl) ?_
                                          refine va_get (D := (dC, dI)) (ci := 6) (v := .ref (ma 20)) (C := RX6) (T := TX6) (N := 44) hx hb hts kt_X6 hown hK hP 0 rfl rfl 20 (by decide) (kx_word hG kq_05_morder_0 rfl) (fun _ h9 => h9) rfl dX6_step_292 ?_
                                          refine lv_iload_n hx hb dX6_step_295 rfl (lv_at hl 5 rfl) ?_
                                          refine lv_iload hx hb dX6_step_296 (lv_at hl 0 rfl) ?_
                                          refine ki_iast (F := upI (F 20) sd pa) hx hb hK hP hD hS 15 14 rfl rfl (by omega) (by omega) (by decide) dX6_step_298 (fun H locs hP hD hS => ?_)
                                          have hP : va_P (dC, dI) kxCl (mW mo ma cs I (va_up (va_up (va_up (va_up (va_up (va_up (va_up (va_up (va_up F 20 (upI (F 20) sd pa)) 22 (upI (F 22) sd (-1))) 23 (upI (F 23) sd 0)) 24 (upI (F 24) sd 0)) 21 (upI (F 21) sd (vp_nar .boolean (iz 1)).toInt)) 22 (upI (upI (F 22) sd (-1)) sd 1)) 23 (upI (upI (F 23) sd 0) sd ((20 * p0) + pz))) 24 (upI (upI (F 24) sd 0) sd (en - pz))) 20 (upI (upI (F 20) sd pa) sd en))) H := hP
                                          have hD : va_D A (mW mo ma cs I (va_up (va_up (va_up (va_up (va_up (va_up (va_up (va_up (va_up F 20 (upI (F 20) sd pa)) 22 (upI (F 22) sd (-1))) 23 (upI (F 23) sd 0)) 24 (upI (F 24) sd 0)) 21 (upI (F 21) sd (vp_nar .boolean (iz 1)).toInt)) 22 (upI (upI (F 22) sd (-1)) sd 1)) 23 (upI (upI (F 23) sd 0) sd ((20 * p0) + pz))) 24 (upI (upI (F 24) sd 0) sd (en - pz))) 20 (upI (upI (F 20) sd pa) sd en))) := hD
                                          have ev20 : (va_up (va_up (va_up (va_up (va_up (va_up (va_up (va_up (va_up F 20 (upI (F 20) sd pa)) 22 (upI (F 22) sd (-1))) 23 (upI (F 23) sd 0)) 24 (upI (F 24) sd 0)) 21 (upI (F 21) sd (vp_nar .boolean (iz 1)).toInt)) 22 (upI (upI (F 22) sd (-1)) sd 1)) 23 (upI (upI (F 23) sd 0) sd ((20 * p0) + pz))) 24 (upI (upI (F 24) sd 0) sd (en - pz))) 20 (upI (upI (F 20) sd pa) sd en)) 20 sd = en := upI_self _ _ _
                                          have ev21 : (va_up (va_up (va_up (va_up (va_up (va_up (va_up (va_up (va_up F 20 (upI (F 20) sd pa)) 22 (upI (F 22) sd (-1))) 23 (upI (F 23) sd 0)) 24 (upI (F 24) sd 0)) 21 (upI (F 21) sd (vp_nar .boolean (iz 1)).toInt)) 22 (upI (upI (F 22) sd (-1)) sd 1)) 23 (upI (upI (F 23) sd 0) sd ((20 * p0) + pz))) 24 (upI (upI (F 24) sd 0) sd (en - pz))) 20 (upI (upI (F 20) sd pa) sd en)) 21 sd = (vp_nar .boolean (iz 1)).toInt := upI_self _ _ _
                                          have ev22 : (va_up (va_up (va_up (va_up (va_up (va_up (va_up (va_up (va_up F 20 (upI (F 20) sd pa)) 22 (upI (F 22) sd (-1))) 23 (upI (F 23) sd 0)) 24 (upI (F 24) sd 0)) 21 (upI (F 21) sd (vp_nar .boolean (iz 1)).toInt)) 22 (upI (upI (F 22) sd (-1)) sd 1)) 23 (upI (upI (F 23) sd 0) sd ((20 * p0) + pz))) 24 (upI (upI (F 24) sd 0) sd (en - pz))) 20 (upI (upI (F 20) sd pa) sd en)) 22 sd = 1 := upI_self _ _ _
                                          have ev23 : (va_up (va_up (va_up (va_up (va_up (va_up (va_up (va_up (va_up F 20 (upI (F 20) sd pa)) 22 (upI (F 22) sd (-1))) 23 (upI (F 23) sd 0)) 24 (upI (F 24) sd 0)) 21 (upI (F 21) sd (vp_nar .boolean (iz 1)).toInt)) 22 (upI (upI (F 22) sd (-1)) sd 1)) 23 (upI (upI (F 23) sd 0) sd ((20 * p0) + pz))) 24 (upI (upI (F 24) sd 0) sd (en - pz))) 20 (upI (upI (F 20) sd pa) sd en)) 23 sd = ((20 * p0) + pz) := upI_self _ _ _
                                          have ev24 : (va_up (va_up (va_up (va_up (va_up (va_up (va_up (va_up (va_up F 20 (upI (F 20) sd pa)) 22 (upI (F 22) sd (-1))) 23 (upI (F 23) sd 0)) 24 (upI (F 24) sd 0)) 21 (upI (F 21) sd (vp_nar .boolean (iz 1)).toInt)) 22 (upI (upI (F 22) sd (-1)) sd 1)) 23 (upI (upI (F 23) sd 0) sd ((20 * p0) + pz))) 24 (upI (upI (F 24) sd 0) sd (en - pz))) 20 (upI (upI (F 20) sd pa) sd en)) 24 sd = (en - pz) := upI_self _ _ _
                                          have ezn0 : (vp_nar .boolean (iz 1)).toInt = 1 := by decide
                                          have e_229 : (va_up (va_up (va_up (va_up (va_up (va_up (va_up (va_up (va_up F 20 (upI (F 20) sd pa)) 22 (upI (F 22) sd (-1))) 23 (upI (F 23) sd 0)) 24 (upI (F 24) sd 0)) 21 (upI (F 21) sd (vp_nar .boolean (iz 1)).toInt)) 22 (upI (upI (F 22) sd (-1)) sd 1)) 23 (upI (upI (F 23) sd 0) sd ((20 * p0) + pz))) 24 (upI (upI (F 24) sd 0) sd (en - pz))) 20 (upI (upI (F 20) sd pa) sd en)) 20 sd = en := upI_self _ _ _
                                          have e_230 : (va_up (va_up (va_up (va_up (va_up (va_up (va_up (va_up (va_up F 20 (upI (F 20) sd pa)) 22 (upI (F 22) sd (-1))) 23 (upI (F 23) sd 0)) 24 (upI (F 24) sd 0)) 21 (upI (F 21) sd (vp_nar .boolean (iz 1)).toInt)) 22 (upI (upI (F 22) sd (-1)) sd 1)) 23 (upI (upI (F 23) sd 0) sd ((20 * p0) + pz))) 24 (upI (upI (F 24) sd 0) sd (en - pz))) 20 (upI (upI (F 20) sd pa) sd en)) 22 sd = 1 := upI_self _ _ _
                                          have e_231 : (va_up (va_up (va_up (va_up (va_up (va_up (va_up (va_up (va_up F 20 (upI (F 20) sd pa)) 22 (upI (F 22) sd (-1))) 23 (upI (F 23) sd 0)) 24 (upI (F 24) sd 0)) 21 (upI (F 21) sd (vp_nar .boolean (iz 1)).toInt)) 22 (upI (upI (F 22) sd (-1)) sd 1)) 23 (upI (upI (F 23) sd 0) sd ((20 * p0) + pz))) 24 (upI (upI (F 24) sd 0) sd (en - pz))) 20 (upI (upI (F 20) sd pa) sd en)) 23 sd = (20 * p0) + pz := upI_self _ _ _
                                          have e_232 : (va_up (va_up (va_up (va_up (va_up (va_up (va_up (va_up (va_up F 20 (upI (F 20) sd pa)) 22 (upI (F 22) sd (-1))) 23 (upI (F 23) sd 0)) 24 (upI (F 24) sd 0)) 21 (upI (F 21) sd (vp_nar .boolean (iz 1)).toInt)) 22 (upI (upI (F 22) sd (-1)) sd 1)) 23 (upI (upI (F 23) sd 0) sd ((20 * p0) + pz))) 24 (upI (upI (F 24) sd 0) sd (en - pz))) 20 (upI (upI (F 20) sd pa) sd en)) 24 sd = en - pz := upI_self _ _ _
                                          have e_233 : (va_up (va_up (va_up (va_up (va_up (va_up (va_up (va_up (va_up F 20 (upI (F 20) sd pa)) 22 (upI (F 22) sd (-1))) 23 (upI (F 23) sd 0)) 24 (upI (F 24) sd 0)) 21 (upI (F 21) sd (vp_nar .boolean (iz 1)).toInt)) 22 (upI (upI (F 22) sd (-1)) sd 1)) 23 (upI (upI (F 23) sd 0) sd ((20 * p0) + pz))) 24 (upI (upI (F 24) sd 0) sd (en - pz))) 20 (upI (upI (F 20) sd pa) sd en)) 21 sd = (vp_nar .boolean (iz 1)).toInt := upI_self _ _ _
                                          rw [← hQe]
                                          exact mk_ret hx hb hr hlocks hP hD hK hS dX6_step_299 (⟨rfl, (mB_f (mB_f (mB_f (mB_f (mB_f (mB_f (mB_f (mB_f (mB_f hB 20 sd (by omega) (by omega)) 22 sd (by omega) (by omega)) 23 sd (by omega) (by omega)) 24 sd (by omega) (by omega)) 21 sd (iz_lo _) (iz_hi _)) 22 sd (by omega) (by omega)) 23 sd (by omega) (by omega)) 24 sd (by omega) (by omega)) 20 sd (by omega) (by omega)), (mfr.upF (mfr.upF (mfr.upF (mfr.upF (mfr.upF (mfr.upF (mfr.upF (mfr.upF (mfr.upF mfr.rf (by decide) _) (by decide) _) (by decide) _) (by decide) _) (by decide) _) (by decide) _) (by decide) _) (by decide) _) (by decide) _), (mo1.up (mo1.up (mo1.up (mo1.up (mo1.up (mo1.up (mo1.up (mo1.up (mo1.up mo1.rf 20 _) 22 _) 23 _) 24 _) 21 _) 22 _) 23 _) 24 _) 20 _), by omega, by omega, by omega, by rw [ev22, ev23, ev24]; exact Or.inr (Or.inr (Or.inl ⟨rfl, by omega, by omega⟩)), by rw [ev21]; exact Or.inr ezn0, by omega, by rw [ev20]; exact hboE, by rw [ev22, ev23, ev24, ev20, ev21, ezn0, kf_eu_num (f := kf_sg F p0) (fun i => rfl) hkzE]; exact hnum⟩)
                                        · skip
                                          refine lv_aload_n hx hb dX6_step_240 rfl (lv_at hl 4 rfl) ?_
                                          refine va_get (D := (dC, dI)) (ci := 6) (v := .ref (ma 4)) (C := RX6) (T := TX6) (N := 44) hx hb hts kt_X6 hown hK hP 0 rfl rfl 4 (by decide) (kx_word hG kq_04_msmall_16 rfl) (fun _ h9 => h9) rfl dX6_step_241 ?_
                                          refine lv_bipush (v := iz 20) hx hb dX6_step_244 (by decide) ?_
                                          refine lv_iload_n hx hb dX6_step_246 rfl (lv_at hl 6 rfl) ?_
                                          refine ki_imul hx hb dX6_step_247 ?_
                                          refine lv_iload_n hx hb dX6_step_248 rfl (lv_at hl 3 rfl) ?_
                                          refine ki_iadd hx hb dX6_step_249 ?_
                                          refine ki_iald (F := F 4) hx hb hK hP 3 2 rfl rfl (by omega) (by omega) (by decide) dX6_step_250 ?_
                                          have hbd_234 := hB.2 4 ((20 * p0) + pz)
                                          refine ki_is (show iz (F 4 ((20 * p0) + pz)) = iz (kf_sg F p0 pz) from rfl) ?_
                                          have hsk_235 := hsg pz (by omega) (by omega)
                                          refine lv_bipush (v := iz 48) hx hb dX6_step_251 (by decide) ?_
                                          refine ki_icmp_ne (tgt := 262) hx hb dX6_step_253 (by decide) (by omega) (by omega) (by omega) (by omega) (fun c_236 => ?_) (fun c_236 => ?_)
                                          · skip
                                            have hkzE : kf_kz (kf_sg F p0) en (en - pa).toNat pa = pz := hkz.trans (kf_kz_stop (by omega))
                                            refine lv_aload_n hx hb dX6_step_262 rfl (lv_at hl 4 rfl) ?_
                                            refine va_get (D := (dC, dI)) (ci := 6) (v := .ref (ma 22)) (C := RX6) (T := TX6) (N := 44) hx hb hts kt_X6 hown hK hP 0 rfl rfl 22 (by decide) (kx_word hG kq_05_morder_2 rfl) (fun _ h9 => h9) rfl dX6_step_263 ?_
                                            refine lv_iload_n hx hb dX6_step_266 rfl (lv_at hl 5 rfl) ?_
                                            refine lv_iconst (v := iz 1) hx hb dX6_step_267 (by decide) ?_
                                            refine ki_iast (F := upI (F 22) sd (-1)) hx hb hK hP hD hS 17 16 rfl rfl (by omega) (by omega) (by decide) dX6_step_268 (fun H locs hP hD hS => ?_)
                                            have hP : va_P (dC, dI) kxCl (mW mo ma cs I (va_up (va_up (va_up (va_up (va_up (va_up F 20 (upI (F 20) sd pa)) 22 (upI (F 22) sd (-1))) 23 (upI (F 23) sd 0)) 24 (upI (F 24) sd 0)) 21 (upI (F 21) sd (vp_nar .boolean (iz 1)).toInt)) 22 (upI (upI (F 22) sd (-1)) sd 1))) H := hP
                                            have hD : va_D A (mW mo ma cs I (va_up (va_up (va_up (va_up (va_up (va_up F 20 (upI (F 20) sd pa)) 22 (upI (F 22) sd (-1))) 23 (upI (F 23) sd 0)) 24 (upI (F 24) sd 0)) 21 (upI (F 21) sd (vp_nar .boolean (iz 1)).toInt)) 22 (upI (upI (F 22) sd (-1)) sd 1))) := hD
                                            refine lv_aload_n hx hb dX6_step_269 rfl (lv_at hl 4 rfl) ?_
                                            refine va_get (D := (dC, dI)) (ci := 6) (v := .ref (ma 23)) (C := RX6) (T := TX6) (N := 44) hx hb hts kt_X6 hown hK hP 0 rfl rfl 23 (by decide) (kx_word hG kq_05_morder_3 rfl) (fun _ h9 => h9) rfl dX6_step_270 ?_
                                            refine lv_iload_n hx hb dX6_step_273 rfl (lv_at hl 5 rfl) ?_
                                            refine lv_bipush (v := iz 20) hx hb dX6_step_274 (by decide) ?_
                                            refine lv_iload_n hx hb dX6_step_276 rfl (lv_at hl 6 rfl) ?_
                                            refine ki_imul hx hb dX6_step_277 ?_
                                            refine lv_iload_n hx hb dX6_step_278 rfl (lv_at hl 3 rfl) ?_
                                            refine ki_iadd hx hb dX6_step_279 ?_
                                            refine ki_iast (F := upI (F 23) sd 0) hx hb hK hP hD hS 18 17 rfl rfl (by omega) (by omega) (by decide) dX6_step_280 (fun H locs hP hD hS => ?_)
                                            have hP : va_P (dC, dI) kxCl (mW mo ma cs I (va_up (va_up (va_up (va_up (va_up (va_up (va_up F 20 (upI (F 20) sd pa)) 22 (upI (F 22) sd (-1))) 23 (upI (F 23) sd 0)) 24 (upI (F 24) sd 0)) 21 (upI (F 21) sd (vp_nar .boolean (iz 1)).toInt)) 22 (upI (upI (F 22) sd (-1)) sd 1)) 23 (upI (upI (F 23) sd 0) sd ((20 * p0) + pz)))) H := hP
                                            have hD : va_D A (mW mo ma cs I (va_up (va_up (va_up (va_up (va_up (va_up (va_up F 20 (upI (F 20) sd pa)) 22 (upI (F 22) sd (-1))) 23 (upI (F 23) sd 0)) 24 (upI (F 24) sd 0)) 21 (upI (F 21) sd (vp_nar .boolean (iz 1)).toInt)) 22 (upI (upI (F 22) sd (-1)) sd 1)) 23 (upI (upI (F 23) sd 0) sd ((20 * p0) + pz)))) := hD
                                            refine lv_aload_n hx hb dX6_step_281 rfl (lv_at hl 4 rfl) ?_
                                            refine va_get (D := (dC, dI)) (ci := 6) (v := .ref (ma 24)) (C := RX6) (T := TX6) (N := 44) hx hb hts kt_X6 hown hK hP 0 rfl rfl 24 (by decide) (kx_word hG kq_05_morder_4 rfl) (fun _ h9 => h9) rfl dX6_step_282 ?_
                                            refine lv_iload_n hx hb dX6_step_285 rfl (lv_at hl 5 rfl) ?_
                                            refine lv_iload hx hb dX6_step_286 (lv_at hl 0 rfl) ?_
                                            refine lv_iload_n hx hb dX6_step_288 rfl (lv_at hl 3 rfl) ?_
                                            refine ki_isub hx hb dX6_step_289 ?_
                                            refine ki_iast (F := upI (F 24) sd 0) hx hb hK hP hD hS 19 18 rfl rfl (by omega) (by omega) (by decide) dX6_step_290 (fun H locs hP hD hS => ?_)
                                            have hP : va_P (dC, dI) kxCl (mW mo ma cs I (va_up (va_up (va_up (va_up (va_up (va_up (va_up (va_up F 20 (upI (F 20) sd pa)) 22 (upI (F 22) sd (-1))) 23 (upI (F 23) sd 0)) 24 (upI (F 24) sd 0)) 21 (upI (F 21) sd (vp_nar .boolean (iz 1)).toInt)) 22 (upI (upI (F 22) sd (-1)) sd 1)) 23 (upI (upI (F 23) sd 0) sd ((20 * p0) + pz))) 24 (upI (upI (F 24) sd 0) sd (en - pz)))) H := hP
                                            have hD : va_D A (mW mo ma cs I (va_up (va_up (va_up (va_up (va_up (va_up (va_up (va_up F 20 (upI (F 20) sd pa)) 22 (upI (F 22) sd (-1))) 23 (upI (F 23) sd 0)) 24 (upI (F 24) sd 0)) 21 (upI (F 21) sd (vp_nar .boolean (iz 1)).toInt)) 22 (upI (upI (F 22) sd (-1)) sd 1)) 23 (upI (upI (F 23) sd 0) sd ((20 * p0) + pz))) 24 (upI (upI (F 24) sd 0) sd (en - pz)))) := hD
                                            refine lv_aload_n hx hb dX6_step_291 rfl (lv_at hl 4 rfl) ?_
                                            refine va_get (D := (dC, dI)) (ci := 6) (v := .ref (ma 20)) (C := RX6) (T := TX6) (N := 44) hx hb hts kt_X6 hown hK hP 0 rfl rfl 20 (by decide) (kx_word hG kq_05_morder_0 rfl) (fun _ h9 => h9) rfl dX6_step_292 ?_
                                            refine lv_iload_n hx hb dX6_step_295 rfl (lv_at hl 5 rfl) ?_
                                            refine lv_iload hx hb dX6_step_296 (lv_at hl 0 rfl) ?_
                                            refine ki_iast (F := upI (F 20) sd pa) hx hb hK hP hD hS 15 14 rfl rfl (by omega) (by omega) (by decide) dX6_step_298 (fun H locs hP hD hS => ?_)
                                            have hP : va_P (dC, dI) kxCl (mW mo ma cs I (va_up (va_up (va_up (va_up (va_up (va_up (va_up (va_up (va_up F 20 (upI (F 20) sd pa)) 22 (upI (F 22) sd (-1))) 23 (upI (F 23) sd 0)) 24 (upI (F 24) sd 0)) 21 (upI (F 21) sd (vp_nar .boolean (iz 1)).toInt)) 22 (upI (upI (F 22) sd (-1)) sd 1)) 23 (upI (upI (F 23) sd 0) sd ((20 * p0) + pz))) 24 (upI (upI (F 24) sd 0) sd (en - pz))) 20 (upI (upI (F 20) sd pa) sd en))) H := hP
                                            have hD : va_D A (mW mo ma cs I (va_up (va_up (va_up (va_up (va_up (va_up (va_up (va_up (va_up F 20 (upI (F 20) sd pa)) 22 (upI (F 22) sd (-1))) 23 (upI (F 23) sd 0)) 24 (upI (F 24) sd 0)) 21 (upI (F 21) sd (vp_nar .boolean (iz 1)).toInt)) 22 (upI (upI (F 22) sd (-1)) sd 1)) 23 (upI (upI (F 23) sd 0) sd ((20 * p0) + pz))) 24 (upI (upI (F 24) sd 0) sd (en - pz))) 20 (upI (upI (F 20) sd pa) sd en))) := hD
                                            have ev20 : (va_up (va_up (va_up (va_up (va_up (va_up (va_up (va_up (va_up F 20 (upI (F 20) sd pa)) 22 (upI (F 22) sd (-1))) 23 (upI (F 23) sd 0)) 24 (upI (F 24) sd 0)) 21 (upI (F 21) sd (vp_nar .boolean (iz 1)).toInt)) 22 (upI (upI (F 22) sd (-1)) sd 1)) 23 (upI (upI (F 23) sd 0) sd ((20 * p0) + pz))) 24 (upI (upI (F 24) sd 0) sd (en - pz))) 20 (upI (upI (F 20) sd pa) sd en)) 20 sd = en := upI_self _ _ _
                                            have ev21 : (va_up (va_up (va_up (va_up (va_up (va_up (va_up (va_up (va_up F 20 (upI (F 20) sd pa)) 22 (upI (F 22) sd (-1))) 23 (upI (F 23) sd 0)) 24 (upI (F 24) sd 0)) 21 (upI (F 21) sd (vp_nar .boolean (iz 1)).toInt)) 22 (upI (upI (F 22) sd (-1)) sd 1)) 23 (upI (upI (F 23) sd 0) sd ((20 * p0) + pz))) 24 (upI (upI (F 24) sd 0) sd (en - pz))) 20 (upI (upI (F 20) sd pa) sd en)) 21 sd = (vp_nar .boolean (iz 1)).toInt := upI_self _ _ _
                                            have ev22 : (va_up (va_up (va_up (va_up (va_up (va_up (va_up (va_up (va_up F 20 (upI (F 20) sd pa)) 22 (upI (F 22) sd (-1))) 23 (upI (F 23) sd 0)) 24 (upI (F 24) sd 0)) 21 (upI (F 21) sd (vp_nar .boolean (iz 1)).toInt)) 22 (upI (upI (F 22) sd (-1)) sd 1)) 23 (upI (upI (F 23) sd 0) sd ((20 * p0) + pz))) 24 (upI (upI (F 24) sd 0) sd (en - pz))) 20 (upI (upI (F 20) sd pa) sd en)) 22 sd = 1 := upI_self _ _ _
                                            have ev23 : (va_up (va_up (va_up (va_up (va_up (va_up (va_up (va_up (va_up F 20 (upI (F 20) sd pa)) 22 (upI (F 22) sd (-1))) 23 (upI (F 23) sd 0)) 24 (upI (F 24) sd 0)) 21 (upI (F 21) sd (vp_nar .boolean (iz 1)).toInt)) 22 (upI (upI (F 22) sd (-1)) sd 1)) 23 (upI (upI (F 23) sd 0) sd ((20 * p0) + pz))) 24 (upI (upI (F 24) sd 0) sd (en - pz))) 20 (upI (upI (F 20) sd pa) sd en)) 23 sd = ((20 * p0) + pz) := upI_self _ _ _
                                            have ev24 : (va_up (va_up (va_up (va_up (va_up (va_up (va_up (va_up (va_up F 20 (upI (F 20) sd pa)) 22 (upI (F 22) sd (-1))) 23 (upI (F 23) sd 0)) 24 (upI (F 24) sd 0)) 21 (upI (F 21) sd (vp_nar .boolean (iz 1)).toInt)) 22 (upI (upI (F 22) sd (-1)) sd 1)) 23 (upI (upI (F 23) sd 0) sd ((20 * p0) + pz))) 24 (upI (upI (F 24) sd 0) sd (en - pz))) 20 (upI (upI (F 20) sd pa) sd en)) 24 sd = (en - pz) := upI_self _ _ _
                                            have ezn0 : (vp_nar .boolean (iz 1)).toInt = 1 := by decide
                                            have e_237 : (va_up (va_up (va_up (va_up (va_up (va_up (va_up (va_up (va_up F 20 (upI (F 20) sd pa)) 22 (upI (F 22) sd (-1))) 23 (upI (F 23) sd 0)) 24 (upI (F 24) sd 0)) 21 (upI (F 21) sd (vp_nar .boolean (iz 1)).toInt)) 22 (upI (upI (F 22) sd (-1)) sd 1)) 23 (upI (upI (F 23) sd 0) sd ((20 * p0) + pz))) 24 (upI (upI (F 24) sd 0) sd (en - pz))) 20 (upI (upI (F 20) sd pa) sd en)) 20 sd = en := upI_self _ _ _
                                            have e_238 : (va_up (va_up (va_up (va_up (va_up (va_up (va_up (va_up (va_up F 20 (upI (F 20) sd pa)) 22 (upI (F 22) sd (-1))) 23 (upI (F 23) sd 0)) 24 (upI (F 24) sd 0)) 21 (upI (F 21) sd (vp_nar .boolean (iz 1)).toInt)) 22 (upI (upI (F 22) sd (-1)) sd 1)) 23 (upI (upI (F 23) sd 0) sd ((20 * p0) + pz))) 24 (upI (upI (F 24) sd 0) sd (en - pz))) 20 (upI (upI (F 20) sd pa) sd en)) 22 sd = 1 := upI_self _ _ _
                                            have e_239 : (va_up (va_up (va_up (va_up (va_up (va_up (va_up (va_up (va_up F 20 (upI (F 20) sd pa)) 22 (upI (F 22) sd (-1))) 23 (upI (F 23) sd 0)) 24 (upI (F 24) sd 0)) 21 (upI (F 21) sd (vp_nar .boolean (iz 1)).toInt)) 22 (upI (upI (F 22) sd (-1)) sd 1)) 23 (upI (upI (F 23) sd 0) sd ((20 * p0) + pz))) 24 (upI (upI (F 24) sd 0) sd (en - pz))) 20 (upI (upI (F 20) sd pa) sd en)) 23 sd = (20 * p0) + pz := upI_self _ _ _
                                            have e_240 : (va_up (va_up (va_up (va_up (va_up (va_up (va_up (va_up (va_up F 20 (upI (F 20) sd pa)) 22 (upI (F 22) sd (-1))) 23 (upI (F 23) sd 0)) 24 (upI (F 24) sd 0)) 21 (upI (F 21) sd (vp_nar .boolean (iz 1)).toInt)) 22 (upI (upI (F 22) sd (-1)) sd 1)) 23 (upI (upI (F 23) sd 0) sd ((20 * p0) + pz))) 24 (upI (upI (F 24) sd 0) sd (en - pz))) 20 (upI (upI (F 20) sd pa) sd en)) 24 sd = en - pz := upI_self _ _ _
                                            have e_241 : (va_up (va_up (va_up (va_up (va_up (va_up (va_up (va_up (va_up F 20 (upI (F 20) sd pa)) 22 (upI (F 22) sd (-1))) 23 (upI (F 23) sd 0)) 24 (upI (F 24) sd 0)) 21 (upI (F 21) sd (vp_nar .boolean (iz 1)).toInt)) 22 (upI (upI (F 22) sd (-1)) sd 1)) 23 (upI (upI (F 23) sd 0) sd ((20 * p0) + pz))) 24 (upI (upI (F 24) sd 0) sd (en - pz))) 20 (upI (upI (F 20) sd pa) sd en)) 21 sd = (vp_nar .boolean (iz 1)).toInt := upI_self _ _ _
                                            rw [← hQe]
                                            exact mk_ret hx hb hr hlocks hP hD hK hS dX6_step_299 (⟨rfl, (mB_f (mB_f (mB_f (mB_f (mB_f (mB_f (mB_f (mB_f (mB_f hB 20 sd (by omega) (by omega)) 22 sd (by omega) (by omega)) 23 sd (by omega) (by omega)) 24 sd (by omega) (by omega)) 21 sd (iz_lo _) (iz_hi _)) 22 sd (by omega) (by omega)) 23 sd (by omega) (by omega)) 24 sd (by omega) (by omega)) 20 sd (by omega) (by omega)), (mfr.upF (mfr.upF (mfr.upF (mfr.upF (mfr.upF (mfr.upF (mfr.upF (mfr.upF (mfr.upF mfr.rf (by decide) _) (by decide) _) (by decide) _) (by decide) _) (by decide) _) (by decide) _) (by decide) _) (by decide) _) (by decide) _), (mo1.up (mo1.up (mo1.up (mo1.up (mo1.up (mo1.up (mo1.up (mo1.up (mo1.up mo1.rf 20 _) 22 _) 23 _) 24 _) 21 _) 22 _) 23 _) 24 _) 20 _), by omega, by omega, by omega, by rw [ev22, ev23, ev24]; exact Or.inr (Or.inr (Or.inl ⟨rfl, by omega, by omega⟩)), by rw [ev21]; exact Or.inr ezn0, by omega, by rw [ev20]; exact hboE, by rw [ev22, ev23, ev24, ev20, ev21, ezn0, kf_eu_num (f := kf_sg F p0) (fun i => rfl) hkzE]; exact hnum⟩)
                                          · skip
                                            refine lv_iinc (v := iz (pz + 1)) (lv' := [(3, .int (iz (pz + 1))), (6, .int (iz en)), (5, .int (iz (kf_sg F p0 pa))), (4, .int (iz ps)), (0, .ref mo), (1, .int (iz sd)), (2, .int (iz p0))]) hx hb dX6_step_256 hl (k := 3) rfl (iz_add pz 1) (by decide) rfl (fun ls hl => ?_)
                                            refine lv_goto (tgt := 234) hx hb dX6_step_259 (by decide) ?_
                                            exact ih234 (pz + 1) ⟨by omega, hkz.trans (kf_kz_step (by omega) (by omega))⟩ (by omega) _ _ hP hD hS ls (lv_sub hl [1, 2, 3, 0, 4, 5, 6] rfl)
                                    exact lp234 _ pa ⟨by omega, rfl⟩ (Nat.lt_succ_self _) _ _ hP hD hS ls (lv_sub hl [0, 1, 2, 3, 4, 5, 6] rfl)
                                  · omega
                        exact lp192 _ (pa + 1) ⟨by omega, Or.inl rfl, fun h9 => kf_ke_step (by omega) hkd⟩ (Nat.lt_succ_self _) _ _ hP hD hS ls (lv_sub hl [0, 1, 2, 3, 4, 5, 6] rfl)
                      · omega
                    · skip
                      have hK1 : kf_kI (kf_sg F p0) (F 5 p0) (I 14) (I 15) (F 20 sd) 0 (F 21 sd) = kf_kI (kf_sg F p0) (F 5 p0) (I 14) (I 15) pa 1 (F 21 sd) := by rcases hKy with ⟨h8, -⟩ | ⟨-, -, -, h9⟩ | ⟨-, h8, -⟩; exact absurd h8 (by omega); exact h9; exact absurd h8 (by omega)
                      have hbrk := hK1.trans (kf_kI_brk (kf_sg F p0) (F 5 p0) (I 14) (I 15) pa 1 (F 21 sd) (by omega) (by omega) rfl)
                      have hboP : kf_kbo (kf_sg F p0) (F 5 p0) (I 14) pa := Or.inr (by have h9 := hprev (by omega); omega)
                      refine lv_aload_n hx hb dX6_step_123 rfl (lv_at hl 2 rfl) ?_
                      refine va_get (D := (dC, dI)) (ci := 6) (v := .ref (ma 22)) (C := RX6) (T := TX6) (N := 44) hx hb hts kt_X6 hown hK hP 0 rfl rfl 22 (by decide) (kx_word hG kq_05_morder_2 rfl) (fun _ h9 => h9) rfl dX6_step_124 ?_
                      refine lv_iload_n hx hb dX6_step_127 rfl (lv_at hl 3 rfl) ?_
                      refine lv_iconst (v := iz 0) hx hb dX6_step_128 (by decide) ?_
                      refine ki_iast (F := upI (F 22) sd (-1)) hx hb hK hP hD hS 17 16 rfl rfl (by omega) (by omega) (by decide) dX6_step_129 (fun H locs hP hD hS => ?_)
                      have hP : va_P (dC, dI) kxCl (mW mo ma cs I (va_up (va_up (va_up (va_up (va_up F 20 (upI (F 20) sd pa)) 22 (upI (F 22) sd (-1))) 23 (upI (F 23) sd 0)) 24 (upI (F 24) sd 0)) 22 (upI (upI (F 22) sd (-1)) sd 0))) H := hP
                      have hD : va_D A (mW mo ma cs I (va_up (va_up (va_up (va_up (va_up F 20 (upI (F 20) sd pa)) 22 (upI (F 22) sd (-1))) 23 (upI (F 23) sd 0)) 24 (upI (F 24) sd 0)) 22 (upI (upI (F 22) sd (-1)) sd 0))) := hD
                      have ev20 : (va_up (va_up (va_up (va_up (va_up F 20 (upI (F 20) sd pa)) 22 (upI (F 22) sd (-1))) 23 (upI (F 23) sd 0)) 24 (upI (F 24) sd 0)) 22 (upI (upI (F 22) sd (-1)) sd 0)) 20 sd = pa := upI_self _ _ _
                      have ev21 : (va_up (va_up (va_up (va_up (va_up F 20 (upI (F 20) sd pa)) 22 (upI (F 22) sd (-1))) 23 (upI (F 23) sd 0)) 24 (upI (F 24) sd 0)) 22 (upI (upI (F 22) sd (-1)) sd 0)) 21 sd = F 21 sd := rfl
                      have ev22 : (va_up (va_up (va_up (va_up (va_up F 20 (upI (F 20) sd pa)) 22 (upI (F 22) sd (-1))) 23 (upI (F 23) sd 0)) 24 (upI (F 24) sd 0)) 22 (upI (upI (F 22) sd (-1)) sd 0)) 22 sd = 0 := upI_self _ _ _
                      have ev23 : (va_up (va_up (va_up (va_up (va_up F 20 (upI (F 20) sd pa)) 22 (upI (F 22) sd (-1))) 23 (upI (F 23) sd 0)) 24 (upI (F 24) sd 0)) 22 (upI (upI (F 22) sd (-1)) sd 0)) 23 sd = 0 := upI_self _ _ _
                      have ev24 : (va_up (va_up (va_up (va_up (va_up F 20 (upI (F 20) sd pa)) 22 (upI (F 22) sd (-1))) 23 (upI (F 23) sd 0)) 24 (upI (F 24) sd 0)) 22 (upI (upI (F 22) sd (-1)) sd 0)) 24 sd = 0 := upI_self _ _ _
                      have ezn0 : (vp_nar .boolean (iz 1)).toInt = 1 := by decide
                      have e_242 : (va_up (va_up (va_up (va_up (va_up F 20 (upI (F 20) sd pa)) 22 (upI (F 22) sd (-1))) 23 (upI (F 23) sd 0)) 24 (upI (F 24) sd 0)) 22 (upI (upI (F 22) sd (-1)) sd 0)) 20 sd = pa := upI_self _ _ _
                      have e_243 : (va_up (va_up (va_up (va_up (va_up F 20 (upI (F 20) sd pa)) 22 (upI (F 22) sd (-1))) 23 (upI (F 23) sd 0)) 24 (upI (F 24) sd 0)) 22 (upI (upI (F 22) sd (-1)) sd 0)) 22 sd = 0 := upI_self _ _ _
                      have e_244 : (va_up (va_up (va_up (va_up (va_up F 20 (upI (F 20) sd pa)) 22 (upI (F 22) sd (-1))) 23 (upI (F 23) sd 0)) 24 (upI (F 24) sd 0)) 22 (upI (upI (F 22) sd (-1)) sd 0)) 23 sd = 0 := upI_self _ _ _
                      have e_245 : (va_up (va_up (va_up (va_up (va_up F 20 (upI (F 20) sd pa)) 22 (upI (F 22) sd (-1))) 23 (upI (F 23) sd 0)) 24 (upI (F 24) sd 0)) 22 (upI (upI (F 22) sd (-1)) sd 0)) 24 sd = 0 := upI_self _ _ _
                      rw [← hQe]
                      exact mk_ret hx hb hr hlocks hP hD hK hS dX6_step_130 (⟨rfl, (mB_f (mB_f (mB_f (mB_f (mB_f hB 20 sd (by omega) (by omega)) 22 sd (by omega) (by omega)) 23 sd (by omega) (by omega)) 24 sd (by omega) (by omega)) 22 sd (by omega) (by omega)), (mfr.upF (mfr.upF (mfr.upF (mfr.upF (mfr.upF mfr.rf (by decide) _) (by decide) _) (by decide) _) (by decide) _) (by decide) _), (mo1.up (mo1.up (mo1.up (mo1.up (mo1.up mo1.rf 20 _) 22 _) 23 _) 24 _) 22 _), by omega, by omega, by omega, by rw [ev22, ev23, ev24]; exact Or.inr (Or.inl ⟨rfl, rfl, rfl⟩), by rw [ev21]; exact hbg, by omega, by rw [ev20]; exact hboP, by rw [ev22, ev23, ev24, ev20, ev21, hbrk]; rfl⟩)
              · omega
            · omega
          · skip
            refine ki_if_ne (tgt := 63) hx hb dX6_step_51 (by decide) (by omega) (by omega) (fun c_246 => ?_) (fun c_246 => ?_)
            · omega
            · skip
              refine lv_iconst (v := iz 1) hx hb dX6_step_54 (by decide) ?_
              refine lv_istore (lv' := [(4, .int (iz 1)), (3, .int (iz pa)), (0, .ref mo), (1, .int (iz sd)), (2, .int (iz p0))]) hx hb dX6_step_55 hl (by decide) rfl (fun ls hl => ?_)
              refine lv_iinc (v := iz (pa + 1)) (lv' := [(3, .int (iz (pa + 1))), (4, .int (iz 1)), (0, .ref mo), (1, .int (iz sd)), (2, .int (iz p0))]) hx hb dX6_step_57 hl (k := 1) rfl (iz_add pa 1) (by decide) rfl (fun ls hl => ?_)
              refine lv_goto (tgt := 10) hx hb dX6_step_60 (by decide) ?_
              exact ih10 (pa + 1) 1 ⟨by omega, by omega, stp pa ps (by omega) (by omega) (by omega) (by omega) hKy, fun _ => by rw [show pa + 1 - 1 = pa by omega]; omega⟩ (by omega) _ _ hP hD hS ls (lv_sub hl [1, 0, 2, 3, 4] rfl)
  exact lp10 _ (F 20 sd) 0 ⟨by omega, by omega, Or.inl ⟨rfl, rfl⟩, fun h9 => absurd h9 (by decide)⟩ (Nat.lt_succ_self _) _ _ hP hD hS ls (lv_sub hl [0, 1, 2, 3, 4] rfl)
set_option maxHeartbeats 4000000 in
set_option maxRecDepth 100000 in
theorem k_unitsDiffer2 (l : Launch) (dC : Nat → ClassId) (dI : Nat → Nat → Nat) (mo : Nat) (ma : Nat → Nat) (cs : Nat → ClassId) (I : Nat → Int) (F : Nat → Int → Int) (sz : Nat) (hB : mB I F) (hu0 : F 22 0 = 1 → 0 ≤ F 23 0 ∧ 0 ≤ F 24 0 ∧ F 23 0 + F 24 0 ≤ 1600) (hu1 : F 22 1 = 1 → 0 ≤ F 23 1 ∧ 0 ≤ F 24 1 ∧ F 23 1 + F 24 1 ≤ 1600) (hk0 : kf_euk (F 22 0) (F 23 0) (F 24 0)) (hk1 : kf_euk (F 22 1) (F 23 1) (F 24 1)) : mMi l yX6_unitsDiffer (.code yX6_unitsDiffer cX6_unitsDiffer 4 (some .int)) 0 0 dC dI mo ma cs I F [.ref mo] sz (fun (r : Int) (I' : Nat → Int) (F' : Nat → Int → Int) => I = I' ∧ F = F' ∧ ((-1 ≤ r ∧ r ≤ 1) ∧ kf_ud (F 4) (F 22 0) (F 23 0) (F 24 0) (F 22 1) (F 23 1) (F 24 1) r)) := by
  refine Met.ofW (cc := cX6_unitsDiffer) (maxL := 4) (ret := (some .int)) (by decide) rfl ?_
  intro p e s m args below meth c s₁ B hml hv
  obtain ⟨rfl, hsz, hP, hK, hD0, hG, hZ⟩ := hv
  have hx := B.exec
  have hb := B.bytes
  have hr := B.returns
  have hts := kx_hts (a := ([.ref mo] : List Value).toArray) hG
  have hown : s.vm.findClass RX6 = some m.cls := findClass_of_methodNamed B.named
  have hlocks := B.notSynchronized
  subst hsz
  have hD := hD0.self (sz := s.heap.size)
  generalize hAe : va_A (mW mo ma cs I F) s.heap.size = A at hD hZ ⊢
  have hA : ∀ q : Nat, s.heap.size ≤ q → A q := fun q h => by rw [← hAe]; exact Or.inr h
  have hS : va_S A s.heap s.heap [] := va_S.rf
  have hl := lv_entry ([.ref mo]) (n := 4) (Nat.le_of_ble_eq_true rfl)
  rw [lg_entry_eq]
  generalize (lg_sl ([.ref mo]) ++ List.replicate (4 - (lg_sl ([.ref mo])).length) Slot.unset).toArray = ls at hl ⊢
  have hl : lv_has ls 4 [(0, .ref mo)] := hl
  generalize hQe : MQ below (mQi dC dI mo ma cs A (fun (r : Int) (I' : Nat → Int) (F' : Nat → Int → Int) => I = I' ∧ F = F' ∧ ((-1 ≤ r ∧ r ≤ 1) ∧ kf_ud (F 4) (F 22 0) (F 23 0) (F 24 0) (F 22 1) (F 23 1) (F 24 1) r))) ([.ref mo] : List Value).toArray s 0 0 A = QQ
  have hw9 := hB.2 24 0
  refine lv_aload_n hx hb dX6_unitsDiffer_0 rfl (lv_at hl 0 rfl) ?_
  refine va_get (D := (dC, dI)) (ci := 6) (v := .ref (ma 22)) (C := RX6) (T := TX6) (N := 44) hx hb hts kt_X6 hown hK hP 0 rfl rfl 22 (by decide) (kx_word hG kq_05_morder_2 rfl) (fun _ h9 => h9) rfl dX6_unitsDiffer_1 ?_
  refine lv_iconst (v := iz 0) hx hb dX6_unitsDiffer_4 (by decide) ?_
  refine ki_iald (F := F 22) hx hb hK hP 17 16 rfl rfl (by omega) (by omega) (by decide) dX6_unitsDiffer_5 ?_
  have hbd_1 := hB.2 22 0
  refine lv_aload_n hx hb dX6_unitsDiffer_6 rfl (lv_at hl 0 rfl) ?_
  refine va_get (D := (dC, dI)) (ci := 6) (v := .ref (ma 22)) (C := RX6) (T := TX6) (N := 44) hx hb hts kt_X6 hown hK hP 0 rfl rfl 22 (by decide) (kx_word hG kq_05_morder_2 rfl) (fun _ h9 => h9) rfl dX6_unitsDiffer_7 ?_
  refine lv_iconst (v := iz 1) hx hb dX6_unitsDiffer_10 (by decide) ?_
  refine ki_iald (F := F 22) hx hb hK hP 17 16 rfl rfl (by omega) (by omega) (by decide) dX6_unitsDiffer_11 ?_
  have hbd_2 := hB.2 22 1
  refine ki_icmp_eq (tgt := 36) hx hb dX6_unitsDiffer_12 (by decide) (by omega) (by omega) (by omega) (by omega) (fun c_3 => ?_) (fun c_3 => ?_)
  · skip
    refine lv_aload_n hx hb dX6_unitsDiffer_36 rfl (lv_at hl 0 rfl) ?_
    refine va_get (D := (dC, dI)) (ci := 6) (v := .ref (ma 22)) (C := RX6) (T := TX6) (N := 44) hx hb hts kt_X6 hown hK hP 0 rfl rfl 22 (by decide) (kx_word hG kq_05_morder_2 rfl) (fun _ h9 => h9) rfl dX6_unitsDiffer_37 ?_
    refine lv_iconst (v := iz 0) hx hb dX6_unitsDiffer_40 (by decide) ?_
    refine ki_iald (F := F 22) hx hb hK hP 17 16 rfl rfl (by omega) (by omega) (by decide) dX6_unitsDiffer_41 ?_
    refine lv_iconst (v := iz 1) hx hb dX6_unitsDiffer_42 (by decide) ?_
    refine ki_icmp_eq (tgt := 86) hx hb dX6_unitsDiffer_43 (by decide) (by omega) (by omega) (by omega) (by omega) (fun c_4 => ?_) (fun c_4 => ?_)
    · skip
      refine lv_aload_n hx hb dX6_unitsDiffer_86 rfl (lv_at hl 0 rfl) ?_
      refine va_get (D := (dC, dI)) (ci := 6) (v := .ref (ma 24)) (C := RX6) (T := TX6) (N := 44) hx hb hts kt_X6 hown hK hP 0 rfl rfl 24 (by decide) (kx_word hG kq_05_morder_4 rfl) (fun _ h9 => h9) rfl dX6_unitsDiffer_87 ?_
      refine lv_iconst (v := iz 0) hx hb dX6_unitsDiffer_90 (by decide) ?_
      refine ki_iald (F := F 24) hx hb hK hP 19 18 rfl rfl (by omega) (by omega) (by decide) dX6_unitsDiffer_91 ?_
      have hbd_5 := hB.2 24 0
      refine lv_aload_n hx hb dX6_unitsDiffer_92 rfl (lv_at hl 0 rfl) ?_
      refine va_get (D := (dC, dI)) (ci := 6) (v := .ref (ma 24)) (C := RX6) (T := TX6) (N := 44) hx hb hts kt_X6 hown hK hP 0 rfl rfl 24 (by decide) (kx_word hG kq_05_morder_4 rfl) (fun _ h9 => h9) rfl dX6_unitsDiffer_93 ?_
      refine lv_iconst (v := iz 1) hx hb dX6_unitsDiffer_96 (by decide) ?_
      refine ki_iald (F := F 24) hx hb hK hP 19 18 rfl rfl (by omega) (by omega) (by decide) dX6_unitsDiffer_97 ?_
      have hbd_6 := hB.2 24 1
      refine ki_icmp_eq (tgt := 122) hx hb dX6_unitsDiffer_98 (by decide) (by omega) (by omega) (by omega) (by omega) (fun c_7 => ?_) (fun c_7 => ?_)
      · skip
        refine lv_iconst (v := iz 0) hx hb dX6_unitsDiffer_122 (by decide) ?_
        refine lv_istore_n (lv' := [(1, .int (iz 0)), (0, .ref mo)]) hx hb dX6_unitsDiffer_123 rfl hl (by decide) rfl (fun ls hl => ?_)
        have lp124 : ∀ (n : Nat) (k : Int), ((0 ≤ k ∧ k ≤ 1600) ∧ (∀ j, 0 ≤ j → j < k → F 4 (F 23 0 + j) = F 4 (F 23 1 + j))) → (F 24 0 - k).toNat < n → ∀ (H : Heap) (locs : List Loc), va_P (dC, dI) kxCl (mW mo ma cs I F) H → va_D A (mW mo ma cs I F) → va_S A s.heap H locs → ∀ ls : Array Slot, lv_has ls 4 [(1, .int (iz k)), (0, .ref mo)] → W p l e (headSpec [.code yX6_unitsDiffer cX6_unitsDiffer 4 (some .int)] ({ frames := 0, cells := 0, slots := 0, locals := 0 })).room s m ([.ref mo] : List Value).toArray below meth c H locs 0 0 QQ (F0 m 124 ls []) := by
          intro n
          induction n with
          | zero => intro k hinv hm; exact absurd hm (Nat.not_lt_zero _)
          | succ n ih124 =>
            intro k hinv hm H locs hP hD hS ls hl
            obtain ⟨hk, hdj⟩ := hinv
            refine lv_iload_n hx hb dX6_unitsDiffer_124 rfl (lv_at hl 0 rfl) ?_
            refine lv_aload_n hx hb dX6_unitsDiffer_125 rfl (lv_at hl 1 rfl) ?_
            refine va_get (D := (dC, dI)) (ci := 6) (v := .ref (ma 24)) (C := RX6) (T := TX6) (N := 44) hx hb hts kt_X6 hown hK hP 0 rfl rfl 24 (by decide) (kx_word hG kq_05_morder_4 rfl) (fun _ h9 => h9) rfl dX6_unitsDiffer_126 ?_
            refine lv_iconst (v := iz 0) hx hb dX6_unitsDiffer_129 (by decide) ?_
            refine ki_iald (F := F 24) hx hb hK hP 19 18 rfl rfl (by omega) (by omega) (by decide) dX6_unitsDiffer_130 ?_
            refine ki_icmp_ge (tgt := 184) hx hb dX6_unitsDiffer_131 (by decide) (by omega) (by omega) (by omega) (by omega) (fun c_8 => ?_) (fun c_8 => ?_)
            · skip
              refine lv_iconst (v := iz 0) hx hb dX6_unitsDiffer_184 (by decide) ?_
              rw [← hQe]
              exact mk_ireti hx hb hr hlocks hP hD hK hS dX6_unitsDiffer_185 (⟨rfl, rfl, by omega, by have e1 : F 22 0 = 1 := (by omega); have e2 : F 22 1 = 1 := (by omega); rw [e1, e2]; have e3 : F 24 1 = F 24 0 := (by omega); rw [e3]; exact kf_ud_e (fun j h1 h2 => hdj j h1 (by omega))⟩)
            · skip
              refine lv_aload_n hx hb dX6_unitsDiffer_134 rfl (lv_at hl 1 rfl) ?_
              refine va_get (D := (dC, dI)) (ci := 6) (v := .ref (ma 4)) (C := RX6) (T := TX6) (N := 44) hx hb hts kt_X6 hown hK hP 0 rfl rfl 4 (by decide) (kx_word hG kq_04_msmall_16 rfl) (fun _ h9 => h9) rfl dX6_unitsDiffer_135 ?_
              refine lv_aload_n hx hb dX6_unitsDiffer_138 rfl (lv_at hl 1 rfl) ?_
              refine va_get (D := (dC, dI)) (ci := 6) (v := .ref (ma 23)) (C := RX6) (T := TX6) (N := 44) hx hb hts kt_X6 hown hK hP 0 rfl rfl 23 (by decide) (kx_word hG kq_05_morder_3 rfl) (fun _ h9 => h9) rfl dX6_unitsDiffer_139 ?_
              refine lv_iconst (v := iz 0) hx hb dX6_unitsDiffer_142 (by decide) ?_
              refine ki_iald (F := F 23) hx hb hK hP 18 17 rfl rfl (by omega) (by omega) (by decide) dX6_unitsDiffer_143 ?_
              have hbd_9 := hB.2 23 0
              refine lv_iload_n hx hb dX6_unitsDiffer_144 rfl (lv_at hl 0 rfl) ?_
              refine ki_iadd hx hb dX6_unitsDiffer_145 ?_
              refine ki_iald (F := F 4) hx hb hK hP 3 2 rfl rfl (by omega) (by omega) (by decide) dX6_unitsDiffer_146 ?_
              have hbd_10 := hB.2 4 ((F 23 0) + k)
              refine lv_istore_n (lv' := [(2, .int (iz (F 4 ((F 23 0) + k)))), (1, .int (iz k)), (0, .ref mo)]) hx hb dX6_unitsDiffer_147 rfl hl (by decide) rfl (fun ls hl => ?_)
              refine lv_aload_n hx hb dX6_unitsDiffer_148 rfl (lv_at hl 2 rfl) ?_
              refine va_get (D := (dC, dI)) (ci := 6) (v := .ref (ma 4)) (C := RX6) (T := TX6) (N := 44) hx hb hts kt_X6 hown hK hP 0 rfl rfl 4 (by decide) (kx_word hG kq_04_msmall_16 rfl) (fun _ h9 => h9) rfl dX6_unitsDiffer_149 ?_
              refine lv_aload_n hx hb dX6_unitsDiffer_152 rfl (lv_at hl 2 rfl) ?_
              refine va_get (D := (dC, dI)) (ci := 6) (v := .ref (ma 23)) (C := RX6) (T := TX6) (N := 44) hx hb hts kt_X6 hown hK hP 0 rfl rfl 23 (by decide) (kx_word hG kq_05_morder_3 rfl) (fun _ h9 => h9) rfl dX6_unitsDiffer_153 ?_
              refine lv_iconst (v := iz 1) hx hb dX6_unitsDiffer_156 (by decide) ?_
              refine ki_iald (F := F 23) hx hb hK hP 18 17 rfl rfl (by omega) (by omega) (by decide) dX6_unitsDiffer_157 ?_
              have hbd_11 := hB.2 23 1
              refine lv_iload_n hx hb dX6_unitsDiffer_158 rfl (lv_at hl 1 rfl) ?_
              refine ki_iadd hx hb dX6_unitsDiffer_159 ?_
              refine ki_iald (F := F 4) hx hb hK hP 3 2 rfl rfl (by omega) (by omega) (by decide) dX6_unitsDiffer_160 ?_
              have hbd_12 := hB.2 4 ((F 23 1) + k)
              refine lv_istore_n (lv' := [(3, .int (iz (F 4 ((F 23 1) + k)))), (2, .int (iz (F 4 ((F 23 0) + k)))), (1, .int (iz k)), (0, .ref mo)]) hx hb dX6_unitsDiffer_161 rfl hl (by decide) rfl (fun ls hl => ?_)
              refine lv_iload_n hx hb dX6_unitsDiffer_162 rfl (lv_at hl 1 rfl) ?_
              refine lv_iload_n hx hb dX6_unitsDiffer_163 rfl (lv_at hl 0 rfl) ?_
              refine ki_icmp_eq (tgt := 178) hx hb dX6_unitsDiffer_164 (by decide) (by omega) (by omega) (by omega) (by omega) (fun c_13 => ?_) (fun c_13 => ?_)
              · skip
                refine lv_iinc (v := iz (k + 1)) (lv' := [(1, .int (iz (k + 1))), (3, .int (iz (F 4 ((F 23 1) + k)))), (2, .int (iz (F 4 ((F 23 0) + k)))), (0, .ref mo)]) hx hb dX6_unitsDiffer_178 hl (k := 2) rfl (iz_add k 1) (by decide) rfl (fun ls hl => ?_)
                refine lv_goto (tgt := 124) hx hb dX6_unitsDiffer_181 (by decide) ?_
                exact ih124 (k + 1) ⟨by omega, fun j h1 h2 => by by_cases c9 : j = k; rw [c9]; omega; exact hdj j h1 (by omega)⟩ (by omega) _ _ hP hD hS ls (lv_sub hl [0, 3] rfl)
              · skip
                refine lv_iload_n hx hb dX6_unitsDiffer_167 rfl (lv_at hl 1 rfl) ?_
                refine lv_iload_n hx hb dX6_unitsDiffer_168 rfl (lv_at hl 0 rfl) ?_
                refine ki_icmp_ge (tgt := 176) hx hb dX6_unitsDiffer_169 (by decide) (by omega) (by omega) (by omega) (by omega) (fun c_14 => ?_) (fun c_14 => ?_)
                · skip
                  refine lv_iconst (v := iz 1) hx hb dX6_unitsDiffer_176 (by decide) ?_
                  rw [← hQe]
                  exact mk_ireti hx hb hr hlocks hP hD hK hS dX6_unitsDiffer_177 (⟨rfl, rfl, by omega, by have e1 : F 22 0 = 1 := (by omega); have e2 : F 22 1 = 1 := (by omega); rw [e1, e2]; have e3 : F 24 1 = F 24 0 := (by omega); rw [e3]; exact kf_ud_d (by omega) (by omega) hdj (by omega)⟩)
                · skip
                  refine lv_iconst (v := iz (-1)) hx hb dX6_unitsDiffer_172 (by decide) ?_
                  refine lv_goto (tgt := 177) hx hb dX6_unitsDiffer_173 (by decide) ?_
                  rw [← hQe]
                  exact mk_ireti hx hb hr hlocks hP hD hK hS dX6_unitsDiffer_177 (⟨rfl, rfl, by omega, by have e1 : F 22 0 = 1 := (by omega); have e2 : F 22 1 = 1 := (by omega); rw [e1, e2]; have e3 : F 24 1 = F 24 0 := (by omega); rw [e3]; exact kf_ud_d (by omega) (by omega) hdj (by omega)⟩)
        exact lp124 _ 0 ⟨by omega, fun j h1 h2 => absurd h2 (by omega)⟩ (Nat.lt_succ_self _) _ _ hP hD hS ls (lv_sub hl [0, 1] rfl)
      · skip
        refine lv_aload_n hx hb dX6_unitsDiffer_101 rfl (lv_at hl 0 rfl) ?_
        refine va_get (D := (dC, dI)) (ci := 6) (v := .ref (ma 24)) (C := RX6) (T := TX6) (N := 44) hx hb hts kt_X6 hown hK hP 0 rfl rfl 24 (by decide) (kx_word hG kq_05_morder_4 rfl) (fun _ h9 => h9) rfl dX6_unitsDiffer_102 ?_
        refine lv_iconst (v := iz 0) hx hb dX6_unitsDiffer_105 (by decide) ?_
        refine ki_iald (F := F 24) hx hb hK hP 19 18 rfl rfl (by omega) (by omega) (by decide) dX6_unitsDiffer_106 ?_
        refine lv_aload_n hx hb dX6_unitsDiffer_107 rfl (lv_at hl 0 rfl) ?_
        refine va_get (D := (dC, dI)) (ci := 6) (v := .ref (ma 24)) (C := RX6) (T := TX6) (N := 44) hx hb hts kt_X6 hown hK hP 0 rfl rfl 24 (by decide) (kx_word hG kq_05_morder_4 rfl) (fun _ h9 => h9) rfl dX6_unitsDiffer_108 ?_
        refine lv_iconst (v := iz 1) hx hb dX6_unitsDiffer_111 (by decide) ?_
        refine ki_iald (F := F 24) hx hb hK hP 19 18 rfl rfl (by omega) (by omega) (by decide) dX6_unitsDiffer_112 ?_
        refine ki_icmp_ge (tgt := 120) hx hb dX6_unitsDiffer_113 (by decide) (by omega) (by omega) (by omega) (by omega) (fun c_15 => ?_) (fun c_15 => ?_)
        · skip
          refine lv_iconst (v := iz 1) hx hb dX6_unitsDiffer_120 (by decide) ?_
          rw [← hQe]
          exact mk_ireti hx hb hr hlocks hP hD hK hS dX6_unitsDiffer_121 (⟨rfl, rfl, by omega, by have e1 : F 22 0 = 1 := (by omega); have e2 : F 22 1 = 1 := (by omega); rw [e1, e2]; exact kf_ud_w (by omega)⟩)
        · skip
          refine lv_iconst (v := iz (-1)) hx hb dX6_unitsDiffer_116 (by decide) ?_
          refine lv_goto (tgt := 121) hx hb dX6_unitsDiffer_117 (by decide) ?_
          rw [← hQe]
          exact mk_ireti hx hb hr hlocks hP hD hK hS dX6_unitsDiffer_121 (⟨rfl, rfl, by omega, by have e1 : F 22 0 = 1 := (by omega); have e2 : F 22 1 = 1 := (by omega); rw [e1, e2]; exact kf_ud_w (by omega)⟩)
    · skip
      refine lv_aload_n hx hb dX6_unitsDiffer_46 rfl (lv_at hl 0 rfl) ?_
      refine va_get (D := (dC, dI)) (ci := 6) (v := .ref (ma 23)) (C := RX6) (T := TX6) (N := 44) hx hb hts kt_X6 hown hK hP 0 rfl rfl 23 (by decide) (kx_word hG kq_05_morder_3 rfl) (fun _ h9 => h9) rfl dX6_unitsDiffer_47 ?_
      refine lv_iconst (v := iz 0) hx hb dX6_unitsDiffer_50 (by decide) ?_
      refine ki_iald (F := F 23) hx hb hK hP 18 17 rfl rfl (by omega) (by omega) (by decide) dX6_unitsDiffer_51 ?_
      have hbd_16 := hB.2 23 0
      refine lv_aload_n hx hb dX6_unitsDiffer_52 rfl (lv_at hl 0 rfl) ?_
      refine va_get (D := (dC, dI)) (ci := 6) (v := .ref (ma 23)) (C := RX6) (T := TX6) (N := 44) hx hb hts kt_X6 hown hK hP 0 rfl rfl 23 (by decide) (kx_word hG kq_05_morder_3 rfl) (fun _ h9 => h9) rfl dX6_unitsDiffer_53 ?_
      refine lv_iconst (v := iz 1) hx hb dX6_unitsDiffer_56 (by decide) ?_
      refine ki_iald (F := F 23) hx hb hK hP 18 17 rfl rfl (by omega) (by omega) (by decide) dX6_unitsDiffer_57 ?_
      have hbd_17 := hB.2 23 1
      refine ki_icmp_ge (tgt := 65) hx hb dX6_unitsDiffer_58 (by decide) (by omega) (by omega) (by omega) (by omega) (fun c_18 => ?_) (fun c_18 => ?_)
      · skip
        refine lv_aload_n hx hb dX6_unitsDiffer_65 rfl (lv_at hl 0 rfl) ?_
        refine va_get (D := (dC, dI)) (ci := 6) (v := .ref (ma 23)) (C := RX6) (T := TX6) (N := 44) hx hb hts kt_X6 hown hK hP 0 rfl rfl 23 (by decide) (kx_word hG kq_05_morder_3 rfl) (fun _ h9 => h9) rfl dX6_unitsDiffer_66 ?_
        refine lv_iconst (v := iz 0) hx hb dX6_unitsDiffer_69 (by decide) ?_
        refine ki_iald (F := F 23) hx hb hK hP 18 17 rfl rfl (by omega) (by omega) (by decide) dX6_unitsDiffer_70 ?_
        refine lv_aload_n hx hb dX6_unitsDiffer_71 rfl (lv_at hl 0 rfl) ?_
        refine va_get (D := (dC, dI)) (ci := 6) (v := .ref (ma 23)) (C := RX6) (T := TX6) (N := 44) hx hb hts kt_X6 hown hK hP 0 rfl rfl 23 (by decide) (kx_word hG kq_05_morder_3 rfl) (fun _ h9 => h9) rfl dX6_unitsDiffer_72 ?_
        refine lv_iconst (v := iz 1) hx hb dX6_unitsDiffer_75 (by decide) ?_
        refine ki_iald (F := F 23) hx hb hK hP 18 17 rfl rfl (by omega) (by omega) (by decide) dX6_unitsDiffer_76 ?_
        refine ki_icmp_le (tgt := 84) hx hb dX6_unitsDiffer_77 (by decide) (by omega) (by omega) (by omega) (by omega) (fun c_19 => ?_) (fun c_19 => ?_)
        · skip
          refine lv_iconst (v := iz 0) hx hb dX6_unitsDiffer_84 (by decide) ?_
          rw [← hQe]
          exact mk_ireti hx hb hr hlocks hP hD hK hS dX6_unitsDiffer_85 (⟨rfl, rfl, by omega, kf_ud_v hk0 hk1 (by omega) (by omega) (by omega)⟩)
        · skip
          refine lv_iconst (v := iz 1) hx hb dX6_unitsDiffer_80 (by decide) ?_
          refine lv_goto (tgt := 85) hx hb dX6_unitsDiffer_81 (by decide) ?_
          rw [← hQe]
          exact mk_ireti hx hb hr hlocks hP hD hK hS dX6_unitsDiffer_85 (⟨rfl, rfl, by omega, kf_ud_v hk0 hk1 (by omega) (by omega) (by omega)⟩)
      · skip
        refine lv_iconst (v := iz (-1)) hx hb dX6_unitsDiffer_61 (by decide) ?_
        refine lv_goto (tgt := 85) hx hb dX6_unitsDiffer_62 (by decide) ?_
        rw [← hQe]
        exact mk_ireti hx hb hr hlocks hP hD hK hS dX6_unitsDiffer_85 (⟨rfl, rfl, by omega, kf_ud_v hk0 hk1 (by omega) (by omega) (by omega)⟩)
  · skip
    refine lv_aload_n hx hb dX6_unitsDiffer_15 rfl (lv_at hl 0 rfl) ?_
    refine va_get (D := (dC, dI)) (ci := 6) (v := .ref (ma 22)) (C := RX6) (T := TX6) (N := 44) hx hb hts kt_X6 hown hK hP 0 rfl rfl 22 (by decide) (kx_word hG kq_05_morder_2 rfl) (fun _ h9 => h9) rfl dX6_unitsDiffer_16 ?_
    refine lv_iconst (v := iz 0) hx hb dX6_unitsDiffer_19 (by decide) ?_
    refine ki_iald (F := F 22) hx hb hK hP 17 16 rfl rfl (by omega) (by omega) (by decide) dX6_unitsDiffer_20 ?_
    refine lv_aload_n hx hb dX6_unitsDiffer_21 rfl (lv_at hl 0 rfl) ?_
    refine va_get (D := (dC, dI)) (ci := 6) (v := .ref (ma 22)) (C := RX6) (T := TX6) (N := 44) hx hb hts kt_X6 hown hK hP 0 rfl rfl 22 (by decide) (kx_word hG kq_05_morder_2 rfl) (fun _ h9 => h9) rfl dX6_unitsDiffer_22 ?_
    refine lv_iconst (v := iz 1) hx hb dX6_unitsDiffer_25 (by decide) ?_
    refine ki_iald (F := F 22) hx hb hK hP 17 16 rfl rfl (by omega) (by omega) (by decide) dX6_unitsDiffer_26 ?_
    refine ki_icmp_ge (tgt := 34) hx hb dX6_unitsDiffer_27 (by decide) (by omega) (by omega) (by omega) (by omega) (fun c_20 => ?_) (fun c_20 => ?_)
    · skip
      refine lv_iconst (v := iz 1) hx hb dX6_unitsDiffer_34 (by decide) ?_
      rw [← hQe]
      exact mk_ireti hx hb hr hlocks hP hD hK hS dX6_unitsDiffer_35 (⟨rfl, rfl, by omega, kf_ud_gt hk0 hk1 (by omega)⟩)
    · skip
      refine lv_iconst (v := iz (-1)) hx hb dX6_unitsDiffer_30 (by decide) ?_
      refine lv_goto (tgt := 35) hx hb dX6_unitsDiffer_31 (by decide) ?_
      rw [← hQe]
      exact mk_ireti hx hb hr hlocks hP hD hK hS dX6_unitsDiffer_35 (⟨rfl, rfl, by omega, kf_ud_lt hk0 hk1 (by omega)⟩)
set_option maxHeartbeats 4000000 in
set_option maxRecDepth 100000 in
theorem k_signsDiffer2 (l : Launch) (dC : Nat → ClassId) (dI : Nat → Nat → Nat) (ca : Int) (da : Int) (sz : Nat) (hca1 : -2147483648 ≤ ca) (hca2 : ca < 2147483648) (hda1 : -2147483648 ≤ da) (hda2 : da < 2147483648) (hrca : 0 ≤ ca ∧ ca ≤ 255) (hrda : 0 ≤ da ∧ da ≤ 255) : mMs l yX6_signsDiffer (.code yX6_signsDiffer cX6_signsDiffer 4 (some .int)) 1 21 dC dI [.int (iz ca), .int (iz da)] sz (fun (r : Int) => (kf_rk ca < kf_rk da ∧ r = -1) ∨ (kf_rk da < kf_rk ca ∧ r = 1) ∨ (kf_rk ca = kf_rk da ∧ r = 0)) := by
  refine Met.ofW (cc := cX6_signsDiffer) (maxL := 4) (ret := (some .int)) (by decide) rfl ?_
  intro p e s m args below meth c s₁ B hml hv
  obtain ⟨rfl, hsz, hP, hK, hD0, hG, hZ⟩ := hv
  have hx := B.exec
  have hb := B.bytes
  have hr := B.returns
  have hts := kx_hts (a := ([.int (iz ca), .int (iz da)] : List Value).toArray) hG
  have hown : s.vm.findClass RX6 = some m.cls := findClass_of_methodNamed B.named
  have hlocks := B.notSynchronized
  subst hsz
  have hD := hD0.self (sz := s.heap.size)
  generalize hAe : va_A [] s.heap.size = A at hD hZ ⊢
  have hA : ∀ q : Nat, s.heap.size ≤ q → A q := fun q h => by rw [← hAe]; exact Or.inr h
  have hS : va_S A s.heap s.heap [] := va_S.rf
  have hl := lv_entry ([.int (iz ca), .int (iz da)]) (n := 4) (Nat.le_of_ble_eq_true rfl)
  rw [lg_entry_eq]
  generalize (lg_sl ([.int (iz ca), .int (iz da)]) ++ List.replicate (4 - (lg_sl ([.int (iz ca), .int (iz da)])).length) Slot.unset).toArray = ls at hl ⊢
  have hl : lv_has ls 4 [(0, .int (iz ca)), (1, .int (iz da))] := hl
  have hkc := kf_kl_sp ca
  have hkd := kf_kl_sp da
  have hrc := kf_rk_sp ca
  have hrd := kf_rk_sp da
  refine lv_iload_n hx hb dX6_signsDiffer_0 rfl (lv_at hl 0 rfl) ?_
  refine mk_calls (As := [.int (iz ca)]) (rest := []) ⟨hx, hb, hml, hown, hts⟩ (k_letterOf2 l dC dI ca s.heap.size (by omega) (by omega) hrca) (va_cwS 1 hts (kx_gS kq_05_morder_5 kq_05_morder_6 kq_04_msmall_6 kq_05_morder_7 rfl) rfl rfl rfl (by decide +kernel) ⟨Nat.le_of_ble_eq_true rfl, Nat.le_of_ble_eq_true rfl⟩) hP hD hK hG hZ hS hA rfl hl.1 rfl (Nat.le_of_ble_eq_true rfl) dX6_signsDiffer_1 ⟨Nat.le_of_ble_eq_true rfl, Nat.le_of_ble_eq_true rfl⟩ (fun z_1 H locs hq_2 hP hS => ?_)
  try dsimp only at hq_2
  refine ki_if_le (tgt := 14) hx hb dX6_signsDiffer_4 (by decide) (by omega) (by omega) (fun c_3 => ?_) (fun c_3 => ?_)
  · skip
    refine lv_iload_n hx hb dX6_signsDiffer_14 rfl (lv_at hl 0 rfl) ?_
    refine lv_sipush (v := iz 128) hx hb dX6_signsDiffer_15 (by decide) ?_
    refine ki_irem hx hb dX6_signsDiffer_18 (by omega) (by omega) (by omega) (by omega) ?_
    refine lv_istore_n (lv' := [(2, .int (iz (ca % 128))), (0, .int (iz ca)), (1, .int (iz da))]) hx hb dX6_signsDiffer_19 rfl hl (by decide) rfl (fun ls hl => ?_)
    refine lv_iload_n hx hb dX6_signsDiffer_20 rfl (lv_at hl 2 rfl) ?_
    refine mk_calls (As := [.int (iz da)]) (rest := []) ⟨hx, hb, hml, hown, hts⟩ (k_letterOf2 l dC dI da H.size (by omega) (by omega) hrda) (va_cwS 1 hts (kx_gS kq_05_morder_5 kq_05_morder_6 kq_04_msmall_6 kq_05_morder_7 rfl) rfl rfl rfl (by decide +kernel) ⟨Nat.le_of_ble_eq_true rfl, Nat.le_of_ble_eq_true rfl⟩) hP hD hK hG hZ hS hA rfl hl.1 rfl (Nat.le_of_ble_eq_true rfl) dX6_signsDiffer_21 ⟨Nat.le_of_ble_eq_true rfl, Nat.le_of_ble_eq_true rfl⟩ (fun z_4 H locs hq_5 hP hS => ?_)
    try dsimp only at hq_5
    refine ki_if_le (tgt := 34) hx hb dX6_signsDiffer_24 (by decide) (by omega) (by omega) (fun c_6 => ?_) (fun c_6 => ?_)
    · skip
      refine lv_iload_n hx hb dX6_signsDiffer_34 rfl (lv_at hl 2 rfl) ?_
      refine lv_sipush (v := iz 128) hx hb dX6_signsDiffer_35 (by decide) ?_
      refine ki_irem hx hb dX6_signsDiffer_38 (by omega) (by omega) (by omega) (by omega) ?_
      refine lv_istore_n (lv' := [(3, .int (iz (da % 128))), (2, .int (iz (ca % 128))), (0, .int (iz ca)), (1, .int (iz da))]) hx hb dX6_signsDiffer_39 rfl hl (by decide) rfl (fun ls hl => ?_)
      refine lv_iload_n hx hb dX6_signsDiffer_40 rfl (lv_at hl 1 rfl) ?_
      refine lv_iload_n hx hb dX6_signsDiffer_41 rfl (lv_at hl 0 rfl) ?_
      refine ki_icmp_eq (tgt := 56) hx hb dX6_signsDiffer_42 (by decide) (by omega) (by omega) (by omega) (by omega) (fun c_7 => ?_) (fun c_7 => ?_)
      · skip
        refine lv_iload_n hx hb dX6_signsDiffer_56 rfl (lv_at hl 2 rfl) ?_
        refine lv_sipush (v := iz 128) hx hb dX6_signsDiffer_57 (by decide) ?_
        refine ki_irem hx hb dX6_signsDiffer_60 (by omega) (by omega) (by omega) (by omega) ?_
        refine lv_iload_n hx hb dX6_signsDiffer_61 rfl (lv_at hl 3 rfl) ?_
        refine lv_sipush (v := iz 128) hx hb dX6_signsDiffer_62 (by decide) ?_
        refine ki_irem hx hb dX6_signsDiffer_65 (by omega) (by omega) (by omega) (by omega) ?_
        refine ki_icmp_eq (tgt := 88) hx hb dX6_signsDiffer_66 (by decide) (by omega) (by omega) (by omega) (by omega) (fun c_8 => ?_) (fun c_8 => ?_)
        · skip
          refine lv_iload_n hx hb dX6_signsDiffer_88 rfl (lv_at hl 2 rfl) ?_
          refine lv_iload_n hx hb dX6_signsDiffer_89 rfl (lv_at hl 3 rfl) ?_
          refine ki_icmp_ge (tgt := 97) hx hb dX6_signsDiffer_90 (by decide) (by omega) (by omega) (by omega) (by omega) (fun c_9 => ?_) (fun c_9 => ?_)
          · skip
            refine lv_iload_n hx hb dX6_signsDiffer_97 rfl (lv_at hl 2 rfl) ?_
            refine lv_iload_n hx hb dX6_signsDiffer_98 rfl (lv_at hl 3 rfl) ?_
            refine ki_icmp_le (tgt := 106) hx hb dX6_signsDiffer_99 (by decide) (by omega) (by omega) (by omega) (by omega) (fun c_10 => ?_) (fun c_10 => ?_)
            · skip
              refine lv_iconst (v := iz 0) hx hb dX6_signsDiffer_106 (by decide) ?_
              exact W.iret (v := iz 0) hx hb hr (fun t ht hW => ⟨⟨iz 0, 0, rfl, ⟨rfl, by omega⟩, by rw [ht]; exact hP, va_K.moved hW.alike hK, hD⟩, hS.F ht⟩) hS.2.2 dX6_signsDiffer_107
            · skip
              refine lv_iconst (v := iz 1) hx hb dX6_signsDiffer_102 (by decide) ?_
              refine lv_goto (tgt := 107) hx hb dX6_signsDiffer_103 (by decide) ?_
              exact W.iret (v := iz 1) hx hb hr (fun t ht hW => ⟨⟨iz 1, 1, rfl, ⟨rfl, by omega⟩, by rw [ht]; exact hP, va_K.moved hW.alike hK, hD⟩, hS.F ht⟩) hS.2.2 dX6_signsDiffer_107
          · skip
            refine lv_iconst (v := iz (-1)) hx hb dX6_signsDiffer_93 (by decide) ?_
            refine lv_goto (tgt := 107) hx hb dX6_signsDiffer_94 (by decide) ?_
            exact W.iret (v := iz (-1)) hx hb hr (fun t ht hW => ⟨⟨iz (-1), (-1), rfl, ⟨rfl, by omega⟩, by rw [ht]; exact hP, va_K.moved hW.alike hK, hD⟩, hS.F ht⟩) hS.2.2 dX6_signsDiffer_107
        · omega
      · skip
        refine lv_iload_n hx hb dX6_signsDiffer_45 rfl (lv_at hl 1 rfl) ?_
        refine lv_iload_n hx hb dX6_signsDiffer_46 rfl (lv_at hl 0 rfl) ?_
        refine ki_icmp_ge (tgt := 54) hx hb dX6_signsDiffer_47 (by decide) (by omega) (by omega) (by omega) (by omega) (fun c_11 => ?_) (fun c_11 => ?_)
        · skip
          refine lv_iconst (v := iz 1) hx hb dX6_signsDiffer_54 (by decide) ?_
          exact W.iret (v := iz 1) hx hb hr (fun t ht hW => ⟨⟨iz 1, 1, rfl, ⟨rfl, by omega⟩, by rw [ht]; exact hP, va_K.moved hW.alike hK, hD⟩, hS.F ht⟩) hS.2.2 dX6_signsDiffer_55
        · skip
          refine lv_iconst (v := iz (-1)) hx hb dX6_signsDiffer_50 (by decide) ?_
          refine lv_goto (tgt := 55) hx hb dX6_signsDiffer_51 (by decide) ?_
          exact W.iret (v := iz (-1)) hx hb hr (fun t ht hW => ⟨⟨iz (-1), (-1), rfl, ⟨rfl, by omega⟩, by rw [ht]; exact hP, va_K.moved hW.alike hK, hD⟩, hS.F ht⟩) hS.2.2 dX6_signsDiffer_55
    · skip
      refine lv_iload_n hx hb dX6_signsDiffer_27 rfl (lv_at hl 2 rfl) ?_
      refine mk_calls (As := [.int (iz da)]) (rest := []) ⟨hx, hb, hml, hown, hts⟩ (k_letterOf2 l dC dI da H.size (by omega) (by omega) hrda) (va_cwS 1 hts (kx_gS kq_05_morder_5 kq_05_morder_6 kq_04_msmall_6 kq_05_morder_7 rfl) rfl rfl rfl (by decide +kernel) ⟨Nat.le_of_ble_eq_true rfl, Nat.le_of_ble_eq_true rfl⟩) hP hD hK hG hZ hS hA rfl hl.1 rfl (Nat.le_of_ble_eq_true rfl) dX6_signsDiffer_28 ⟨Nat.le_of_ble_eq_true rfl, Nat.le_of_ble_eq_true rfl⟩ (fun z_12 H locs hq_13 hP hS => ?_)
      try dsimp only at hq_13
      refine lv_goto (tgt := 39) hx hb dX6_signsDiffer_31 (by decide) ?_
      refine lv_istore_n (lv' := [(3, .int (iz z_12)), (2, .int (iz (ca % 128))), (0, .int (iz ca)), (1, .int (iz da))]) hx hb dX6_signsDiffer_39 rfl hl (by decide) rfl (fun ls hl => ?_)
      refine lv_iload_n hx hb dX6_signsDiffer_40 rfl (lv_at hl 1 rfl) ?_
      refine lv_iload_n hx hb dX6_signsDiffer_41 rfl (lv_at hl 0 rfl) ?_
      refine ki_icmp_eq (tgt := 56) hx hb dX6_signsDiffer_42 (by decide) (by omega) (by omega) (by omega) (by omega) (fun c_14 => ?_) (fun c_14 => ?_)
      · skip
        refine lv_iload_n hx hb dX6_signsDiffer_56 rfl (lv_at hl 2 rfl) ?_
        refine lv_sipush (v := iz 128) hx hb dX6_signsDiffer_57 (by decide) ?_
        refine ki_irem hx hb dX6_signsDiffer_60 (by omega) (by omega) (by omega) (by omega) ?_
        refine lv_iload_n hx hb dX6_signsDiffer_61 rfl (lv_at hl 3 rfl) ?_
        refine lv_sipush (v := iz 128) hx hb dX6_signsDiffer_62 (by decide) ?_
        refine ki_irem hx hb dX6_signsDiffer_65 (by omega) (by omega) (by omega) (by omega) ?_
        refine ki_icmp_eq (tgt := 88) hx hb dX6_signsDiffer_66 (by decide) (by omega) (by omega) (by omega) (by omega) (fun c_15 => ?_) (fun c_15 => ?_)
        · skip
          refine lv_iload_n hx hb dX6_signsDiffer_88 rfl (lv_at hl 2 rfl) ?_
          refine lv_iload_n hx hb dX6_signsDiffer_89 rfl (lv_at hl 3 rfl) ?_
          refine ki_icmp_ge (tgt := 97) hx hb dX6_signsDiffer_90 (by decide) (by omega) (by omega) (by omega) (by omega) (fun c_16 => ?_) (fun c_16 => ?_)
          · skip
            refine lv_iload_n hx hb dX6_signsDiffer_97 rfl (lv_at hl 2 rfl) ?_
            refine lv_iload_n hx hb dX6_signsDiffer_98 rfl (lv_at hl 3 rfl) ?_
            refine ki_icmp_le (tgt := 106) hx hb dX6_signsDiffer_99 (by decide) (by omega) (by omega) (by omega) (by omega) (fun c_17 => ?_) (fun c_17 => ?_)
            · skip
              refine lv_iconst (v := iz 0) hx hb dX6_signsDiffer_106 (by decide) ?_
              exact W.iret (v := iz 0) hx hb hr (fun t ht hW => ⟨⟨iz 0, 0, rfl, ⟨rfl, by omega⟩, by rw [ht]; exact hP, va_K.moved hW.alike hK, hD⟩, hS.F ht⟩) hS.2.2 dX6_signsDiffer_107
            · skip
              refine lv_iconst (v := iz 1) hx hb dX6_signsDiffer_102 (by decide) ?_
              refine lv_goto (tgt := 107) hx hb dX6_signsDiffer_103 (by decide) ?_
              exact W.iret (v := iz 1) hx hb hr (fun t ht hW => ⟨⟨iz 1, 1, rfl, ⟨rfl, by omega⟩, by rw [ht]; exact hP, va_K.moved hW.alike hK, hD⟩, hS.F ht⟩) hS.2.2 dX6_signsDiffer_107
          · skip
            refine lv_iconst (v := iz (-1)) hx hb dX6_signsDiffer_93 (by decide) ?_
            refine lv_goto (tgt := 107) hx hb dX6_signsDiffer_94 (by decide) ?_
            exact W.iret (v := iz (-1)) hx hb hr (fun t ht hW => ⟨⟨iz (-1), (-1), rfl, ⟨rfl, by omega⟩, by rw [ht]; exact hP, va_K.moved hW.alike hK, hD⟩, hS.F ht⟩) hS.2.2 dX6_signsDiffer_107
        · skip
          refine lv_iload_n hx hb dX6_signsDiffer_69 rfl (lv_at hl 2 rfl) ?_
          refine lv_sipush (v := iz 128) hx hb dX6_signsDiffer_70 (by decide) ?_
          refine ki_irem hx hb dX6_signsDiffer_73 (by omega) (by omega) (by omega) (by omega) ?_
          refine lv_iload_n hx hb dX6_signsDiffer_74 rfl (lv_at hl 3 rfl) ?_
          refine lv_sipush (v := iz 128) hx hb dX6_signsDiffer_75 (by decide) ?_
          refine ki_irem hx hb dX6_signsDiffer_78 (by omega) (by omega) (by omega) (by omega) ?_
          refine ki_icmp_le (tgt := 86) hx hb dX6_signsDiffer_79 (by decide) (by omega) (by omega) (by omega) (by omega) (fun c_18 => ?_) (fun c_18 => ?_)
          · skip
            refine lv_iconst (v := iz 1) hx hb dX6_signsDiffer_86 (by decide) ?_
            exact W.iret (v := iz 1) hx hb hr (fun t ht hW => ⟨⟨iz 1, 1, rfl, ⟨rfl, by omega⟩, by rw [ht]; exact hP, va_K.moved hW.alike hK, hD⟩, hS.F ht⟩) hS.2.2 dX6_signsDiffer_87
          · skip
            refine lv_iconst (v := iz (-1)) hx hb dX6_signsDiffer_82 (by decide) ?_
            refine lv_goto (tgt := 87) hx hb dX6_signsDiffer_83 (by decide) ?_
            exact W.iret (v := iz (-1)) hx hb hr (fun t ht hW => ⟨⟨iz (-1), (-1), rfl, ⟨rfl, by omega⟩, by rw [ht]; exact hP, va_K.moved hW.alike hK, hD⟩, hS.F ht⟩) hS.2.2 dX6_signsDiffer_87
      · skip
        refine lv_iload_n hx hb dX6_signsDiffer_45 rfl (lv_at hl 1 rfl) ?_
        refine lv_iload_n hx hb dX6_signsDiffer_46 rfl (lv_at hl 0 rfl) ?_
        refine ki_icmp_ge (tgt := 54) hx hb dX6_signsDiffer_47 (by decide) (by omega) (by omega) (by omega) (by omega) (fun c_19 => ?_) (fun c_19 => ?_)
        · skip
          refine lv_iconst (v := iz 1) hx hb dX6_signsDiffer_54 (by decide) ?_
          exact W.iret (v := iz 1) hx hb hr (fun t ht hW => ⟨⟨iz 1, 1, rfl, ⟨rfl, by omega⟩, by rw [ht]; exact hP, va_K.moved hW.alike hK, hD⟩, hS.F ht⟩) hS.2.2 dX6_signsDiffer_55
        · skip
          refine lv_iconst (v := iz (-1)) hx hb dX6_signsDiffer_50 (by decide) ?_
          refine lv_goto (tgt := 55) hx hb dX6_signsDiffer_51 (by decide) ?_
          exact W.iret (v := iz (-1)) hx hb hr (fun t ht hW => ⟨⟨iz (-1), (-1), rfl, ⟨rfl, by omega⟩, by rw [ht]; exact hP, va_K.moved hW.alike hK, hD⟩, hS.F ht⟩) hS.2.2 dX6_signsDiffer_55
  · skip
    refine lv_iload_n hx hb dX6_signsDiffer_7 rfl (lv_at hl 0 rfl) ?_
    refine mk_calls (As := [.int (iz ca)]) (rest := []) ⟨hx, hb, hml, hown, hts⟩ (k_letterOf2 l dC dI ca H.size (by omega) (by omega) hrca) (va_cwS 1 hts (kx_gS kq_05_morder_5 kq_05_morder_6 kq_04_msmall_6 kq_05_morder_7 rfl) rfl rfl rfl (by decide +kernel) ⟨Nat.le_of_ble_eq_true rfl, Nat.le_of_ble_eq_true rfl⟩) hP hD hK hG hZ hS hA rfl hl.1 rfl (Nat.le_of_ble_eq_true rfl) dX6_signsDiffer_8 ⟨Nat.le_of_ble_eq_true rfl, Nat.le_of_ble_eq_true rfl⟩ (fun z_20 H locs hq_21 hP hS => ?_)
    try dsimp only at hq_21
    refine lv_goto (tgt := 19) hx hb dX6_signsDiffer_11 (by decide) ?_
    refine lv_istore_n (lv' := [(2, .int (iz z_20)), (0, .int (iz ca)), (1, .int (iz da))]) hx hb dX6_signsDiffer_19 rfl hl (by decide) rfl (fun ls hl => ?_)
    refine lv_iload_n hx hb dX6_signsDiffer_20 rfl (lv_at hl 2 rfl) ?_
    refine mk_calls (As := [.int (iz da)]) (rest := []) ⟨hx, hb, hml, hown, hts⟩ (k_letterOf2 l dC dI da H.size (by omega) (by omega) hrda) (va_cwS 1 hts (kx_gS kq_05_morder_5 kq_05_morder_6 kq_04_msmall_6 kq_05_morder_7 rfl) rfl rfl rfl (by decide +kernel) ⟨Nat.le_of_ble_eq_true rfl, Nat.le_of_ble_eq_true rfl⟩) hP hD hK hG hZ hS hA rfl hl.1 rfl (Nat.le_of_ble_eq_true rfl) dX6_signsDiffer_21 ⟨Nat.le_of_ble_eq_true rfl, Nat.le_of_ble_eq_true rfl⟩ (fun z_22 H locs hq_23 hP hS => ?_)
    try dsimp only at hq_23
    refine ki_if_le (tgt := 34) hx hb dX6_signsDiffer_24 (by decide) (by omega) (by omega) (fun c_24 => ?_) (fun c_24 => ?_)
    · skip
      refine lv_iload_n hx hb dX6_signsDiffer_34 rfl (lv_at hl 2 rfl) ?_
      refine lv_sipush (v := iz 128) hx hb dX6_signsDiffer_35 (by decide) ?_
      refine ki_irem hx hb dX6_signsDiffer_38 (by omega) (by omega) (by omega) (by omega) ?_
      refine lv_istore_n (lv' := [(3, .int (iz (da % 128))), (2, .int (iz z_20)), (0, .int (iz ca)), (1, .int (iz da))]) hx hb dX6_signsDiffer_39 rfl hl (by decide) rfl (fun ls hl => ?_)
      refine lv_iload_n hx hb dX6_signsDiffer_40 rfl (lv_at hl 1 rfl) ?_
      refine lv_iload_n hx hb dX6_signsDiffer_41 rfl (lv_at hl 0 rfl) ?_
      refine ki_icmp_eq (tgt := 56) hx hb dX6_signsDiffer_42 (by decide) (by omega) (by omega) (by omega) (by omega) (fun c_25 => ?_) (fun c_25 => ?_)
      · skip
        refine lv_iload_n hx hb dX6_signsDiffer_56 rfl (lv_at hl 2 rfl) ?_
        refine lv_sipush (v := iz 128) hx hb dX6_signsDiffer_57 (by decide) ?_
        refine ki_irem hx hb dX6_signsDiffer_60 (by omega) (by omega) (by omega) (by omega) ?_
        refine lv_iload_n hx hb dX6_signsDiffer_61 rfl (lv_at hl 3 rfl) ?_
        refine lv_sipush (v := iz 128) hx hb dX6_signsDiffer_62 (by decide) ?_
        refine ki_irem hx hb dX6_signsDiffer_65 (by omega) (by omega) (by omega) (by omega) ?_
        refine ki_icmp_eq (tgt := 88) hx hb dX6_signsDiffer_66 (by decide) (by omega) (by omega) (by omega) (by omega) (fun c_26 => ?_) (fun c_26 => ?_)
        · skip
          refine lv_iload_n hx hb dX6_signsDiffer_88 rfl (lv_at hl 2 rfl) ?_
          refine lv_iload_n hx hb dX6_signsDiffer_89 rfl (lv_at hl 3 rfl) ?_
          refine ki_icmp_ge (tgt := 97) hx hb dX6_signsDiffer_90 (by decide) (by omega) (by omega) (by omega) (by omega) (fun c_27 => ?_) (fun c_27 => ?_)
          · skip
            refine lv_iload_n hx hb dX6_signsDiffer_97 rfl (lv_at hl 2 rfl) ?_
            refine lv_iload_n hx hb dX6_signsDiffer_98 rfl (lv_at hl 3 rfl) ?_
            refine ki_icmp_le (tgt := 106) hx hb dX6_signsDiffer_99 (by decide) (by omega) (by omega) (by omega) (by omega) (fun c_28 => ?_) (fun c_28 => ?_)
            · skip
              refine lv_iconst (v := iz 0) hx hb dX6_signsDiffer_106 (by decide) ?_
              exact W.iret (v := iz 0) hx hb hr (fun t ht hW => ⟨⟨iz 0, 0, rfl, ⟨rfl, by omega⟩, by rw [ht]; exact hP, va_K.moved hW.alike hK, hD⟩, hS.F ht⟩) hS.2.2 dX6_signsDiffer_107
            · skip
              refine lv_iconst (v := iz 1) hx hb dX6_signsDiffer_102 (by decide) ?_
              refine lv_goto (tgt := 107) hx hb dX6_signsDiffer_103 (by decide) ?_
              exact W.iret (v := iz 1) hx hb hr (fun t ht hW => ⟨⟨iz 1, 1, rfl, ⟨rfl, by omega⟩, by rw [ht]; exact hP, va_K.moved hW.alike hK, hD⟩, hS.F ht⟩) hS.2.2 dX6_signsDiffer_107
          · skip
            refine lv_iconst (v := iz (-1)) hx hb dX6_signsDiffer_93 (by decide) ?_
            refine lv_goto (tgt := 107) hx hb dX6_signsDiffer_94 (by decide) ?_
            exact W.iret (v := iz (-1)) hx hb hr (fun t ht hW => ⟨⟨iz (-1), (-1), rfl, ⟨rfl, by omega⟩, by rw [ht]; exact hP, va_K.moved hW.alike hK, hD⟩, hS.F ht⟩) hS.2.2 dX6_signsDiffer_107
        · skip
          refine lv_iload_n hx hb dX6_signsDiffer_69 rfl (lv_at hl 2 rfl) ?_
          refine lv_sipush (v := iz 128) hx hb dX6_signsDiffer_70 (by decide) ?_
          refine ki_irem hx hb dX6_signsDiffer_73 (by omega) (by omega) (by omega) (by omega) ?_
          refine lv_iload_n hx hb dX6_signsDiffer_74 rfl (lv_at hl 3 rfl) ?_
          refine lv_sipush (v := iz 128) hx hb dX6_signsDiffer_75 (by decide) ?_
          refine ki_irem hx hb dX6_signsDiffer_78 (by omega) (by omega) (by omega) (by omega) ?_
          refine ki_icmp_le (tgt := 86) hx hb dX6_signsDiffer_79 (by decide) (by omega) (by omega) (by omega) (by omega) (fun c_29 => ?_) (fun c_29 => ?_)
          · skip
            refine lv_iconst (v := iz 1) hx hb dX6_signsDiffer_86 (by decide) ?_
            exact W.iret (v := iz 1) hx hb hr (fun t ht hW => ⟨⟨iz 1, 1, rfl, ⟨rfl, by omega⟩, by rw [ht]; exact hP, va_K.moved hW.alike hK, hD⟩, hS.F ht⟩) hS.2.2 dX6_signsDiffer_87
          · skip
            refine lv_iconst (v := iz (-1)) hx hb dX6_signsDiffer_82 (by decide) ?_
            refine lv_goto (tgt := 87) hx hb dX6_signsDiffer_83 (by decide) ?_
            exact W.iret (v := iz (-1)) hx hb hr (fun t ht hW => ⟨⟨iz (-1), (-1), rfl, ⟨rfl, by omega⟩, by rw [ht]; exact hP, va_K.moved hW.alike hK, hD⟩, hS.F ht⟩) hS.2.2 dX6_signsDiffer_87
      · skip
        refine lv_iload_n hx hb dX6_signsDiffer_45 rfl (lv_at hl 1 rfl) ?_
        refine lv_iload_n hx hb dX6_signsDiffer_46 rfl (lv_at hl 0 rfl) ?_
        refine ki_icmp_ge (tgt := 54) hx hb dX6_signsDiffer_47 (by decide) (by omega) (by omega) (by omega) (by omega) (fun c_30 => ?_) (fun c_30 => ?_)
        · skip
          refine lv_iconst (v := iz 1) hx hb dX6_signsDiffer_54 (by decide) ?_
          exact W.iret (v := iz 1) hx hb hr (fun t ht hW => ⟨⟨iz 1, 1, rfl, ⟨rfl, by omega⟩, by rw [ht]; exact hP, va_K.moved hW.alike hK, hD⟩, hS.F ht⟩) hS.2.2 dX6_signsDiffer_55
        · skip
          refine lv_iconst (v := iz (-1)) hx hb dX6_signsDiffer_50 (by decide) ?_
          refine lv_goto (tgt := 55) hx hb dX6_signsDiffer_51 (by decide) ?_
          exact W.iret (v := iz (-1)) hx hb hr (fun t ht hW => ⟨⟨iz (-1), (-1), rfl, ⟨rfl, by omega⟩, by rw [ht]; exact hP, va_K.moved hW.alike hK, hD⟩, hS.F ht⟩) hS.2.2 dX6_signsDiffer_55
    · skip
      refine lv_iload_n hx hb dX6_signsDiffer_27 rfl (lv_at hl 2 rfl) ?_
      refine mk_calls (As := [.int (iz da)]) (rest := []) ⟨hx, hb, hml, hown, hts⟩ (k_letterOf2 l dC dI da H.size (by omega) (by omega) hrda) (va_cwS 1 hts (kx_gS kq_05_morder_5 kq_05_morder_6 kq_04_msmall_6 kq_05_morder_7 rfl) rfl rfl rfl (by decide +kernel) ⟨Nat.le_of_ble_eq_true rfl, Nat.le_of_ble_eq_true rfl⟩) hP hD hK hG hZ hS hA rfl hl.1 rfl (Nat.le_of_ble_eq_true rfl) dX6_signsDiffer_28 ⟨Nat.le_of_ble_eq_true rfl, Nat.le_of_ble_eq_true rfl⟩ (fun z_31 H locs hq_32 hP hS => ?_)
      try dsimp only at hq_32
      refine lv_goto (tgt := 39) hx hb dX6_signsDiffer_31 (by decide) ?_
      refine lv_istore_n (lv' := [(3, .int (iz z_31)), (2, .int (iz z_20)), (0, .int (iz ca)), (1, .int (iz da))]) hx hb dX6_signsDiffer_39 rfl hl (by decide) rfl (fun ls hl => ?_)
      refine lv_iload_n hx hb dX6_signsDiffer_40 rfl (lv_at hl 1 rfl) ?_
      refine lv_iload_n hx hb dX6_signsDiffer_41 rfl (lv_at hl 0 rfl) ?_
      refine ki_icmp_eq (tgt := 56) hx hb dX6_signsDiffer_42 (by decide) (by omega) (by omega) (by omega) (by omega) (fun c_33 => ?_) (fun c_33 => ?_)
      · skip
        refine lv_iload_n hx hb dX6_signsDiffer_56 rfl (lv_at hl 2 rfl) ?_
        refine lv_sipush (v := iz 128) hx hb dX6_signsDiffer_57 (by decide) ?_
        refine ki_irem hx hb dX6_signsDiffer_60 (by omega) (by omega) (by omega) (by omega) ?_
        refine lv_iload_n hx hb dX6_signsDiffer_61 rfl (lv_at hl 3 rfl) ?_
        refine lv_sipush (v := iz 128) hx hb dX6_signsDiffer_62 (by decide) ?_
        refine ki_irem hx hb dX6_signsDiffer_65 (by omega) (by omega) (by omega) (by omega) ?_
        refine ki_icmp_eq (tgt := 88) hx hb dX6_signsDiffer_66 (by decide) (by omega) (by omega) (by omega) (by omega) (fun c_34 => ?_) (fun c_34 => ?_)
        · skip
          refine lv_iload_n hx hb dX6_signsDiffer_88 rfl (lv_at hl 2 rfl) ?_
          refine lv_iload_n hx hb dX6_signsDiffer_89 rfl (lv_at hl 3 rfl) ?_
          refine ki_icmp_ge (tgt := 97) hx hb dX6_signsDiffer_90 (by decide) (by omega) (by omega) (by omega) (by omega) (fun c_35 => ?_) (fun c_35 => ?_)
          · skip
            refine lv_iload_n hx hb dX6_signsDiffer_97 rfl (lv_at hl 2 rfl) ?_
            refine lv_iload_n hx hb dX6_signsDiffer_98 rfl (lv_at hl 3 rfl) ?_
            refine ki_icmp_le (tgt := 106) hx hb dX6_signsDiffer_99 (by decide) (by omega) (by omega) (by omega) (by omega) (fun c_36 => ?_) (fun c_36 => ?_)
            · skip
              refine lv_iconst (v := iz 0) hx hb dX6_signsDiffer_106 (by decide) ?_
              exact W.iret (v := iz 0) hx hb hr (fun t ht hW => ⟨⟨iz 0, 0, rfl, ⟨rfl, by omega⟩, by rw [ht]; exact hP, va_K.moved hW.alike hK, hD⟩, hS.F ht⟩) hS.2.2 dX6_signsDiffer_107
            · skip
              refine lv_iconst (v := iz 1) hx hb dX6_signsDiffer_102 (by decide) ?_
              refine lv_goto (tgt := 107) hx hb dX6_signsDiffer_103 (by decide) ?_
              exact W.iret (v := iz 1) hx hb hr (fun t ht hW => ⟨⟨iz 1, 1, rfl, ⟨rfl, by omega⟩, by rw [ht]; exact hP, va_K.moved hW.alike hK, hD⟩, hS.F ht⟩) hS.2.2 dX6_signsDiffer_107
          · skip
            refine lv_iconst (v := iz (-1)) hx hb dX6_signsDiffer_93 (by decide) ?_
            refine lv_goto (tgt := 107) hx hb dX6_signsDiffer_94 (by decide) ?_
            exact W.iret (v := iz (-1)) hx hb hr (fun t ht hW => ⟨⟨iz (-1), (-1), rfl, ⟨rfl, by omega⟩, by rw [ht]; exact hP, va_K.moved hW.alike hK, hD⟩, hS.F ht⟩) hS.2.2 dX6_signsDiffer_107
        · skip
          refine lv_iload_n hx hb dX6_signsDiffer_69 rfl (lv_at hl 2 rfl) ?_
          refine lv_sipush (v := iz 128) hx hb dX6_signsDiffer_70 (by decide) ?_
          refine ki_irem hx hb dX6_signsDiffer_73 (by omega) (by omega) (by omega) (by omega) ?_
          refine lv_iload_n hx hb dX6_signsDiffer_74 rfl (lv_at hl 3 rfl) ?_
          refine lv_sipush (v := iz 128) hx hb dX6_signsDiffer_75 (by decide) ?_
          refine ki_irem hx hb dX6_signsDiffer_78 (by omega) (by omega) (by omega) (by omega) ?_
          refine ki_icmp_le (tgt := 86) hx hb dX6_signsDiffer_79 (by decide) (by omega) (by omega) (by omega) (by omega) (fun c_37 => ?_) (fun c_37 => ?_)
          · skip
            refine lv_iconst (v := iz 1) hx hb dX6_signsDiffer_86 (by decide) ?_
            exact W.iret (v := iz 1) hx hb hr (fun t ht hW => ⟨⟨iz 1, 1, rfl, ⟨rfl, by omega⟩, by rw [ht]; exact hP, va_K.moved hW.alike hK, hD⟩, hS.F ht⟩) hS.2.2 dX6_signsDiffer_87
          · skip
            refine lv_iconst (v := iz (-1)) hx hb dX6_signsDiffer_82 (by decide) ?_
            refine lv_goto (tgt := 87) hx hb dX6_signsDiffer_83 (by decide) ?_
            exact W.iret (v := iz (-1)) hx hb hr (fun t ht hW => ⟨⟨iz (-1), (-1), rfl, ⟨rfl, by omega⟩, by rw [ht]; exact hP, va_K.moved hW.alike hK, hD⟩, hS.F ht⟩) hS.2.2 dX6_signsDiffer_87
      · skip
        refine lv_iload_n hx hb dX6_signsDiffer_45 rfl (lv_at hl 1 rfl) ?_
        refine lv_iload_n hx hb dX6_signsDiffer_46 rfl (lv_at hl 0 rfl) ?_
        refine ki_icmp_ge (tgt := 54) hx hb dX6_signsDiffer_47 (by decide) (by omega) (by omega) (by omega) (by omega) (fun c_38 => ?_) (fun c_38 => ?_)
        · skip
          refine lv_iconst (v := iz 1) hx hb dX6_signsDiffer_54 (by decide) ?_
          exact W.iret (v := iz 1) hx hb hr (fun t ht hW => ⟨⟨iz 1, 1, rfl, ⟨rfl, by omega⟩, by rw [ht]; exact hP, va_K.moved hW.alike hK, hD⟩, hS.F ht⟩) hS.2.2 dX6_signsDiffer_55
        · skip
          refine lv_iconst (v := iz (-1)) hx hb dX6_signsDiffer_50 (by decide) ?_
          refine lv_goto (tgt := 55) hx hb dX6_signsDiffer_51 (by decide) ?_
          exact W.iret (v := iz (-1)) hx hb hr (fun t ht hW => ⟨⟨iz (-1), (-1), rfl, ⟨rfl, by omega⟩, by rw [ht]; exact hP, va_K.moved hW.alike hK, hD⟩, hS.F ht⟩) hS.2.2 dX6_signsDiffer_55
