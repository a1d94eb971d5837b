/-! the reference: how two entries stand -/
/-- what stands at the other side stays -/
def mo1 (sd : Int) (F F' : Nat → Int → Int) : Prop := ∀ k j, j ≠ sd → F' k j = F k j
theorem mo1.rf {sd : Int} {F : Nat → Int → Int} : mo1 sd F F := fun _ _ _ => rfl
theorem mo1.up {sd : Int} {F F1 : Nat → Int → Int} (h : mo1 sd F F1) (k0 : Nat) (v : Int) : mo1 sd F (va_up F1 k0 (upI (F1 k0) sd v)) := by
  intro k j hj
  by_cases e : k = k0
  · subst e
    rw [va_up_self, upI_ne _ _ hj]
    exact h k j hj
  · rw [va_up_ne _ _ e]
    exact h k j hj
theorem kq_05_morder_0 : (Cond.fieldLink RX6 60 "IndexSortModel" "place" "[I") ∈ lw_tbl := by decide +kernel
theorem kq_05_morder_1 : (Cond.fieldLink RX6 63 "IndexSortModel" "begun" "[Z") ∈ lw_tbl := by decide +kernel
theorem kq_05_morder_2 : (Cond.fieldLink RX6 66 "IndexSortModel" "unit" "[I") ∈ lw_tbl := by decide +kernel
theorem kq_05_morder_3 : (Cond.fieldLink RX6 69 "IndexSortModel" "value" "[I") ∈ lw_tbl := by decide +kernel
theorem kq_05_morder_4 : (Cond.fieldLink RX6 72 "IndexSortModel" "wide" "[I") ∈ lw_tbl := by decide +kernel
theorem kq_05_morder_5 : (Cond.methodLink RX6 133 yX6_letterOf) ∈ lw_tbl := by decide +kernel
theorem kq_05_morder_6 : (Cond.static yX6_letterOf) ∈ lw_tbl := by decide +kernel
theorem kq_05_morder_7 : (Cond.code yX6_letterOf cX6_letterOf 2 (some .int)) ∈ lw_tbl := by decide +kernel
theorem kq_05_morder_8 : (Cond.methodLink RX6 136 yX6_isNumber) ∈ lw_tbl := by decide +kernel
theorem kq_05_morder_9 : (Cond.static yX6_isNumber) ∈ lw_tbl := by decide +kernel
theorem kq_05_morder_10 : (Cond.code yX6_isNumber cX6_isNumber 1 (some .boolean)) ∈ lw_tbl := by decide +kernel
set_option maxHeartbeats 4000000 in
set_option maxRecDepth 100000 in
theorem k_isNumber (l : Launch) (dC : Nat → ClassId) (dI : Nat → Nat → Nat) (p0 : Int) (sz : Nat) (hp01 : -2147483648 ≤ p0) (hp02 : p0 < 2147483648) : mMs l yX6_isNumber (.code yX6_isNumber cX6_isNumber 1 (some .boolean)) 0 0 dC dI [.int (iz p0)] sz (fun (r : Int) => r = 0 ∨ r = 1) := by
  refine Met.ofW (cc := cX6_isNumber) (maxL := 1) (ret := (some .boolean)) (by decide) rfl ?_
  intro p e s m args below meth c s₁ B hml hv
  obtain ⟨rfl, hsz, hP, hK, hD0, hG, hZ⟩ := hv
  have hx := B.exec
  have hb := B.bytes
  have hr := B.returns
  have hts := kx_hts (a := ([.int (iz p0)] : List Value).toArray) hG
  have hown : s.vm.findClass RX6 = some m.cls := findClass_of_methodNamed B.named
  have hlocks := B.notSynchronized
  subst hsz
  have hD := hD0.self (sz := s.heap.size)
  generalize hAe : va_A [] s.heap.size = A at hD hZ ⊢
  have hA : ∀ q : Nat, s.heap.size ≤ q → A q := fun q h => by rw [← hAe]; exact Or.inr h
  have hS : va_S A s.heap s.heap [] := va_S.rf
  have hl := lv_entry ([.int (iz p0)]) (n := 1) (Nat.le_of_ble_eq_true rfl)
  rw [lg_entry_eq]
  generalize (lg_sl ([.int (iz p0)]) ++ List.replicate (1 - (lg_sl ([.int (iz p0)])).length) Slot.unset).toArray = ls at hl ⊢
  have hl : lv_has ls 1 [(0, .int (iz p0))] := hl
  refine lv_iload_n hx hb dX6_isNumber_0 rfl (lv_at hl 0 rfl) ?_
  refine lv_bipush (v := iz 48) hx hb dX6_isNumber_1 (by decide) ?_
  refine ki_icmp_lt (tgt := 16) hx hb dX6_isNumber_3 (by decide) (by omega) (by omega) (by omega) (by omega) (fun c_1 => ?_) (fun c_1 => ?_)
  · skip
    refine lv_iconst (v := iz 0) hx hb dX6_isNumber_16 (by decide) ?_
    exact W.zret (v := iz 0) hx hb hr (mz_bool (by omega)).1 (fun t ht hW => ⟨⟨iz 0, 0, rfl, ⟨rfl, by omega⟩, by rw [ht]; exact hP, va_K.moved hW.alike hK, hD⟩, hS.F ht⟩) hS.2.2 dX6_isNumber_17
  · skip
    refine lv_iload_n hx hb dX6_isNumber_6 rfl (lv_at hl 0 rfl) ?_
    refine lv_bipush (v := iz 57) hx hb dX6_isNumber_7 (by decide) ?_
    refine ki_icmp_gt (tgt := 16) hx hb dX6_isNumber_9 (by decide) (by omega) (by omega) (by omega) (by omega) (fun c_2 => ?_) (fun c_2 => ?_)
    · skip
      refine lv_iconst (v := iz 0) hx hb dX6_isNumber_16 (by decide) ?_
      exact W.zret (v := iz 0) hx hb hr (mz_bool (by omega)).1 (fun t ht hW => ⟨⟨iz 0, 0, rfl, ⟨rfl, by omega⟩, by rw [ht]; exact hP, va_K.moved hW.alike hK, hD⟩, hS.F ht⟩) hS.2.2 dX6_isNumber_17
    · skip
      refine lv_iconst (v := iz 1) hx hb dX6_isNumber_12 (by decide) ?_
      refine lv_goto (tgt := 17) hx hb dX6_isNumber_13 (by decide) ?_
      exact W.zret (v := iz 1) hx hb hr (mz_bool (by omega)).1 (fun t ht hW => ⟨⟨iz 1, 1, rfl, ⟨rfl, by omega⟩, by rw [ht]; exact hP, va_K.moved hW.alike hK, hD⟩, hS.F ht⟩) hS.2.2 dX6_isNumber_17
set_option maxHeartbeats 4000000 in
set_option maxRecDepth 100000 in
theorem k_letterOf (l : Launch) (dC : Nat → ClassId) (dI : Nat → Nat → Nat) (p0 : Int) (sz : Nat) (hp01 : -2147483648 ≤ p0) (hp02 : p0 < 2147483648) : mMs l yX6_letterOf (.code yX6_letterOf cX6_letterOf 2 (some .int)) 0 0 dC dI [.int (iz p0)] sz (fun (r : Int) => -2147483648 ≤ r ∧ r < 2147483648) := by
  refine Met.ofW (cc := cX6_letterOf) (maxL := 2) (ret := (some .int)) (by decide) rfl ?_
  intro p e s m args below meth c s₁ B hml hv
  obtain ⟨rfl, hsz, hP, hK, hD0, hG, hZ⟩ := hv
  have hx := B.exec
  have hb := B.bytes
  have hr := B.returns
  have hts := kx_hts (a := ([.int (iz p0)] : List Value).toArray) hG
  have hown : s.vm.findClass RX6 = some m.cls := findClass_of_methodNamed B.named
  have hlocks := B.notSynchronized
  subst hsz
  have hD := hD0.self (sz := s.heap.size)
  generalize hAe : va_A [] s.heap.size = A at hD hZ ⊢
  have hA : ∀ q : Nat, s.heap.size ≤ q → A q := fun q h => by rw [← hAe]; exact Or.inr h
  have hS : va_S A s.heap s.heap [] := va_S.rf
  have hl := lv_entry ([.int (iz p0)]) (n := 2) (Nat.le_of_ble_eq_true rfl)
  rw [lg_entry_eq]
  generalize (lg_sl ([.int (iz p0)]) ++ List.replicate (2 - (lg_sl ([.int (iz p0)])).length) Slot.unset).toArray = ls at hl ⊢
  have hl : lv_has ls 2 [(0, .int (iz p0))] := hl
  refine lv_iload_n hx hb dX6_letterOf_0 rfl (lv_at hl 0 rfl) ?_
  refine lv_sipush (v := iz 128) hx hb dX6_letterOf_1 (by decide) ?_
  refine lv_irem hx hb dX6_letterOf_4 (show ¬ iz 128 = 0 by decide) ?_
  refine ki_any (fun z_1 hz_1a hz_1b => ?_)
  refine lv_istore_n (lv' := [(1, .int (iz z_1)), (0, .int (iz p0))]) hx hb dX6_letterOf_5 rfl hl (by decide) rfl (fun ls hl => ?_)
  refine lv_iload_n hx hb dX6_letterOf_6 rfl (lv_at hl 0 rfl) ?_
  refine lv_bipush (v := iz 97) hx hb dX6_letterOf_7 (by decide) ?_
  refine ki_icmp_lt (tgt := 22) hx hb dX6_letterOf_9 (by decide) (by omega) (by omega) (by omega) (by omega) (fun c_2 => ?_) (fun c_2 => ?_)
  · skip
    refine lv_iload_n hx hb dX6_letterOf_22 rfl (lv_at hl 0 rfl) ?_
    refine lv_bipush (v := iz 65) hx hb dX6_letterOf_23 (by decide) ?_
    refine ki_icmp_lt (tgt := 41) hx hb dX6_letterOf_25 (by decide) (by omega) (by omega) (by omega) (by omega) (fun c_3 => ?_) (fun c_3 => ?_)
    · skip
      refine lv_iconst (v := iz 0) hx hb dX6_letterOf_41 (by decide) ?_
      exact W.iret (v := iz 0) hx hb hr (fun t ht hW => ⟨⟨iz 0, 0, rfl, ⟨rfl, by omega⟩, by rw [ht]; exact hP, va_K.moved hW.alike hK, hD⟩, hS.F ht⟩) hS.2.2 dX6_letterOf_42
    · skip
      refine lv_iload_n hx hb dX6_letterOf_28 rfl (lv_at hl 0 rfl) ?_
      refine lv_bipush (v := iz 90) hx hb dX6_letterOf_29 (by decide) ?_
      refine ki_icmp_gt (tgt := 41) hx hb dX6_letterOf_31 (by decide) (by omega) (by omega) (by omega) (by omega) (fun c_4 => ?_) (fun c_4 => ?_)
      · skip
        refine lv_iconst (v := iz 0) hx hb dX6_letterOf_41 (by decide) ?_
        exact W.iret (v := iz 0) hx hb hr (fun t ht hW => ⟨⟨iz 0, 0, rfl, ⟨rfl, by omega⟩, by rw [ht]; exact hP, va_K.moved hW.alike hK, hD⟩, hS.F ht⟩) hS.2.2 dX6_letterOf_42
      · skip
        refine lv_iload_n hx hb dX6_letterOf_34 rfl (lv_at hl 0 rfl) ?_
        refine lv_bipush (v := iz 32) hx hb dX6_letterOf_35 (by decide) ?_
        refine ki_iadd hx hb dX6_letterOf_37 ?_
        refine lv_goto (tgt := 42) hx hb dX6_letterOf_38 (by decide) ?_
        exact W.iret (v := iz (z_1 + 32)) hx hb hr (fun t ht hW => ⟨⟨iz (z_1 + 32), z_1 + 32, rfl, ⟨rfl, by omega⟩, by rw [ht]; exact hP, va_K.moved hW.alike hK, hD⟩, hS.F ht⟩) hS.2.2 dX6_letterOf_42
  · skip
    refine lv_iload_n hx hb dX6_letterOf_12 rfl (lv_at hl 0 rfl) ?_
    refine lv_bipush (v := iz 122) hx hb dX6_letterOf_13 (by decide) ?_
    refine ki_icmp_gt (tgt := 22) hx hb dX6_letterOf_15 (by decide) (by omega) (by omega) (by omega) (by omega) (fun c_5 => ?_) (fun c_5 => ?_)
    · skip
      refine lv_iload_n hx hb dX6_letterOf_22 rfl (lv_at hl 0 rfl) ?_
      refine lv_bipush (v := iz 65) hx hb dX6_letterOf_23 (by decide) ?_
      refine ki_icmp_lt (tgt := 41) hx hb dX6_letterOf_25 (by decide) (by omega) (by omega) (by omega) (by omega) (fun c_6 => ?_) (fun c_6 => ?_)
      · skip
        refine lv_iconst (v := iz 0) hx hb dX6_letterOf_41 (by decide) ?_
        exact W.iret (v := iz 0) hx hb hr (fun t ht hW => ⟨⟨iz 0, 0, rfl, ⟨rfl, by omega⟩, by rw [ht]; exact hP, va_K.moved hW.alike hK, hD⟩, hS.F ht⟩) hS.2.2 dX6_letterOf_42
      · skip
        refine lv_iload_n hx hb dX6_letterOf_28 rfl (lv_at hl 0 rfl) ?_
        refine lv_bipush (v := iz 90) hx hb dX6_letterOf_29 (by decide) ?_
        refine ki_icmp_gt (tgt := 41) hx hb dX6_letterOf_31 (by decide) (by omega) (by omega) (by omega) (by omega) (fun c_7 => ?_) (fun c_7 => ?_)
        · skip
          refine lv_iconst (v := iz 0) hx hb dX6_letterOf_41 (by decide) ?_
          exact W.iret (v := iz 0) hx hb hr (fun t ht hW => ⟨⟨iz 0, 0, rfl, ⟨rfl, by omega⟩, by rw [ht]; exact hP, va_K.moved hW.alike hK, hD⟩, hS.F ht⟩) hS.2.2 dX6_letterOf_42
        · skip
          refine lv_iload_n hx hb dX6_letterOf_34 rfl (lv_at hl 0 rfl) ?_
          refine lv_bipush (v := iz 32) hx hb dX6_letterOf_35 (by decide) ?_
          refine ki_iadd hx hb dX6_letterOf_37 ?_
          refine lv_goto (tgt := 42) hx hb dX6_letterOf_38 (by decide) ?_
          exact W.iret (v := iz (z_1 + 32)) hx hb hr (fun t ht hW => ⟨⟨iz (z_1 + 32), z_1 + 32, rfl, ⟨rfl, by omega⟩, by rw [ht]; exact hP, va_K.moved hW.alike hK, hD⟩, hS.F ht⟩) hS.2.2 dX6_letterOf_42
    · skip
      refine lv_iload_n hx hb dX6_letterOf_18 rfl (lv_at hl 0 rfl) ?_
      refine lv_goto (tgt := 42) hx hb dX6_letterOf_19 (by decide) ?_
      exact W.iret (v := iz z_1) hx hb hr (fun t ht hW => ⟨⟨iz z_1, z_1, rfl, ⟨rfl, by omega⟩, by rw [ht]; exact hP, va_K.moved hW.alike hK, hD⟩, hS.F ht⟩) hS.2.2 dX6_letterOf_42
set_option maxHeartbeats 4000000 in
set_option maxRecDepth 100000 in
theorem k_begin (l : Launch) (dC : Nat → ClassId) (dI : Nat → Nat → Nat) (mo : Nat) (ma : Nat → Nat) (cs : Nat → ClassId) (I : Nat → Int) (F : Nat → Int → Int) (sd : Int) (sz : Nat) (hB : mB I F) (hsd : 0 ≤ sd ∧ sd < 2) : mMv l yX6_begin (.code yX6_begin cX6_begin 2 none) 0 0 dC dI mo ma cs I F [.ref mo, .int (iz sd)] sz (fun (I' : Nat → Int) (F' : Nat → Int → Int) => I = I' ∧ (va_up (va_up F 20 (upI (F 20) sd 0)) 21 (upI (F 21) sd (vp_nar .boolean (iz 0)).toInt)) = F') := by
  refine Met.ofW (cc := cX6_begin) (maxL := 2) (ret := none) (by decide) rfl ?_
  intro p e s m args below meth c s₁ B hml hv
  obtain ⟨rfl, hsz, hP, hK, hD0, hG, hZ⟩ := hv
  have hx := B.exec
  have hb := B.bytes
  have hr := B.returns
  have hts := kx_hts (a := ([.ref mo, .int (iz sd)] : List Value).toArray) hG
  have hown : s.vm.findClass RX6 = some m.cls := findClass_of_methodNamed B.named
  have hlocks := B.notSynchronized
  subst hsz
  have hD := hD0.self (sz := s.heap.size)
  generalize hAe : va_A (mW mo ma cs I F) s.heap.size = A at hD hZ ⊢
  have hA : ∀ q : Nat, s.heap.size ≤ q → A q := fun q h => by rw [← hAe]; exact Or.inr h
  have hS : va_S A s.heap s.heap [] := va_S.rf
  have hl := lv_entry ([.ref mo, .int (iz sd)]) (n := 2) (Nat.le_of_ble_eq_true rfl)
  rw [lg_entry_eq]
  generalize (lg_sl ([.ref mo, .int (iz sd)]) ++ List.replicate (2 - (lg_sl ([.ref mo, .int (iz sd)])).length) Slot.unset).toArray = ls at hl ⊢
  have hl : lv_has ls 2 [(0, .ref mo), (1, .int (iz sd))] := hl
  refine lv_aload_n hx hb dX6_begin_0 rfl (lv_at hl 0 rfl) ?_
  refine va_get (D := (dC, dI)) (ci := 6) (v := .ref (ma 20)) (C := RX6) (T := TX6) (N := 44) hx hb hts kt_X6 hown hK hP 0 rfl rfl 20 (by decide) (kx_word hG kq_05_morder_0 rfl) (fun _ h9 => h9) rfl dX6_begin_1 ?_
  refine lv_iload_n hx hb dX6_begin_4 rfl (lv_at hl 1 rfl) ?_
  refine lv_iconst (v := iz 0) hx hb dX6_begin_5 (by decide) ?_
  refine ki_iast (F := F 20) hx hb hK hP hD hS 15 14 rfl rfl (by omega) (by omega) (by decide) dX6_begin_6 (fun H locs hP hD hS => ?_)
  have hP : va_P (dC, dI) kxCl (mW mo ma cs I (va_up F 20 (upI (F 20) sd 0))) H := hP
  have hD : va_D A (mW mo ma cs I (va_up F 20 (upI (F 20) sd 0))) := hD
  refine lv_aload_n hx hb dX6_begin_7 rfl (lv_at hl 0 rfl) ?_
  refine va_get (D := (dC, dI)) (ci := 6) (v := .ref (ma 21)) (C := RX6) (T := TX6) (N := 44) hx hb hts kt_X6 hown hK hP 0 rfl rfl 21 (by decide) (kx_word hG kq_05_morder_1 rfl) (fun _ h9 => h9) rfl dX6_begin_8 ?_
  refine lv_iload_n hx hb dX6_begin_11 rfl (lv_at hl 1 rfl) ?_
  refine lv_iconst (v := iz 0) hx hb dX6_begin_12 (by decide) ?_
  refine ki_zast (F := F 21) hx hb hK hP hD hS 16 15 rfl rfl (by omega) (by omega) (by decide) dX6_begin_13 (fun H locs hP hD hS => ?_)
  have hP : va_P (dC, dI) kxCl (mW mo ma cs I (va_up (va_up F 20 (upI (F 20) sd 0)) 21 (upI (F 21) sd (vp_nar .boolean (iz 0)).toInt))) H := hP
  have hD : va_D A (mW mo ma cs I (va_up (va_up F 20 (upI (F 20) sd 0)) 21 (upI (F 21) sd (vp_nar .boolean (iz 0)).toInt))) := hD
  exact mk_ret hx hb hr hlocks hP hD hK hS dX6_begin_14 (⟨rfl, rfl⟩)
set_option maxHeartbeats 4000000 in
set_option maxRecDepth 100000 in
/-- step: the next unit of an entry -/
theorem k_step (l : Launch) (dC : Nat → ClassId) (dI : Nat → Nat → Nat) (mo : Nat) (ma : Nat → Nat) (cs : Nat → ClassId) (I : Nat → Int) (F : Nat → Int → Int) (sd : Int) (p0 : Int) (sz : Nat) (hB : mB I F) (hsd : 0 ≤ sd ∧ sd < 2) (h0 : 0 ≤ p0 ∧ p0 < 80) (hn : ∀ e, 0 ≤ F 5 e ∧ F 5 e ≤ 20) (hpl : 0 ≤ F 20 sd ∧ F 20 sd ≤ F 5 p0) : mMv l yX6_step (.code yX6_step cX6_step 7 none) 1 21 dC dI mo ma cs I F [.ref mo, .int (iz sd), .int (iz p0)] sz (fun (I' : Nat → Int) (F' : Nat → Int → Int) => I = I' ∧ mB I F' ∧ mfr [] [20, 21, 22, 23, 24] I F I F' ∧ mo1 sd F F' ∧ (0 ≤ F' 20 sd ∧ F' 20 sd ≤ F 5 p0 ∧ F 20 sd ≤ F' 20 sd) ∧ (F' 22 sd = -1 ∨ F 20 sd < F' 20 sd) ∧ (F' 22 sd = 1 → 0 ≤ F' 23 sd ∧ 0 ≤ F' 24 sd ∧ F' 23 sd + F' 24 sd ≤ 1600)) := by
  refine Met.ofW (cc := cX6_step) (maxL := 7) (ret := none) (by decide) rfl ?_
  intro p e s m args below meth c s₁ B hml hv
  obtain ⟨rfl, hsz, hP, hK, hD0, hG, hZ⟩ := hv
  have hx := B.exec
  have hb := B.bytes
  have hr := B.returns
  have hts := kx_hts (a := ([.ref mo, .int (iz sd), .int (iz p0)] : List Value).toArray) hG
  have hown : s.vm.findClass RX6 = some m.cls := findClass_of_methodNamed B.named
  have hlocks := B.notSynchronized
  subst hsz
  have hD := hD0.self (sz := s.heap.size)
  generalize hAe : va_A (mW mo ma cs I F) s.heap.size = A at hD hZ ⊢
  have hA : ∀ q : Nat, s.heap.size ≤ q → A q := fun q h => by rw [← hAe]; exact Or.inr h
  have hS : va_S A s.heap s.heap [] := va_S.rf
  have hl := lv_entry ([.ref mo, .int (iz sd), .int (iz p0)]) (n := 7) (Nat.le_of_ble_eq_true rfl)
  rw [lg_entry_eq]
  generalize (lg_sl ([.ref mo, .int (iz sd), .int (iz p0)]) ++ List.replicate (7 - (lg_sl ([.ref mo, .int (iz sd), .int (iz p0)])).length) Slot.unset).toArray = ls at hl ⊢
  have hl : lv_has ls 7 [(0, .ref mo), (1, .int (iz sd)), (2, .int (iz p0))] := hl
  generalize hQe : MQ below (mQv dC dI mo ma cs A (fun (I' : Nat → Int) (F' : Nat → Int → Int) => I = I' ∧ mB I F' ∧ mfr [] [20, 21, 22, 23, 24] I F I F' ∧ mo1 sd F F' ∧ (0 ≤ F' 20 sd ∧ F' 20 sd ≤ F 5 p0 ∧ F 20 sd ≤ F' 20 sd) ∧ (F' 22 sd = -1 ∨ F 20 sd < F' 20 sd) ∧ (F' 22 sd = 1 → 0 ≤ F' 23 sd ∧ 0 ≤ F' 24 sd ∧ F' 23 sd + F' 24 sd ≤ 1600))) ([.ref mo, .int (iz sd), .int (iz p0)] : List Value).toArray s 0 0 A = QQ
  have hnp := hn p0
  refine lv_aload_n hx hb dX6_step_0 rfl (lv_at hl 0 rfl) ?_
  refine va_get (D := (dC, dI)) (ci := 6) (v := .ref (ma 20)) (C := RX6) (T := TX6) (N := 44) hx hb hts kt_X6 hown hK hP 0 rfl rfl 20 (by decide) (kx_word hG kq_05_morder_0 rfl) (fun _ h9 => h9) rfl dX6_step_1 ?_
  refine lv_iload_n hx hb dX6_step_4 rfl (lv_at hl 1 rfl) ?_
  refine ki_iald (F := F 20) hx hb hK hP 15 14 rfl rfl (by omega) (by omega) (by decide) dX6_step_5 ?_
  have hbd_1 := hB.2 20 sd
  refine lv_istore_n (lv' := [(3, .int (iz (F 20 sd))), (0, .ref mo), (1, .int (iz sd)), (2, .int (iz p0))]) hx hb dX6_step_6 rfl hl (by decide) rfl (fun ls hl => ?_)
  refine lv_iconst (v := iz 0) hx hb dX6_step_7 (by decide) ?_
  refine lv_istore (lv' := [(4, .int (iz 0)), (3, .int (iz (F 20 sd))), (0, .ref mo), (1, .int (iz sd)), (2, .int (iz p0))]) hx hb dX6_step_8 hl (by decide) rfl (fun ls hl => ?_)
  have lp10 : ∀ (n : Nat) (pa ps : Int), ((F 20 sd ≤ pa ∧ pa ≤ F 5 p0) ∧ (ps = 0 ∨ (ps = 1 ∧ F 20 sd < pa))) → (F 5 p0 - pa).toNat < n → ∀ (H : Heap) (locs : List Loc), va_P (dC, dI) kxCl (mW mo ma cs I F) H → va_D A (mW mo ma cs I F) → va_S A s.heap H locs → ∀ ls : Array Slot, lv_has ls 7 [(4, .int (iz ps)), (3, .int (iz pa)), (0, .ref mo), (1, .int (iz sd)), (2, .int (iz p0))] → W p l e (headSpec [.code yX6_step cX6_step 7 none] ({ frames := 1, cells := 0, slots := 0, locals := 21 })).room s m ([.ref mo, .int (iz sd), .int (iz p0)] : List Value).toArray below meth c H locs 0 0 QQ (F0 m 10 ls []) := by
    intro n
    induction n with
    | zero => intro pa ps hinv hm; exact absurd hm (Nat.not_lt_zero _)
    | succ n ih10 =>
      intro pa ps hinv hm H locs hP hD hS ls hl
      obtain ⟨hpa, hps⟩ := hinv
      refine lv_iload_n hx hb dX6_step_10 rfl (lv_at hl 1 rfl) ?_
      refine lv_aload_n hx hb dX6_step_11 rfl (lv_at hl 2 rfl) ?_
      refine va_get (D := (dC, dI)) (ci := 6) (v := .ref (ma 5)) (C := RX6) (T := TX6) (N := 44) hx hb hts kt_X6 hown hK hP 0 rfl rfl 5 (by decide) (kx_word hG kq_04_msmall_15 rfl) (fun _ h9 => h9) rfl dX6_step_12 ?_
      refine lv_iload_n hx hb dX6_step_15 rfl (lv_at hl 4 rfl) ?_
      refine ki_iald (F := F 5) hx hb hK hP 4 3 rfl rfl (by omega) (by omega) (by decide) dX6_step_16 ?_
      have hbd_2 := hB.2 5 p0
      refine ki_icmp_ge (tgt := 63) hx hb dX6_step_17 (by decide) (by omega) (by omega) (by omega) (by omega) (fun c_3 => ?_) (fun c_3 => ?_)
      · skip
        refine lv_aload_n hx hb dX6_step_63 rfl (lv_at hl 2 rfl) ?_
        refine va_get (D := (dC, dI)) (ci := 6) (v := .ref (ma 20)) (C := RX6) (T := TX6) (N := 44) hx hb hts kt_X6 hown hK hP 0 rfl rfl 20 (by decide) (kx_word hG kq_05_morder_0 rfl) (fun _ h9 => h9) rfl dX6_step_64 ?_
        refine lv_iload_n hx hb dX6_step_67 rfl (lv_at hl 3 rfl) ?_
        refine lv_iload_n hx hb dX6_step_68 rfl (lv_at hl 1 rfl) ?_
        refine ki_iast (F := F 20) hx hb hK hP hD hS 15 14 rfl rfl (by omega) (by omega) (by decide) dX6_step_69 (fun H locs hP hD hS => ?_)
        have hP : va_P (dC, dI) kxCl (mW mo ma cs I (va_up F 20 (upI (F 20) sd pa))) H := hP
        have hD : va_D A (mW mo ma cs I (va_up F 20 (upI (F 20) sd pa))) := hD
        refine lv_aload_n hx hb dX6_step_70 rfl (lv_at hl 2 rfl) ?_
        refine va_get (D := (dC, dI)) (ci := 6) (v := .ref (ma 22)) (C := RX6) (T := TX6) (N := 44) hx hb hts kt_X6 hown hK hP 0 rfl rfl 22 (by decide) (kx_word hG kq_05_morder_2 rfl) (fun _ h9 => h9) rfl dX6_step_71 ?_
        refine lv_iload_n hx hb dX6_step_74 rfl (lv_at hl 3 rfl) ?_
        refine lv_iconst (v := iz (-1)) hx hb dX6_step_75 (by decide) ?_
        refine ki_iast (F := F 22) hx hb hK hP hD hS 17 16 rfl rfl (by omega) (by omega) (by decide) dX6_step_76 (fun H locs hP hD hS => ?_)
        have hP : va_P (dC, dI) kxCl (mW mo ma cs I (va_up (va_up F 20 (upI (F 20) sd pa)) 22 (upI (F 22) sd (-1)))) H := hP
        have hD : va_D A (mW mo ma cs I (va_up (va_up F 20 (upI (F 20) sd pa)) 22 (upI (F 22) sd (-1)))) := hD
        refine lv_aload_n hx hb dX6_step_77 rfl (lv_at hl 2 rfl) ?_
        refine va_get (D := (dC, dI)) (ci := 6) (v := .ref (ma 23)) (C := RX6) (T := TX6) (N := 44) hx hb hts kt_X6 hown hK hP 0 rfl rfl 23 (by decide) (kx_word hG kq_05_morder_3 rfl) (fun _ h9 => h9) rfl dX6_step_78 ?_
        refine lv_iload_n hx hb dX6_step_81 rfl (lv_at hl 3 rfl) ?_
        refine lv_iconst (v := iz 0) hx hb dX6_step_82 (by decide) ?_
        refine ki_iast (F := F 23) hx hb hK hP hD hS 18 17 rfl rfl (by omega) (by omega) (by decide) dX6_step_83 (fun H locs hP hD hS => ?_)
        have hP : va_P (dC, dI) kxCl (mW mo ma cs I (va_up (va_up (va_up F 20 (upI (F 20) sd pa)) 22 (upI (F 22) sd (-1))) 23 (upI (F 23) sd 0))) H := hP
        have hD : va_D A (mW mo ma cs I (va_up (va_up (va_up F 20 (upI (F 20) sd pa)) 22 (upI (F 22) sd (-1))) 23 (upI (F 23) sd 0))) := hD
        refine lv_aload_n hx hb dX6_step_84 rfl (lv_at hl 2 rfl) ?_
        refine va_get (D := (dC, dI)) (ci := 6) (v := .ref (ma 24)) (C := RX6) (T := TX6) (N := 44) hx hb hts kt_X6 hown hK hP 0 rfl rfl 24 (by decide) (kx_word hG kq_05_morder_4 rfl) (fun _ h9 => h9) rfl dX6_step_85 ?_
        refine lv_iload_n hx hb dX6_step_88 rfl (lv_at hl 3 rfl) ?_
        refine lv_iconst (v := iz 0) hx hb dX6_step_89 (by decide) ?_
        refine ki_iast (F := F 24) hx hb hK hP hD hS 19 18 rfl rfl (by omega) (by omega) (by decide) dX6_step_90 (fun H locs hP hD hS => ?_)
        have hP : va_P (dC, dI) kxCl (mW mo ma cs I (va_up (va_up (va_up (va_up F 20 (upI (F 20) sd pa)) 22 (upI (F 22) sd (-1))) 23 (upI (F 23) sd 0)) 24 (upI (F 24) sd 0))) H := hP
        have hD : va_D A (mW mo ma cs I (va_up (va_up (va_up (va_up F 20 (upI (F 20) sd pa)) 22 (upI (F 22) sd (-1))) 23 (upI (F 23) sd 0)) 24 (upI (F 24) sd 0))) := hD
        refine lv_iload_n hx hb dX6_step_91 rfl (lv_at hl 1 rfl) ?_
        refine lv_aload_n hx hb dX6_step_92 rfl (lv_at hl 2 rfl) ?_
        refine va_get (D := (dC, dI)) (ci := 6) (v := .ref (ma 5)) (C := RX6) (T := TX6) (N := 44) hx hb hts kt_X6 hown hK hP 0 rfl rfl 5 (by decide) (kx_word hG kq_04_msmall_15 rfl) (fun _ h9 => h9) rfl dX6_step_93 ?_
        refine lv_iload_n hx hb dX6_step_96 rfl (lv_at hl 4 rfl) ?_
        refine ki_iald (F := F 5) hx hb hK hP 4 3 rfl rfl (by omega) (by omega) (by decide) dX6_step_97 ?_
        refine ki_icmp_ne (tgt := 102) hx hb dX6_step_98 (by decide) (by omega) (by omega) (by omega) (by omega) (fun c_4 => ?_) (fun c_4 => ?_)
        · skip
          refine lv_iload hx hb dX6_step_102 (lv_at hl 0 rfl) ?_
          refine ki_if_eq (tgt := 131) hx hb dX6_step_104 (by decide) (by omega) (by omega) (fun c_5 => ?_) (fun c_5 => ?_)
          · skip
            refine lv_aload_n hx hb dX6_step_131 rfl (lv_at hl 2 rfl) ?_
            refine va_get (D := (dC, dI)) (ci := 6) (v := .ref (ma 21)) (C := RX6) (T := TX6) (N := 44) hx hb hts kt_X6 hown hK hP 0 rfl rfl 21 (by decide) (kx_word hG kq_05_morder_1 rfl) (fun _ h9 => h9) rfl dX6_step_132 ?_
            refine lv_iload_n hx hb dX6_step_135 rfl (lv_at hl 3 rfl) ?_
            refine lv_iconst (v := iz 1) hx hb dX6_step_136 (by decide) ?_
            refine ki_zast (F := F 21) hx hb hK hP hD hS 16 15 rfl rfl (by omega) (by omega) (by decide) dX6_step_137 (fun H locs hP hD hS => ?_)
            have hP : va_P (dC, dI) kxCl (mW mo ma cs I (va_up (va_up (va_up (va_up (va_up F 20 (upI (F 20) sd pa)) 22 (upI (F 22) sd (-1))) 23 (upI (F 23) sd 0)) 24 (upI (F 24) sd 0)) 21 (upI (F 21) sd (vp_nar .boolean (iz 1)).toInt))) H := hP
            have hD : va_D A (mW mo ma cs I (va_up (va_up (va_up (va_up (va_up F 20 (upI (F 20) sd pa)) 22 (upI (F 22) sd (-1))) 23 (upI (F 23) sd 0)) 24 (upI (F 24) sd 0)) 21 (upI (F 21) sd (vp_nar .boolean (iz 1)).toInt))) := hD
            refine lv_aload_n hx hb dX6_step_138 rfl (lv_at hl 2 rfl) ?_
            refine va_get (D := (dC, dI)) (ci := 6) (v := .ref (ma 4)) (C := RX6) (T := TX6) (N := 44) hx hb hts kt_X6 hown hK hP 0 rfl rfl 4 (by decide) (kx_word hG kq_04_msmall_16 rfl) (fun _ h9 => h9) rfl dX6_step_139 ?_
            refine lv_bipush (v := iz 20) hx hb dX6_step_142 (by decide) ?_
            refine lv_iload_n hx hb dX6_step_144 rfl (lv_at hl 4 rfl) ?_
            refine ki_imul hx hb dX6_step_145 ?_
            refine lv_iload_n hx hb dX6_step_146 rfl (lv_at hl 1 rfl) ?_
            refine ki_iadd hx hb dX6_step_147 ?_
            refine ki_iald (F := F 4) hx hb hK hP 3 2 rfl rfl (by omega) (by omega) (by decide) dX6_step_148 ?_
            have hbd_6 := hB.2 4 ((20 * p0) + pa)
            refine lv_istore (lv' := [(5, .int (iz (F 4 ((20 * p0) + pa)))), (4, .int (iz ps)), (3, .int (iz pa)), (0, .ref mo), (1, .int (iz sd)), (2, .int (iz p0))]) hx hb dX6_step_149 hl (by decide) rfl (fun ls hl => ?_)
            refine lv_iload hx hb dX6_step_151 (lv_at hl 0 rfl) ?_
            refine mk_calls (As := [.int (iz (F 4 ((20 * p0) + pa)))]) (rest := []) ⟨hx, hb, hml, hown, hts⟩ (k_letterOf l dC dI (F 4 ((20 * p0) + pa)) H.size (by omega) (by omega)) (va_cwS 1 hts (kx_gS kq_05_morder_5 kq_05_morder_6 kq_04_msmall_6 kq_05_morder_7 rfl) rfl rfl rfl (by decide +kernel) ⟨Nat.le_of_ble_eq_true rfl, Nat.le_of_ble_eq_true rfl⟩) hP hD hK hG hZ hS hA rfl hl.1 rfl (Nat.le_of_ble_eq_true rfl) dX6_step_153 ⟨Nat.le_of_ble_eq_true rfl, Nat.le_of_ble_eq_true rfl⟩ (fun z_7 H locs hq_8 hP hS => ?_)
            try dsimp only at hq_8
            refine ki_if_le (tgt := 187) hx hb dX6_step_156 (by decide) (by omega) (by omega) (fun c_9 => ?_) (fun c_9 => ?_)
            · skip
              refine lv_iload_n hx hb dX6_step_187 rfl (lv_at hl 2 rfl) ?_
              refine lv_iconst (v := iz 1) hx hb dX6_step_188 (by decide) ?_
              refine ki_iadd hx hb dX6_step_189 ?_
              refine lv_istore (lv' := [(6, .int (iz (pa + 1))), (5, .int (iz (F 4 ((20 * p0) + pa)))), (4, .int (iz ps)), (3, .int (iz pa)), (0, .ref mo), (1, .int (iz sd)), (2, .int (iz p0))]) hx hb dX6_step_190 hl (by decide) rfl (fun ls hl => ?_)
              have lp192 : ∀ (n : Nat) (en : Int), ((pa + 1 ≤ en ∧ en ≤ F 5 p0)) → (F 5 p0 - en).toNat < n → ∀ (H : Heap) (locs : List Loc), va_P (dC, dI) kxCl (mW mo ma cs I (va_up (va_up (va_up (va_up (va_up F 20 (upI (F 20) sd pa)) 22 (upI (F 22) sd (-1))) 23 (upI (F 23) sd 0)) 24 (upI (F 24) sd 0)) 21 (upI (F 21) sd (vp_nar .boolean (iz 1)).toInt))) H → va_D A (mW mo ma cs I (va_up (va_up (va_up (va_up (va_up F 20 (upI (F 20) sd pa)) 22 (upI (F 22) sd (-1))) 23 (upI (F 23) sd 0)) 24 (upI (F 24) sd 0)) 21 (upI (F 21) sd (vp_nar .boolean (iz 1)).toInt))) → va_S A s.heap H locs → ∀ ls : Array Slot, lv_has ls 7 [(6, .int (iz en)), (5, .int (iz (F 4 ((20 * p0) + pa)))), (4, .int (iz ps)), (3, .int (iz pa)), (0, .ref mo), (1, .int (iz sd)), (2, .int (iz p0))] → W p l e (headSpec [.code yX6_step cX6_step 7 none] ({ frames := 1, cells := 0, slots := 0, locals := 21 })).room s m ([.ref mo, .int (iz sd), .int (iz p0)] : List Value).toArray below meth c H locs 0 0 QQ (F0 m 192 ls []) := by
                intro n
                induction n with
                | zero => intro en hinv hm; exact absurd hm (Nat.not_lt_zero _)
                | succ n ih192 =>
                  intro en hinv hm H locs hP hD hS ls hl
                  have hen := hinv
                  refine lv_aload_n hx hb dX6_step_192 rfl (lv_at hl 4 rfl) ?_
                  refine va_get (D := (dC, dI)) (ci := 6) (v := .int (iz (I 14))) (C := RX6) (T := TX6) (N := 44) hx hb hts kt_X6 hown hK hP 0 rfl rfl 14 (by decide) (kx_word hG kq_04_msmall_17 rfl) (fun _ h9 => h9) rfl dX6_step_193 ?_
                  have hbd_10 := hB.1 14
                  refine ki_if_eq (tgt := 234) hx hb dX6_step_196 (by decide) (by omega) (by omega) (fun c_11 => ?_) (fun c_11 => ?_)
                  · skip
                    have lp234 : ∀ (n : Nat) (pz : Int), ((pa ≤ pz ∧ pz ≤ en)) → (en - pz).toNat < n → ∀ (H : Heap) (locs : List Loc), va_P (dC, dI) kxCl (mW mo ma cs I (va_up (va_up (va_up (va_up (va_up F 20 (upI (F 20) sd pa)) 22 (upI (F 22) sd (-1))) 23 (upI (F 23) sd 0)) 24 (upI (F 24) sd 0)) 21 (upI (F 21) sd (vp_nar .boolean (iz 1)).toInt))) H → va_D A (mW mo ma cs I (va_up (va_up (va_up (va_up (va_up F 20 (upI (F 20) sd pa)) 22 (upI (F 22) sd (-1))) 23 (upI (F 23) sd 0)) 24 (upI (F 24) sd 0)) 21 (upI (F 21) sd (vp_nar .boolean (iz 1)).toInt))) → va_S A s.heap H locs → ∀ ls : Array Slot, lv_has ls 7 [(6, .int (iz en)), (5, .int (iz (F 4 ((20 * p0) + pa)))), (4, .int (iz ps)), (3, .int (iz pz)), (0, .ref mo), (1, .int (iz sd)), (2, .int (iz p0))] → W p l e (headSpec [.code yX6_step cX6_step 7 none] ({ frames := 1, cells := 0, slots := 0, locals := 21 })).room s m ([.ref mo, .int (iz sd), .int (iz p0)] : List Value).toArray below meth c H locs 0 0 QQ (F0 m 234 ls []) := by
                      intro n
                      induction n with
                      | zero => intro pz hinv hm; exact absurd hm (Nat.not_lt_zero _)
                      | succ n ih234 =>
                        intro pz hinv hm H locs hP hD hS ls hl
                        have hpz := hinv
                        refine lv_iload_n hx hb dX6_step_234 rfl (lv_at hl 3 rfl) ?_
                        refine lv_iload hx hb dX6_step_235 (lv_at hl 0 rfl) ?_
                        refine ki_icmp_ge (tgt := 262) hx hb dX6_step_237 (by decide) (by omega) (by omega) (by omega) (by omega) (fun c_12 => ?_) (fun c_12 => ?_)
                        · skip
                          refine lv_aload_n hx hb dX6_step_262 rfl (lv_at hl 4 rfl) ?_
                          refine va_get (D := (dC, dI)) (ci := 6) (v := .ref (ma 22)) (C := RX6) (T := TX6) (N := 44) hx hb hts kt_X6 hown hK hP 0 rfl rfl 22 (by decide) (kx_word hG kq_05_morder_2 rfl) (fun _ h9 => h9) rfl dX6_step_263 ?_
                          refine lv_iload_n hx hb dX6_step_266 rfl (lv_at hl 5 rfl) ?_
                          refine lv_iconst (v := iz 1) hx hb dX6_step_267 (by decide) ?_
                          refine ki_iast (F := upI (F 22) sd (-1)) hx hb hK hP hD hS 17 16 rfl rfl (by omega) (by omega) (by decide) dX6_step_268 (fun H locs hP hD hS => ?_)
                          have hP : va_P (dC, dI) kxCl (mW mo ma cs I (va_up (va_up (va_up (va_up (va_up (va_up F 20 (upI (F 20) sd pa)) 22 (upI (F 22) sd (-1))) 23 (upI (F 23) sd 0)) 24 (upI (F 24) sd 0)) 21 (upI (F 21) sd (vp_nar .boolean (iz 1)).toInt)) 22 (upI (upI (F 22) sd (-1)) sd 1))) H := hP
                          have hD : va_D A (mW mo ma cs I (va_up (va_up (va_up (va_up (va_up (va_up F 20 (upI (F 20) sd pa)) 22 (upI (F 22) sd (-1))) 23 (upI (F 23) sd 0)) 24 (upI (F 24) sd 0)) 21 (upI (F 21) sd (vp_nar .boolean (iz 1)).toInt)) 22 (upI (upI (F 22) sd (-1)) sd 1))) := hD
                          refine lv_aload_n hx hb dX6_step_269 rfl (lv_at hl 4 rfl) ?_
                          refine va_get (D := (dC, dI)) (ci := 6) (v := .ref (ma 23)) (C := RX6) (T := TX6) (N := 44) hx hb hts kt_X6 hown hK hP 0 rfl rfl 23 (by decide) (kx_word hG kq_05_morder_3 rfl) (fun _ h9 => h9) rfl dX6_step_270 ?_
                          refine lv_iload_n hx hb dX6_step_273 rfl (lv_at hl 5 rfl) ?_
                          refine lv_bipush (v := iz 20) hx hb dX6_step_274 (by decide) ?_
                          refine lv_iload_n hx hb dX6_step_276 rfl (lv_at hl 6 rfl) ?_
                          refine ki_imul hx hb dX6_step_277 ?_
                          refine lv_iload_n hx hb dX6_step_278 rfl (lv_at hl 3 rfl) ?_
                          refine ki_iadd hx hb dX6_step_279 ?_
                          refine ki_iast (F := upI (F 23) sd 0) hx hb hK hP hD hS 18 17 rfl rfl (by omega) (by omega) (by decide) dX6_step_280 (fun H locs hP hD hS => ?_)
                          have hP : va_P (dC, dI) kxCl (mW mo ma cs I (va_up (va_up (va_up (va_up (va_up (va_up (va_up F 20 (upI (F 20) sd pa)) 22 (upI (F 22) sd (-1))) 23 (upI (F 23) sd 0)) 24 (upI (F 24) sd 0)) 21 (upI (F 21) sd (vp_nar .boolean (iz 1)).toInt)) 22 (upI (upI (F 22) sd (-1)) sd 1)) 23 (upI (upI (F 23) sd 0) sd ((20 * p0) + pz)))) H := hP
                          have hD : va_D A (mW mo ma cs I (va_up (va_up (va_up (va_up (va_up (va_up (va_up F 20 (upI (F 20) sd pa)) 22 (upI (F 22) sd (-1))) 23 (upI (F 23) sd 0)) 24 (upI (F 24) sd 0)) 21 (upI (F 21) sd (vp_nar .boolean (iz 1)).toInt)) 22 (upI (upI (F 22) sd (-1)) sd 1)) 23 (upI (upI (F 23) sd 0) sd ((20 * p0) + pz)))) := hD
                          refine lv_aload_n hx hb dX6_step_281 rfl (lv_at hl 4 rfl) ?_
                          refine va_get (D := (dC, dI)) (ci := 6) (v := .ref (ma 24)) (C := RX6) (T := TX6) (N := 44) hx hb hts kt_X6 hown hK hP 0 rfl rfl 24 (by decide) (kx_word hG kq_05_morder_4 rfl) (fun _ h9 => h9) rfl dX6_step_282 ?_
                          refine lv_iload_n hx hb dX6_step_285 rfl (lv_at hl 5 rfl) ?_
                          refine lv_iload hx hb dX6_step_286 (lv_at hl 0 rfl) ?_
                          refine lv_iload_n hx hb dX6_step_288 rfl (lv_at hl 3 rfl) ?_
                          refine ki_isub hx hb dX6_step_289 ?_
                          refine ki_iast (F := upI (F 24) sd 0) hx hb hK hP hD hS 19 18 rfl rfl (by omega) (by omega) (by decide) dX6_step_290 (fun H locs hP hD hS => ?_)
                          have hP : va_P (dC, dI) kxCl (mW mo ma cs I (va_up (va_up (va_up (va_up (va_up (va_up (va_up (va_up F 20 (upI (F 20) sd pa)) 22 (upI (F 22) sd (-1))) 23 (upI (F 23) sd 0)) 24 (upI (F 24) sd 0)) 21 (upI (F 21) sd (vp_nar .boolean (iz 1)).toInt)) 22 (upI (upI (F 22) sd (-1)) sd 1)) 23 (upI (upI (F 23) sd 0) sd ((20 * p0) + pz))) 24 (upI (upI (F 24) sd 0) sd (en - pz)))) H := hP
                          have hD : va_D A (mW mo ma cs I (va_up (va_up (va_up (va_up (va_up (va_up (va_up (va_up F 20 (upI (F 20) sd pa)) 22 (upI (F 22) sd (-1))) 23 (upI (F 23) sd 0)) 24 (upI (F 24) sd 0)) 21 (upI (F 21) sd (vp_nar .boolean (iz 1)).toInt)) 22 (upI (upI (F 22) sd (-1)) sd 1)) 23 (upI (upI (F 23) sd 0) sd ((20 * p0) + pz))) 24 (upI (upI (F 24) sd 0) sd (en - pz)))) := hD
                          refine lv_aload_n hx hb dX6_step_291 rfl (lv_at hl 4 rfl) ?_
                          refine va_get (D := (dC, dI)) (ci := 6) (v := .ref (ma 20)) (C := RX6) (T := TX6) (N := 44) hx hb hts kt_X6 hown hK hP 0 rfl rfl 20 (by decide) (kx_word hG kq_05_morder_0 rfl) (fun _ h9 => h9) rfl dX6_step_292 ?_
                          refine lv_iload_n hx hb dX6_step_295 rfl (lv_at hl 5 rfl) ?_
                          refine lv_iload hx hb dX6_step_296 (lv_at hl 0 rfl) ?_
                          refine ki_iast (F := upI (F 20) sd pa) hx hb hK hP hD hS 15 14 rfl rfl (by omega) (by omega) (by decide) dX6_step_298 (fun H locs hP hD hS => ?_)
                          have hP : va_P (dC, dI) kxCl (mW mo ma cs I (va_up (va_up (va_up (va_up (va_up (va_up (va_up (va_up (va_up F 20 (upI (F 20) sd pa)) 22 (upI (F 22) sd (-1))) 23 (upI (F 23) sd 0)) 24 (upI (F 24) sd 0)) 21 (upI (F 21) sd (vp_nar .boolean (iz 1)).toInt)) 22 (upI (upI (F 22) sd (-1)) sd 1)) 23 (upI (upI (F 23) sd 0) sd ((20 * p0) + pz))) 24 (upI (upI (F 24) sd 0) sd (en - pz))) 20 (upI (upI (F 20) sd pa) sd en))) H := hP
                          have hD : va_D A (mW mo ma cs I (va_up (va_up (va_up (va_up (va_up (va_up (va_up (va_up (va_up F 20 (upI (F 20) sd pa)) 22 (upI (F 22) sd (-1))) 23 (upI (F 23) sd 0)) 24 (upI (F 24) sd 0)) 21 (upI (F 21) sd (vp_nar .boolean (iz 1)).toInt)) 22 (upI (upI (F 22) sd (-1)) sd 1)) 23 (upI (upI (F 23) sd 0) sd ((20 * p0) + pz))) 24 (upI (upI (F 24) sd 0) sd (en - pz))) 20 (upI (upI (F 20) sd pa) sd en))) := hD
                          have e_13 : (va_up (va_up (va_up (va_up (va_up (va_up (va_up (va_up (va_up F 20 (upI (F 20) sd pa)) 22 (upI (F 22) sd (-1))) 23 (upI (F 23) sd 0)) 24 (upI (F 24) sd 0)) 21 (upI (F 21) sd (vp_nar .boolean (iz 1)).toInt)) 22 (upI (upI (F 22) sd (-1)) sd 1)) 23 (upI (upI (F 23) sd 0) sd ((20 * p0) + pz))) 24 (upI (upI (F 24) sd 0) sd (en - pz))) 20 (upI (upI (F 20) sd pa) sd en)) 20 sd = en := upI_self _ _ _
                          have e_14 : (va_up (va_up (va_up (va_up (va_up (va_up (va_up (va_up (va_up F 20 (upI (F 20) sd pa)) 22 (upI (F 22) sd (-1))) 23 (upI (F 23) sd 0)) 24 (upI (F 24) sd 0)) 21 (upI (F 21) sd (vp_nar .boolean (iz 1)).toInt)) 22 (upI (upI (F 22) sd (-1)) sd 1)) 23 (upI (upI (F 23) sd 0) sd ((20 * p0) + pz))) 24 (upI (upI (F 24) sd 0) sd (en - pz))) 20 (upI (upI (F 20) sd pa) sd en)) 22 sd = 1 := upI_self _ _ _
                          have e_15 : (va_up (va_up (va_up (va_up (va_up (va_up (va_up (va_up (va_up F 20 (upI (F 20) sd pa)) 22 (upI (F 22) sd (-1))) 23 (upI (F 23) sd 0)) 24 (upI (F 24) sd 0)) 21 (upI (F 21) sd (vp_nar .boolean (iz 1)).toInt)) 22 (upI (upI (F 22) sd (-1)) sd 1)) 23 (upI (upI (F 23) sd 0) sd ((20 * p0) + pz))) 24 (upI (upI (F 24) sd 0) sd (en - pz))) 20 (upI (upI (F 20) sd pa) sd en)) 23 sd = (20 * p0) + pz := upI_self _ _ _
                          have e_16 : (va_up (va_up (va_up (va_up (va_up (va_up (va_up (va_up (va_up F 20 (upI (F 20) sd pa)) 22 (upI (F 22) sd (-1))) 23 (upI (F 23) sd 0)) 24 (upI (F 24) sd 0)) 21 (upI (F 21) sd (vp_nar .boolean (iz 1)).toInt)) 22 (upI (upI (F 22) sd (-1)) sd 1)) 23 (upI (upI (F 23) sd 0) sd ((20 * p0) + pz))) 24 (upI (upI (F 24) sd 0) sd (en - pz))) 20 (upI (upI (F 20) sd pa) sd en)) 24 sd = en - pz := upI_self _ _ _
                          have e_17 : (va_up (va_up (va_up (va_up (va_up (va_up (va_up (va_up (va_up F 20 (upI (F 20) sd pa)) 22 (upI (F 22) sd (-1))) 23 (upI (F 23) sd 0)) 24 (upI (F 24) sd 0)) 21 (upI (F 21) sd (vp_nar .boolean (iz 1)).toInt)) 22 (upI (upI (F 22) sd (-1)) sd 1)) 23 (upI (upI (F 23) sd 0) sd ((20 * p0) + pz))) 24 (upI (upI (F 24) sd 0) sd (en - pz))) 20 (upI (upI (F 20) sd pa) sd en)) 21 sd = (vp_nar .boolean (iz 1)).toInt := upI_self _ _ _
                          rw [← hQe]
                          exact mk_ret hx hb hr hlocks hP hD hK hS dX6_step_299 (⟨rfl, (mB_f (mB_f (mB_f (mB_f (mB_f (mB_f (mB_f (mB_f (mB_f hB 20 sd (by omega) (by omega)) 22 sd (by omega) (by omega)) 23 sd (by omega) (by omega)) 24 sd (by omega) (by omega)) 21 sd (iz_lo _) (iz_hi _)) 22 sd (by omega) (by omega)) 23 sd (by omega) (by omega)) 24 sd (by omega) (by omega)) 20 sd (by omega) (by omega)), (mfr.upF (mfr.upF (mfr.upF (mfr.upF (mfr.upF (mfr.upF (mfr.upF (mfr.upF (mfr.upF mfr.rf (by decide) _) (by decide) _) (by decide) _) (by decide) _) (by decide) _) (by decide) _) (by decide) _) (by decide) _) (by decide) _), (mo1.up (mo1.up (mo1.up (mo1.up (mo1.up (mo1.up (mo1.up (mo1.up (mo1.up mo1.rf 20 _) 22 _) 23 _) 24 _) 21 _) 22 _) 23 _) 24 _) 20 _), by omega, by omega, by omega⟩)
                        · skip
                          refine lv_aload_n hx hb dX6_step_240 rfl (lv_at hl 4 rfl) ?_
                          refine va_get (D := (dC, dI)) (ci := 6) (v := .ref (ma 4)) (C := RX6) (T := TX6) (N := 44) hx hb hts kt_X6 hown hK hP 0 rfl rfl 4 (by decide) (kx_word hG kq_04_msmall_16 rfl) (fun _ h9 => h9) rfl dX6_step_241 ?_
                          refine lv_bipush (v := iz 20) hx hb dX6_step_244 (by decide) ?_
                          refine lv_iload_n hx hb dX6_step_246 rfl (lv_at hl 6 rfl) ?_
                          refine ki_imul hx hb dX6_step_247 ?_
                          refine lv_iload_n hx hb dX6_step_248 rfl (lv_at hl 3 rfl) ?_
                          refine ki_iadd hx hb dX6_step_249 ?_
                          refine ki_iald (F := F 4) hx hb hK hP 3 2 rfl rfl (by omega) (by omega) (by decide) dX6_step_250 ?_
                          have hbd_18 := hB.2 4 ((20 * p0) + pz)
                          refine lv_bipush (v := iz 48) hx hb dX6_step_251 (by decide) ?_
                          refine ki_icmp_ne (tgt := 262) hx hb dX6_step_253 (by decide) (by omega) (by omega) (by omega) (by omega) (fun c_19 => ?_) (fun c_19 => ?_)
                          · skip
                            refine lv_aload_n hx hb dX6_step_262 rfl (lv_at hl 4 rfl) ?_
                            refine va_get (D := (dC, dI)) (ci := 6) (v := .ref (ma 22)) (C := RX6) (T := TX6) (N := 44) hx hb hts kt_X6 hown hK hP 0 rfl rfl 22 (by decide) (kx_word hG kq_05_morder_2 rfl) (fun _ h9 => h9) rfl dX6_step_263 ?_
                            refine lv_iload_n hx hb dX6_step_266 rfl (lv_at hl 5 rfl) ?_
                            refine lv_iconst (v := iz 1) hx hb dX6_step_267 (by decide) ?_
                            refine ki_iast (F := upI (F 22) sd (-1)) hx hb hK hP hD hS 17 16 rfl rfl (by omega) (by omega) (by decide) dX6_step_268 (fun H locs hP hD hS => ?_)
                            have hP : va_P (dC, dI) kxCl (mW mo ma cs I (va_up (va_up (va_up (va_up (va_up (va_up F 20 (upI (F 20) sd pa)) 22 (upI (F 22) sd (-1))) 23 (upI (F 23) sd 0)) 24 (upI (F 24) sd 0)) 21 (upI (F 21) sd (vp_nar .boolean (iz 1)).toInt)) 22 (upI (upI (F 22) sd (-1)) sd 1))) H := hP
                            have hD : va_D A (mW mo ma cs I (va_up (va_up (va_up (va_up (va_up (va_up F 20 (upI (F 20) sd pa)) 22 (upI (F 22) sd (-1))) 23 (upI (F 23) sd 0)) 24 (upI (F 24) sd 0)) 21 (upI (F 21) sd (vp_nar .boolean (iz 1)).toInt)) 22 (upI (upI (F 22) sd (-1)) sd 1))) := hD
                            refine lv_aload_n hx hb dX6_step_269 rfl (lv_at hl 4 rfl) ?_
                            refine va_get (D := (dC, dI)) (ci := 6) (v := .ref (ma 23)) (C := RX6) (T := TX6) (N := 44) hx hb hts kt_X6 hown hK hP 0 rfl rfl 23 (by decide) (kx_word hG kq_05_morder_3 rfl) (fun _ h9 => h9) rfl dX6_step_270 ?_
                            refine lv_iload_n hx hb dX6_step_273 rfl (lv_at hl 5 rfl) ?_
                            refine lv_bipush (v := iz 20) hx hb dX6_step_274 (by decide) ?_
                            refine lv_iload_n hx hb dX6_step_276 rfl (lv_at hl 6 rfl) ?_
                            refine ki_imul hx hb dX6_step_277 ?_
                            refine lv_iload_n hx hb dX6_step_278 rfl (lv_at hl 3 rfl) ?_
                            refine ki_iadd hx hb dX6_step_279 ?_
                            refine ki_iast (F := upI (F 23) sd 0) hx hb hK hP hD hS 18 17 rfl rfl (by omega) (by omega) (by decide) dX6_step_280 (fun H locs hP hD hS => ?_)
                            have hP : va_P (dC, dI) kxCl (mW mo ma cs I (va_up (va_up (va_up (va_up (va_up (va_up (va_up F 20 (upI (F 20) sd pa)) 22 (upI (F 22) sd (-1))) 23 (upI (F 23) sd 0)) 24 (upI (F 24) sd 0)) 21 (upI (F 21) sd (vp_nar .boolean (iz 1)).toInt)) 22 (upI (upI (F 22) sd (-1)) sd 1)) 23 (upI (upI (F 23) sd 0) sd ((20 * p0) + pz)))) H := hP
                            have hD : va_D A (mW mo ma cs I (va_up (va_up (va_up (va_up (va_up (va_up (va_up F 20 (upI (F 20) sd pa)) 22 (upI (F 22) sd (-1))) 23 (upI (F 23) sd 0)) 24 (upI (F 24) sd 0)) 21 (upI (F 21) sd (vp_nar .boolean (iz 1)).toInt)) 22 (upI (upI (F 22) sd (-1)) sd 1)) 23 (upI (upI (F 23) sd 0) sd ((20 * p0) + pz)))) := hD
                            refine lv_aload_n hx hb dX6_step_281 rfl (lv_at hl 4 rfl) ?_
                            refine va_get (D := (dC, dI)) (ci := 6) (v := .ref (ma 24)) (C := RX6) (T := TX6) (N := 44) hx hb hts kt_X6 hown hK hP 0 rfl rfl 24 (by decide) (kx_word hG kq_05_morder_4 rfl) (fun _ h9 => h9) rfl dX6_step_282 ?_
                            refine lv_iload_n hx hb dX6_step_285 rfl (lv_at hl 5 rfl) ?_
                            refine lv_iload hx hb dX6_step_286 (lv_at hl 0 rfl) ?_
                            refine lv_iload_n hx hb dX6_step_288 rfl (lv_at hl 3 rfl) ?_
                            refine ki_isub hx hb dX6_step_289 ?_
                            refine ki_iast (F := upI (F 24) sd 0) hx hb hK hP hD hS 19 18 rfl rfl (by omega) (by omega) (by decide) dX6_step_290 (fun H locs hP hD hS => ?_)
                            have hP : va_P (dC, dI) kxCl (mW mo ma cs I (va_up (va_up (va_up (va_up (va_up (va_up (va_up (va_up F 20 (upI (F 20) sd pa)) 22 (upI (F 22) sd (-1))) 23 (upI (F 23) sd 0)) 24 (upI (F 24) sd 0)) 21 (upI (F 21) sd (vp_nar .boolean (iz 1)).toInt)) 22 (upI (upI (F 22) sd (-1)) sd 1)) 23 (upI (upI (F 23) sd 0) sd ((20 * p0) + pz))) 24 (upI (upI (F 24) sd 0) sd (en - pz)))) H := hP
                            have hD : va_D A (mW mo ma cs I (va_up (va_up (va_up (va_up (va_up (va_up (va_up (va_up F 20 (upI (F 20) sd pa)) 22 (upI (F 22) sd (-1))) 23 (upI (F 23) sd 0)) 24 (upI (F 24) sd 0)) 21 (upI (F 21) sd (vp_nar .boolean (iz 1)).toInt)) 22 (upI (upI (F 22) sd (-1)) sd 1)) 23 (upI (upI (F 23) sd 0) sd ((20 * p0) + pz))) 24 (upI (upI (F 24) sd 0) sd (en - pz)))) := hD
                            refine lv_aload_n hx hb dX6_step_291 rfl (lv_at hl 4 rfl) ?_
                            refine va_get (D := (dC, dI)) (ci := 6) (v := .ref (ma 20)) (C := RX6) (T := TX6) (N := 44) hx hb hts kt_X6 hown hK hP 0 rfl rfl 20 (by decide) (kx_word hG kq_05_morder_0 rfl) (fun _ h9 => h9) rfl dX6_step_292 ?_
                            refine lv_iload_n hx hb dX6_step_295 rfl (lv_at hl 5 rfl) ?_
                            refine lv_iload hx hb dX6_step_296 (lv_at hl 0 rfl) ?_
                            refine ki_iast (F := upI (F 20) sd pa) hx hb hK hP hD hS 15 14 rfl rfl (by omega) (by omega) (by decide) dX6_step_298 (fun H locs hP hD hS => ?_)
                            have hP : va_P (dC, dI) kxCl (mW mo ma cs I (va_up (va_up (va_up (va_up (va_up (va_up (va_up (va_up (va_up F 20 (upI (F 20) sd pa)) 22 (upI (F 22) sd (-1))) 23 (upI (F 23) sd 0)) 24 (upI (F 24) sd 0)) 21 (upI (F 21) sd (vp_nar .boolean (iz 1)).toInt)) 22 (upI (upI (F 22) sd (-1)) sd 1)) 23 (upI (upI (F 23) sd 0) sd ((20 * p0) + pz))) 24 (upI (upI (F 24) sd 0) sd (en - pz))) 20 (upI (upI (F 20) sd pa) sd en))) H := hP
                            have hD : va_D A (mW mo ma cs I (va_up (va_up (va_up (va_up (va_up (va_up (va_up (va_up (va_up F 20 (upI (F 20) sd pa)) 22 (upI (F 22) sd (-1))) 23 (upI (F 23) sd 0)) 24 (upI (F 24) sd 0)) 21 (upI (F 21) sd (vp_nar .boolean (iz 1)).toInt)) 22 (upI (upI (F 22) sd (-1)) sd 1)) 23 (upI (upI (F 23) sd 0) sd ((20 * p0) + pz))) 24 (upI (upI (F 24) sd 0) sd (en - pz))) 20 (upI (upI (F 20) sd pa) sd en))) := hD
                            have e_20 : (va_up (va_up (va_up (va_up (va_up (va_up (va_up (va_up (va_up F 20 (upI (F 20) sd pa)) 22 (upI (F 22) sd (-1))) 23 (upI (F 23) sd 0)) 24 (upI (F 24) sd 0)) 21 (upI (F 21) sd (vp_nar .boolean (iz 1)).toInt)) 22 (upI (upI (F 22) sd (-1)) sd 1)) 23 (upI (upI (F 23) sd 0) sd ((20 * p0) + pz))) 24 (upI (upI (F 24) sd 0) sd (en - pz))) 20 (upI (upI (F 20) sd pa) sd en)) 20 sd = en := upI_self _ _ _
                            have e_21 : (va_up (va_up (va_up (va_up (va_up (va_up (va_up (va_up (va_up F 20 (upI (F 20) sd pa)) 22 (upI (F 22) sd (-1))) 23 (upI (F 23) sd 0)) 24 (upI (F 24) sd 0)) 21 (upI (F 21) sd (vp_nar .boolean (iz 1)).toInt)) 22 (upI (upI (F 22) sd (-1)) sd 1)) 23 (upI (upI (F 23) sd 0) sd ((20 * p0) + pz))) 24 (upI (upI (F 24) sd 0) sd (en - pz))) 20 (upI (upI (F 20) sd pa) sd en)) 22 sd = 1 := upI_self _ _ _
                            have e_22 : (va_up (va_up (va_up (va_up (va_up (va_up (va_up (va_up (va_up F 20 (upI (F 20) sd pa)) 22 (upI (F 22) sd (-1))) 23 (upI (F 23) sd 0)) 24 (upI (F 24) sd 0)) 21 (upI (F 21) sd (vp_nar .boolean (iz 1)).toInt)) 22 (upI (upI (F 22) sd (-1)) sd 1)) 23 (upI (upI (F 23) sd 0) sd ((20 * p0) + pz))) 24 (upI (upI (F 24) sd 0) sd (en - pz))) 20 (upI (upI (F 20) sd pa) sd en)) 23 sd = (20 * p0) + pz := upI_self _ _ _
                            have e_23 : (va_up (va_up (va_up (va_up (va_up (va_up (va_up (va_up (va_up F 20 (upI (F 20) sd pa)) 22 (upI (F 22) sd (-1))) 23 (upI (F 23) sd 0)) 24 (upI (F 24) sd 0)) 21 (upI (F 21) sd (vp_nar .boolean (iz 1)).toInt)) 22 (upI (upI (F 22) sd (-1)) sd 1)) 23 (upI (upI (F 23) sd 0) sd ((20 * p0) + pz))) 24 (upI (upI (F 24) sd 0) sd (en - pz))) 20 (upI (upI (F 20) sd pa) sd en)) 24 sd = en - pz := upI_self _ _ _
                            have e_24 : (va_up (va_up (va_up (va_up (va_up (va_up (va_up (va_up (va_up F 20 (upI (F 20) sd pa)) 22 (upI (F 22) sd (-1))) 23 (upI (F 23) sd 0)) 24 (upI (F 24) sd 0)) 21 (upI (F 21) sd (vp_nar .boolean (iz 1)).toInt)) 22 (upI (upI (F 22) sd (-1)) sd 1)) 23 (upI (upI (F 23) sd 0) sd ((20 * p0) + pz))) 24 (upI (upI (F 24) sd 0) sd (en - pz))) 20 (upI (upI (F 20) sd pa) sd en)) 21 sd = (vp_nar .boolean (iz 1)).toInt := upI_self _ _ _
                            rw [← hQe]
                            exact mk_ret hx hb hr hlocks hP hD hK hS dX6_step_299 (⟨rfl, (mB_f (mB_f (mB_f (mB_f (mB_f (mB_f (mB_f (mB_f (mB_f hB 20 sd (by omega) (by omega)) 22 sd (by omega) (by omega)) 23 sd (by omega) (by omega)) 24 sd (by omega) (by omega)) 21 sd (iz_lo _) (iz_hi _)) 22 sd (by omega) (by omega)) 23 sd (by omega) (by omega)) 24 sd (by omega) (by omega)) 20 sd (by omega) (by omega)), (mfr.upF (mfr.upF (mfr.upF (mfr.upF (mfr.upF (mfr.upF (mfr.upF (mfr.upF (mfr.upF mfr.rf (by decide) _) (by decide) _) (by decide) _) (by decide) _) (by decide) _) (by decide) _) (by decide) _) (by decide) _) (by decide) _), (mo1.up (mo1.up (mo1.up (mo1.up (mo1.up (mo1.up (mo1.up (mo1.up (mo1.up mo1.rf 20 _) 22 _) 23 _) 24 _) 21 _) 22 _) 23 _) 24 _) 20 _), by omega, by omega, by omega⟩)
                          · skip
                            refine lv_iinc (v := iz (pz + 1)) (lv' := [(3, .int (iz (pz + 1))), (6, .int (iz en)), (5, .int (iz (F 4 ((20 * p0) + pa)))), (4, .int (iz ps)), (0, .ref mo), (1, .int (iz sd)), (2, .int (iz p0))]) hx hb dX6_step_256 hl (k := 3) rfl (iz_add pz 1) (by decide) rfl (fun ls hl => ?_)
                            refine lv_goto (tgt := 234) hx hb dX6_step_259 (by decide) ?_
                            exact ih234 (pz + 1) (by omega) (by omega) _ _ hP hD hS ls (lv_sub hl [1, 2, 3, 0, 4, 5, 6] rfl)
                    exact lp234 _ pa (by omega) (Nat.lt_succ_self _) _ _ hP hD hS ls (lv_sub hl [0, 1, 2, 3, 4, 5, 6] rfl)
                  · skip
                    refine lv_iload hx hb dX6_step_199 (lv_at hl 0 rfl) ?_
                    refine lv_aload_n hx hb dX6_step_201 rfl (lv_at hl 4 rfl) ?_
                    refine va_get (D := (dC, dI)) (ci := 6) (v := .ref (ma 5)) (C := RX6) (T := TX6) (N := 44) hx hb hts kt_X6 hown hK hP 0 rfl rfl 5 (by decide) (kx_word hG kq_04_msmall_15 rfl) (fun _ h9 => h9) rfl dX6_step_202 ?_
                    refine lv_iload_n hx hb dX6_step_205 rfl (lv_at hl 6 rfl) ?_
                    refine ki_iald (F := F 5) hx hb hK hP 4 3 rfl rfl (by omega) (by omega) (by decide) dX6_step_206 ?_
                    refine ki_icmp_ge (tgt := 234) hx hb dX6_step_207 (by decide) (by omega) (by omega) (by omega) (by omega) (fun c_25 => ?_) (fun c_25 => ?_)
                    · skip
                      have lp234 : ∀ (n : Nat) (pz : Int), ((pa ≤ pz ∧ pz ≤ en)) → (en - pz).toNat < n → ∀ (H : Heap) (locs : List Loc), va_P (dC, dI) kxCl (mW mo ma cs I (va_up (va_up (va_up (va_up (va_up F 20 (upI (F 20) sd pa)) 22 (upI (F 22) sd (-1))) 23 (upI (F 23) sd 0)) 24 (upI (F 24) sd 0)) 21 (upI (F 21) sd (vp_nar .boolean (iz 1)).toInt))) H → va_D A (mW mo ma cs I (va_up (va_up (va_up (va_up (va_up F 20 (upI (F 20) sd pa)) 22 (upI (F 22) sd (-1))) 23 (upI (F 23) sd 0)) 24 (upI (F 24) sd 0)) 21 (upI (F 21) sd (vp_nar .boolean (iz 1)).toInt))) → va_S A s.heap H locs → ∀ ls : Array Slot, lv_has ls 7 [(6, .int (iz en)), (5, .int (iz (F 4 ((20 * p0) + pa)))), (4, .int (iz ps)), (3, .int (iz pz)), (0, .ref mo), (1, .int (iz sd)), (2, .int (iz p0))] → W p l e (headSpec [.code yX6_step cX6_step 7 none] ({ frames := 1, cells := 0, slots := 0, locals := 21 })).room s m ([.ref mo, .int (iz sd), .int (iz p0)] : List Value).toArray below meth c H locs 0 0 QQ (F0 m 234 ls []) := by
                        intro n
                        induction n with
                        | zero => intro pz hinv hm; exact absurd hm (Nat.not_lt_zero _)
                        | succ n ih234 =>
                          intro pz hinv hm H locs hP hD hS ls hl
                          have hpz := hinv
                          refine lv_iload_n hx hb dX6_step_234 rfl (lv_at hl 3 rfl) ?_
                          refine lv_iload hx hb dX6_step_235 (lv_at hl 0 rfl) ?_
                          refine ki_icmp_ge (tgt := 262) hx hb dX6_step_237 (by decide) (by omega) (by omega) (by omega) (by omega) (fun c_26 => ?_) (fun c_26 => ?_)
                          · skip
                            refine lv_aload_n hx hb dX6_step_262 rfl (lv_at hl 4 rfl) ?_
                            refine va_get (D := (dC, dI)) (ci := 6) (v := .ref (ma 22)) (C := RX6) (T := TX6) (N := 44) hx hb hts kt_X6 hown hK hP 0 rfl rfl 22 (by decide) (kx_word hG kq_05_morder_2 rfl) (fun _ h9 => h9) rfl dX6_step_263 ?_
                            refine lv_iload_n hx hb dX6_step_266 rfl (lv_at hl 5 rfl) ?_
                            refine lv_iconst (v := iz 1) hx hb dX6_step_267 (by decide) ?_
                            refine ki_iast (F := upI (F 22) sd (-1)) hx hb hK hP hD hS 17 16 rfl rfl (by omega) (by omega) (by decide) dX6_step_268 (fun H locs hP hD hS => ?_)
                            have hP : va_P (dC, dI) kxCl (mW mo ma cs I (va_up (va_up (va_up (va_up (va_up (va_up F 20 (upI (F 20) sd pa)) 22 (upI (F 22) sd (-1))) 23 (upI (F 23) sd 0)) 24 (upI (F 24) sd 0)) 21 (upI (F 21) sd (vp_nar .boolean (iz 1)).toInt)) 22 (upI (upI (F 22) sd (-1)) sd 1))) H := hP
                            have hD : va_D A (mW mo ma cs I (va_up (va_up (va_up (va_up (va_up (va_up F 20 (upI (F 20) sd pa)) 22 (upI (F 22) sd (-1))) 23 (upI (F 23) sd 0)) 24 (upI (F 24) sd 0)) 21 (upI (F 21) sd (vp_nar .boolean (iz 1)).toInt)) 22 (upI (upI (F 22) sd (-1)) sd 1))) := hD
                            refine lv_aload_n hx hb dX6_step_269 rfl (lv_at hl 4 rfl) ?_
                            refine va_get (D := (dC, dI)) (ci := 6) (v := .ref (ma 23)) (C := RX6) (T := TX6) (N := 44) hx hb hts kt_X6 hown hK hP 0 rfl rfl 23 (by decide) (kx_word hG kq_05_morder_3 rfl) (fun _ h9 => h9) rfl dX6_step_270 ?_
                            refine lv_iload_n hx hb dX6_step_273 rfl (lv_at hl 5 rfl) ?_
                            refine lv_bipush (v := iz 20) hx hb dX6_step_274 (by decide) ?_
                            refine lv_iload_n hx hb dX6_step_276 rfl (lv_at hl 6 rfl) ?_
                            refine ki_imul hx hb dX6_step_277 ?_
                            refine lv_iload_n hx hb dX6_step_278 rfl (lv_at hl 3 rfl) ?_
                            refine ki_iadd hx hb dX6_step_279 ?_
                            refine ki_iast (F := upI (F 23) sd 0) hx hb hK hP hD hS 18 17 rfl rfl (by omega) (by omega) (by decide) dX6_step_280 (fun H locs hP hD hS => ?_)
                            have hP : va_P (dC, dI) kxCl (mW mo ma cs I (va_up (va_up (va_up (va_up (va_up (va_up (va_up F 20 (upI (F 20) sd pa)) 22 (upI (F 22) sd (-1))) 23 (upI (F 23) sd 0)) 24 (upI (F 24) sd 0)) 21 (upI (F 21) sd (vp_nar .boolean (iz 1)).toInt)) 22 (upI (upI (F 22) sd (-1)) sd 1)) 23 (upI (upI (F 23) sd 0) sd ((20 * p0) + pz)))) H := hP
                            have hD : va_D A (mW mo ma cs I (va_up (va_up (va_up (va_up (va_up (va_up (va_up F 20 (upI (F 20) sd pa)) 22 (upI (F 22) sd (-1))) 23 (upI (F 23) sd 0)) 24 (upI (F 24) sd 0)) 21 (upI (F 21) sd (vp_nar .boolean (iz 1)).toInt)) 22 (upI (upI (F 22) sd (-1)) sd 1)) 23 (upI (upI (F 23) sd 0) sd ((20 * p0) + pz)))) := hD
                            refine lv_aload_n hx hb dX6_step_281 rfl (lv_at hl 4 rfl) ?_
                            refine va_get (D := (dC, dI)) (ci := 6) (v := .ref (ma 24)) (C := RX6) (T := TX6) (N := 44) hx hb hts kt_X6 hown hK hP 0 rfl rfl 24 (by decide) (kx_word hG kq_05_morder_4 rfl) (fun _ h9 => h9) rfl dX6_step_282 ?_
                            refine lv_iload_n hx hb dX6_step_285 rfl (lv_at hl 5 rfl) ?_
                            refine lv_iload hx hb dX6_step_286 (lv_at hl 0 rfl) ?_
                            refine lv_iload_n hx hb dX6_step_288 rfl (lv_at hl 3 rfl) ?_
                            refine ki_isub hx hb dX6_step_289 ?_
                            refine ki_iast (F := upI (F 24) sd 0) hx hb hK hP hD hS 19 18 rfl rfl (by omega) (by omega) (by decide) dX6_step_290 (fun H locs hP hD hS => ?_)
                            have hP : va_P (dC, dI) kxCl (mW mo ma cs I (va_up (va_up (va_up (va_up (va_up (va_up (va_up (va_up F 20 (upI (F 20) sd pa)) 22 (upI (F 22) sd (-1))) 23 (upI (F 23) sd 0)) 24 (upI (F 24) sd 0)) 21 (upI (F 21) sd (vp_nar .boolean (iz 1)).toInt)) 22 (upI (upI (F 22) sd (-1)) sd 1)) 23 (upI (upI (F 23) sd 0) sd ((20 * p0) + pz))) 24 (upI (upI (F 24) sd 0) sd (en - pz)))) H := hP
                            have hD : va_D A (mW mo ma cs I (va_up (va_up (va_up (va_up (va_up (va_up (va_up (va_up F 20 (upI (F 20) sd pa)) 22 (upI (F 22) sd (-1))) 23 (upI (F 23) sd 0)) 24 (upI (F 24) sd 0)) 21 (upI (F 21) sd (vp_nar .boolean (iz 1)).toInt)) 22 (upI (upI (F 22) sd (-1)) sd 1)) 23 (upI (upI (F 23) sd 0) sd ((20 * p0) + pz))) 24 (upI (upI (F 24) sd 0) sd (en - pz)))) := hD
                            refine lv_aload_n hx hb dX6_step_291 rfl (lv_at hl 4 rfl) ?_
                            refine va_get (D := (dC, dI)) (ci := 6) (v := .ref (ma 20)) (C := RX6) (T := TX6) (N := 44) hx hb hts kt_X6 hown hK hP 0 rfl rfl 20 (by decide) (kx_word hG kq_05_morder_0 rfl) (fun _ h9 => h9) rfl dX6_step_292 ?_
                            refine lv_iload_n hx hb dX6_step_295 rfl (lv_at hl 5 rfl) ?_
                            refine lv_iload hx hb dX6_step_296 (lv_at hl 0 rfl) ?_
                            refine ki_iast (F := upI (F 20) sd pa) hx hb hK hP hD hS 15 14 rfl rfl (by omega) (by omega) (by decide) dX6_step_298 (fun H locs hP hD hS => ?_)
                            have hP : va_P (dC, dI) kxCl (mW mo ma cs I (va_up (va_up (va_up (va_up (va_up (va_up (va_up (va_up (va_up F 20 (upI (F 20) sd pa)) 22 (upI (F 22) sd (-1))) 23 (upI (F 23) sd 0)) 24 (upI (F 24) sd 0)) 21 (upI (F 21) sd (vp_nar .boolean (iz 1)).toInt)) 22 (upI (upI (F 22) sd (-1)) sd 1)) 23 (upI (upI (F 23) sd 0) sd ((20 * p0) + pz))) 24 (upI (upI (F 24) sd 0) sd (en - pz))) 20 (upI (upI (F 20) sd pa) sd en))) H := hP
                            have hD : va_D A (mW mo ma cs I (va_up (va_up (va_up (va_up (va_up (va_up (va_up (va_up (va_up F 20 (upI (F 20) sd pa)) 22 (upI (F 22) sd (-1))) 23 (upI (F 23) sd 0)) 24 (upI (F 24) sd 0)) 21 (upI (F 21) sd (vp_nar .boolean (iz 1)).toInt)) 22 (upI (upI (F 22) sd (-1)) sd 1)) 23 (upI (upI (F 23) sd 0) sd ((20 * p0) + pz))) 24 (upI (upI (F 24) sd 0) sd (en - pz))) 20 (upI (upI (F 20) sd pa) sd en))) := hD
                            have e_27 : (va_up (va_up (va_up (va_up (va_up (va_up (va_up (va_up (va_up F 20 (upI (F 20) sd pa)) 22 (upI (F 22) sd (-1))) 23 (upI (F 23) sd 0)) 24 (upI (F 24) sd 0)) 21 (upI (F 21) sd (vp_nar .boolean (iz 1)).toInt)) 22 (upI (upI (F 22) sd (-1)) sd 1)) 23 (upI (upI (F 23) sd 0) sd ((20 * p0) + pz))) 24 (upI (upI (F 24) sd 0) sd (en - pz))) 20 (upI (upI (F 20) sd pa) sd en)) 20 sd = en := upI_self _ _ _
                            have e_28 : (va_up (va_up (va_up (va_up (va_up (va_up (va_up (va_up (va_up F 20 (upI (F 20) sd pa)) 22 (upI (F 22) sd (-1))) 23 (upI (F 23) sd 0)) 24 (upI (F 24) sd 0)) 21 (upI (F 21) sd (vp_nar .boolean (iz 1)).toInt)) 22 (upI (upI (F 22) sd (-1)) sd 1)) 23 (upI (upI (F 23) sd 0) sd ((20 * p0) + pz))) 24 (upI (upI (F 24) sd 0) sd (en - pz))) 20 (upI (upI (F 20) sd pa) sd en)) 22 sd = 1 := upI_self _ _ _
                            have e_29 : (va_up (va_up (va_up (va_up (va_up (va_up (va_up (va_up (va_up F 20 (upI (F 20) sd pa)) 22 (upI (F 22) sd (-1))) 23 (upI (F 23) sd 0)) 24 (upI (F 24) sd 0)) 21 (upI (F 21) sd (vp_nar .boolean (iz 1)).toInt)) 22 (upI (upI (F 22) sd (-1)) sd 1)) 23 (upI (upI (F 23) sd 0) sd ((20 * p0) + pz))) 24 (upI (upI (F 24) sd 0) sd (en - pz))) 20 (upI (upI (F 20) sd pa) sd en)) 23 sd = (20 * p0) + pz := upI_self _ _ _
                            have e_30 : (va_up (va_up (va_up (va_up (va_up (va_up (va_up (va_up (va_up F 20 (upI (F 20) sd pa)) 22 (upI (F 22) sd (-1))) 23 (upI (F 23) sd 0)) 24 (upI (F 24) sd 0)) 21 (upI (F 21) sd (vp_nar .boolean (iz 1)).toInt)) 22 (upI (upI (F 22) sd (-1)) sd 1)) 23 (upI (upI (F 23) sd 0) sd ((20 * p0) + pz))) 24 (upI (upI (F 24) sd 0) sd (en - pz))) 20 (upI (upI (F 20) sd pa) sd en)) 24 sd = en - pz := upI_self _ _ _
                            have e_31 : (va_up (va_up (va_up (va_up (va_up (va_up (va_up (va_up (va_up F 20 (upI (F 20) sd pa)) 22 (upI (F 22) sd (-1))) 23 (upI (F 23) sd 0)) 24 (upI (F 24) sd 0)) 21 (upI (F 21) sd (vp_nar .boolean (iz 1)).toInt)) 22 (upI (upI (F 22) sd (-1)) sd 1)) 23 (upI (upI (F 23) sd 0) sd ((20 * p0) + pz))) 24 (upI (upI (F 24) sd 0) sd (en - pz))) 20 (upI (upI (F 20) sd pa) sd en)) 21 sd = (vp_nar .boolean (iz 1)).toInt := upI_self _ _ _
                            rw [← hQe]
                            exact mk_ret hx hb hr hlocks hP hD hK hS dX6_step_299 (⟨rfl, (mB_f (mB_f (mB_f (mB_f (mB_f (mB_f (mB_f (mB_f (mB_f hB 20 sd (by omega) (by omega)) 22 sd (by omega) (by omega)) 23 sd (by omega) (by omega)) 24 sd (by omega) (by omega)) 21 sd (iz_lo _) (iz_hi _)) 22 sd (by omega) (by omega)) 23 sd (by omega) (by omega)) 24 sd (by omega) (by omega)) 20 sd (by omega) (by omega)), (mfr.upF (mfr.upF (mfr.upF (mfr.upF (mfr.upF (mfr.upF (mfr.upF (mfr.upF (mfr.upF mfr.rf (by decide) _) (by decide) _) (by decide) _) (by decide) _) (by decide) _) (by decide) _) (by decide) _) (by decide) _) (by decide) _), (mo1.up (mo1.up (mo1.up (mo1.up (mo1.up (mo1.up (mo1.up (mo1.up (mo1.up mo1.rf 20 _) 22 _) 23 _) 24 _) 21 _) 22 _) 23 _) 24 _) 20 _), by omega, by omega, by omega⟩)
                          · skip
                            refine lv_aload_n hx hb dX6_step_240 rfl (lv_at hl 4 rfl) ?_
                            refine va_get (D := (dC, dI)) (ci := 6) (v := .ref (ma 4)) (C := RX6) (T := TX6) (N := 44) hx hb hts kt_X6 hown hK hP 0 rfl rfl 4 (by decide) (kx_word hG kq_04_msmall_16 rfl) (fun _ h9 => h9) rfl dX6_step_241 ?_
                            refine lv_bipush (v := iz 20) hx hb dX6_step_244 (by decide) ?_
                            refine lv_iload_n hx hb dX6_step_246 rfl (lv_at hl 6 rfl) ?_
                            refine ki_imul hx hb dX6_step_247 ?_
                            refine lv_iload_n hx hb dX6_step_248 rfl (lv_at hl 3 rfl) ?_
                            refine ki_iadd hx hb dX6_step_249 ?_
                            refine ki_iald (F := F 4) hx hb hK hP 3 2 rfl rfl (by omega) (by omega) (by decide) dX6_step_250 ?_
                            have hbd_32 := hB.2 4 ((20 * p0) + pz)
                            refine lv_bipush (v := iz 48) hx hb dX6_step_251 (by decide) ?_
                            refine ki_icmp_ne (tgt := 262) hx hb dX6_step_253 (by decide) (by omega) (by omega) (by omega) (by omega) (fun c_33 => ?_) (fun c_33 => ?_)
                            · skip
                              refine lv_aload_n hx hb dX6_step_262 rfl (lv_at hl 4 rfl) ?_
                              refine va_get (D := (dC, dI)) (ci := 6) (v := .ref (ma 22)) (C := RX6) (T := TX6) (N := 44) hx hb hts kt_X6 hown hK hP 0 rfl rfl 22 (by decide) (kx_word hG kq_05_morder_2 rfl) (fun _ h9 => h9) rfl dX6_step_263 ?_
                              refine lv_iload_n hx hb dX6_step_266 rfl (lv_at hl 5 rfl) ?_
                              refine lv_iconst (v := iz 1) hx hb dX6_step_267 (by decide) ?_
                              refine ki_iast (F := upI (F 22) sd (-1)) hx hb hK hP hD hS 17 16 rfl rfl (by omega) (by omega) (by decide) dX6_step_268 (fun H locs hP hD hS => ?_)
                              have hP : va_P (dC, dI) kxCl (mW mo ma cs I (va_up (va_up (va_up (va_up (va_up (va_up F 20 (upI (F 20) sd pa)) 22 (upI (F 22) sd (-1))) 23 (upI (F 23) sd 0)) 24 (upI (F 24) sd 0)) 21 (upI (F 21) sd (vp_nar .boolean (iz 1)).toInt)) 22 (upI (upI (F 22) sd (-1)) sd 1))) H := hP
                              have hD : va_D A (mW mo ma cs I (va_up (va_up (va_up (va_up (va_up (va_up F 20 (upI (F 20) sd pa)) 22 (upI (F 22) sd (-1))) 23 (upI (F 23) sd 0)) 24 (upI (F 24) sd 0)) 21 (upI (F 21) sd (vp_nar .boolean (iz 1)).toInt)) 22 (upI (upI (F 22) sd (-1)) sd 1))) := hD
                              refine lv_aload_n hx hb dX6_step_269 rfl (lv_at hl 4 rfl) ?_
                              refine va_get (D := (dC, dI)) (ci := 6) (v := .ref (ma 23)) (C := RX6) (T := TX6) (N := 44) hx hb hts kt_X6 hown hK hP 0 rfl rfl 23 (by decide) (kx_word hG kq_05_morder_3 rfl) (fun _ h9 => h9) rfl dX6_step_270 ?_
                              refine lv_iload_n hx hb dX6_step_273 rfl (lv_at hl 5 rfl) ?_
                              refine lv_bipush (v := iz 20) hx hb dX6_step_274 (by decide) ?_
                              refine lv_iload_n hx hb dX6_step_276 rfl (lv_at hl 6 rfl) ?_
                              refine ki_imul hx hb dX6_step_277 ?_
                              refine lv_iload_n hx hb dX6_step_278 rfl (lv_at hl 3 rfl) ?_
                              refine ki_iadd hx hb dX6_step_279 ?_
                              refine ki_iast (F := upI (F 23) sd 0) hx hb hK hP hD hS 18 17 rfl rfl (by omega) (by omega) (by decide) dX6_step_280 (fun H locs hP hD hS => ?_)
                              have hP : va_P (dC, dI) kxCl (mW mo ma cs I (va_up (va_up (va_up (va_up (va_up (va_up (va_up F 20 (upI (F 20) sd pa)) 22 (upI (F 22) sd (-1))) 23 (upI (F 23) sd 0)) 24 (upI (F 24) sd 0)) 21 (upI (F 21) sd (vp_nar .boolean (iz 1)).toInt)) 22 (upI (upI (F 22) sd (-1)) sd 1)) 23 (upI (upI (F 23) sd 0) sd ((20 * p0) + pz)))) H := hP
                              have hD : va_D A (mW mo ma cs I (va_up (va_up (va_up (va_up (va_up (va_up (va_up F 20 (upI (F 20) sd pa)) 22 (upI (F 22) sd (-1))) 23 (upI (F 23) sd 0)) 24 (upI (F 24) sd 0)) 21 (upI (F 21) sd (vp_nar .boolean (iz 1)).toInt)) 22 (upI (upI (F 22) sd (-1)) sd 1)) 23 (upI (upI (F 23) sd 0) sd ((20 * p0) + pz)))) := hD
                              refine lv_aload_n hx hb dX6_step_281 rfl (lv_at hl 4 rfl) ?_
                              refine va_get (D := (dC, dI)) (ci := 6) (v := .ref (ma 24)) (C := RX6) (T := TX6) (N := 44) hx hb hts kt_X6 hown hK hP 0 rfl rfl 24 (by decide) (kx_word hG kq_05_morder_4 rfl) (fun _ h9 => h9) rfl dX6_step_282 ?_
                              refine lv_iload_n hx hb dX6_step_285 rfl (lv_at hl 5 rfl) ?_
                              refine lv_iload hx hb dX6_step_286 (lv_at hl 0 rfl) ?_
                              refine lv_iload_n hx hb dX6_step_288 rfl (lv_at hl 3 rfl) ?_
                              refine ki_isub hx hb dX6_step_289 ?_
                              refine ki_iast (F := upI (F 24) sd 0) hx hb hK hP hD hS 19 18 rfl rfl (by omega) (by omega) (by decide) dX6_step_290 (fun H locs hP hD hS => ?_)
                              have hP : va_P (dC, dI) kxCl (mW mo ma cs I (va_up (va_up (va_up (va_up (va_up (va_up (va_up (va_up F 20 (upI (F 20) sd pa)) 22 (upI (F 22) sd (-1))) 23 (upI (F 23) sd 0)) 24 (upI (F 24) sd 0)) 21 (upI (F 21) sd (vp_nar .boolean (iz 1)).toInt)) 22 (upI (upI (F 22) sd (-1)) sd 1)) 23 (upI (upI (F 23) sd 0) sd ((20 * p0) + pz))) 24 (upI (upI (F 24) sd 0) sd (en - pz)))) H := hP
                              have hD : va_D A (mW mo ma cs I (va_up (va_up (va_up (va_up (va_up (va_up (va_up (va_up F 20 (upI (F 20) sd pa)) 22 (upI (F 22) sd (-1))) 23 (upI (F 23) sd 0)) 24 (upI (F 24) sd 0)) 21 (upI (F 21) sd (vp_nar .boolean (iz 1)).toInt)) 22 (upI (upI (F 22) sd (-1)) sd 1)) 23 (upI (upI (F 23) sd 0) sd ((20 * p0) + pz))) 24 (upI (upI (F 24) sd 0) sd (en - pz)))) := hD
                              refine lv_aload_n hx hb dX6_step_291 rfl (lv_at hl 4 rfl) ?_
                              refine va_get (D := (dC, dI)) (ci := 6) (v := .ref (ma 20)) (C := RX6) (T := TX6) (N := 44) hx hb hts kt_X6 hown hK hP 0 rfl rfl 20 (by decide) (kx_word hG kq_05_morder_0 rfl) (fun _ h9 => h9) rfl dX6_step_292 ?_
                              refine lv_iload_n hx hb dX6_step_295 rfl (lv_at hl 5 rfl) ?_
                              refine lv_iload hx hb dX6_step_296 (lv_at hl 0 rfl) ?_
                              refine ki_iast (F := upI (F 20) sd pa) hx hb hK hP hD hS 15 14 rfl rfl (by omega) (by omega) (by decide) dX6_step_298 (fun H locs hP hD hS => ?_)
                              have hP : va_P (dC, dI) kxCl (mW mo ma cs I (va_up (va_up (va_up (va_up (va_up (va_up (va_up (va_up (va_up F 20 (upI (F 20) sd pa)) 22 (upI (F 22) sd (-1))) 23 (upI (F 23) sd 0)) 24 (upI (F 24) sd 0)) 21 (upI (F 21) sd (vp_nar .boolean (iz 1)).toInt)) 22 (upI (upI (F 22) sd (-1)) sd 1)) 23 (upI (upI (F 23) sd 0) sd ((20 * p0) + pz))) 24 (upI (upI (F 24) sd 0) sd (en - pz))) 20 (upI (upI (F 20) sd pa) sd en))) H := hP
                              have hD : va_D A (mW mo ma cs I (va_up (va_up (va_up (va_up (va_up (va_up (va_up (va_up (va_up F 20 (upI (F 20) sd pa)) 22 (upI (F 22) sd (-1))) 23 (upI (F 23) sd 0)) 24 (upI (F 24) sd 0)) 21 (upI (F 21) sd (vp_nar .boolean (iz 1)).toInt)) 22 (upI (upI (F 22) sd (-1)) sd 1)) 23 (upI (upI (F 23) sd 0) sd ((20 * p0) + pz))) 24 (upI (upI (F 24) sd 0) sd (en - pz))) 20 (upI (upI (F 20) sd pa) sd en))) := hD
                              have e_34 : (va_up (va_up (va_up (va_up (va_up (va_up (va_up (va_up (va_up F 20 (upI (F 20) sd pa)) 22 (upI (F 22) sd (-1))) 23 (upI (F 23) sd 0)) 24 (upI (F 24) sd 0)) 21 (upI (F 21) sd (vp_nar .boolean (iz 1)).toInt)) 22 (upI (upI (F 22) sd (-1)) sd 1)) 23 (upI (upI (F 23) sd 0) sd ((20 * p0) + pz))) 24 (upI (upI (F 24) sd 0) sd (en - pz))) 20 (upI (upI (F 20) sd pa) sd en)) 20 sd = en := upI_self _ _ _
                              have e_35 : (va_up (va_up (va_up (va_up (va_up (va_up (va_up (va_up (va_up F 20 (upI (F 20) sd pa)) 22 (upI (F 22) sd (-1))) 23 (upI (F 23) sd 0)) 24 (upI (F 24) sd 0)) 21 (upI (F 21) sd (vp_nar .boolean (iz 1)).toInt)) 22 (upI (upI (F 22) sd (-1)) sd 1)) 23 (upI (upI (F 23) sd 0) sd ((20 * p0) + pz))) 24 (upI (upI (F 24) sd 0) sd (en - pz))) 20 (upI (upI (F 20) sd pa) sd en)) 22 sd = 1 := upI_self _ _ _
                              have e_36 : (va_up (va_up (va_up (va_up (va_up (va_up (va_up (va_up (va_up F 20 (upI (F 20) sd pa)) 22 (upI (F 22) sd (-1))) 23 (upI (F 23) sd 0)) 24 (upI (F 24) sd 0)) 21 (upI (F 21) sd (vp_nar .boolean (iz 1)).toInt)) 22 (upI (upI (F 22) sd (-1)) sd 1)) 23 (upI (upI (F 23) sd 0) sd ((20 * p0) + pz))) 24 (upI (upI (F 24) sd 0) sd (en - pz))) 20 (upI (upI (F 20) sd pa) sd en)) 23 sd = (20 * p0) + pz := upI_self _ _ _
                              have e_37 : (va_up (va_up (va_up (va_up (va_up (va_up (va_up (va_up (va_up F 20 (upI (F 20) sd pa)) 22 (upI (F 22) sd (-1))) 23 (upI (F 23) sd 0)) 24 (upI (F 24) sd 0)) 21 (upI (F 21) sd (vp_nar .boolean (iz 1)).toInt)) 22 (upI (upI (F 22) sd (-1)) sd 1)) 23 (upI (upI (F 23) sd 0) sd ((20 * p0) + pz))) 24 (upI (upI (F 24) sd 0) sd (en - pz))) 20 (upI (upI (F 20) sd pa) sd en)) 24 sd = en - pz := upI_self _ _ _
                              have e_38 : (va_up (va_up (va_up (va_up (va_up (va_up (va_up (va_up (va_up F 20 (upI (F 20) sd pa)) 22 (upI (F 22) sd (-1))) 23 (upI (F 23) sd 0)) 24 (upI (F 24) sd 0)) 21 (upI (F 21) sd (vp_nar .boolean (iz 1)).toInt)) 22 (upI (upI (F 22) sd (-1)) sd 1)) 23 (upI (upI (F 23) sd 0) sd ((20 * p0) + pz))) 24 (upI (upI (F 24) sd 0) sd (en - pz))) 20 (upI (upI (F 20) sd pa) sd en)) 21 sd = (vp_nar .boolean (iz 1)).toInt := upI_self _ _ _
                              rw [← hQe]
                              exact mk_ret hx hb hr hlocks hP hD hK hS dX6_step_299 (⟨rfl, (mB_f (mB_f (mB_f (mB_f (mB_f (mB_f (mB_f (mB_f (mB_f hB 20 sd (by omega) (by omega)) 22 sd (by omega) (by omega)) 23 sd (by omega) (by omega)) 24 sd (by omega) (by omega)) 21 sd (iz_lo _) (iz_hi _)) 22 sd (by omega) (by omega)) 23 sd (by omega) (by omega)) 24 sd (by omega) (by omega)) 20 sd (by omega) (by omega)), (mfr.upF (mfr.upF (mfr.upF (mfr.upF (mfr.upF (mfr.upF (mfr.upF (mfr.upF (mfr.upF mfr.rf (by decide) _) (by decide) _) (by decide) _) (by decide) _) (by decide) _) (by decide) _) (by decide) _) (by decide) _) (by decide) _), (mo1.up (mo1.up (mo1.up (mo1.up (mo1.up (mo1.up (mo1.up (mo1.up (mo1.up mo1.rf 20 _) 22 _) 23 _) 24 _) 21 _) 22 _) 23 _) 24 _) 20 _), by omega, by omega, by omega⟩)
                            · skip
                              refine lv_iinc (v := iz (pz + 1)) (lv' := [(3, .int (iz (pz + 1))), (6, .int (iz en)), (5, .int (iz (F 4 ((20 * p0) + pa)))), (4, .int (iz ps)), (0, .ref mo), (1, .int (iz sd)), (2, .int (iz p0))]) hx hb dX6_step_256 hl (k := 3) rfl (iz_add pz 1) (by decide) rfl (fun ls hl => ?_)
                              refine lv_goto (tgt := 234) hx hb dX6_step_259 (by decide) ?_
                              exact ih234 (pz + 1) (by omega) (by omega) _ _ hP hD hS ls (lv_sub hl [1, 2, 3, 0, 4, 5, 6] rfl)
                      exact lp234 _ pa (by omega) (Nat.lt_succ_self _) _ _ hP hD hS ls (lv_sub hl [0, 1, 2, 3, 4, 5, 6] rfl)
                    · skip
                      refine lv_aload_n hx hb dX6_step_210 rfl (lv_at hl 4 rfl) ?_
                      refine va_get (D := (dC, dI)) (ci := 6) (v := .ref (ma 4)) (C := RX6) (T := TX6) (N := 44) hx hb hts kt_X6 hown hK hP 0 rfl rfl 4 (by decide) (kx_word hG kq_04_msmall_16 rfl) (fun _ h9 => h9) rfl dX6_step_211 ?_
                      refine lv_bipush (v := iz 20) hx hb dX6_step_214 (by decide) ?_
                      refine lv_iload_n hx hb dX6_step_216 rfl (lv_at hl 6 rfl) ?_
                      refine ki_imul hx hb dX6_step_217 ?_
                      refine lv_iload hx hb dX6_step_218 (lv_at hl 0 rfl) ?_
                      refine ki_iadd hx hb dX6_step_220 ?_
                      refine ki_iald (F := F 4) hx hb hK hP 3 2 rfl rfl (by omega) (by omega) (by decide) dX6_step_221 ?_
                      have hbd_39 := hB.2 4 ((20 * p0) + en)
                      refine mk_calls (As := [.int (iz (F 4 ((20 * p0) + en)))]) (rest := []) ⟨hx, hb, hml, hown, hts⟩ (k_isNumber l dC dI (F 4 ((20 * p0) + en)) H.size (by omega) (by omega)) (va_cwS 1 hts (kx_gS kq_05_morder_8 kq_05_morder_9 kq_04_msmall_6 kq_05_morder_10 rfl) rfl rfl rfl (by decide +kernel) ⟨Nat.le_of_ble_eq_true rfl, Nat.le_of_ble_eq_true rfl⟩) hP hD hK hG hZ hS hA rfl hl.1 rfl (Nat.le_of_ble_eq_true rfl) dX6_step_222 ⟨Nat.le_of_ble_eq_true rfl, Nat.le_of_ble_eq_true rfl⟩ (fun z_40 H locs hq_41 hP hS => ?_)
                      try dsimp only at hq_41
                      refine ki_if_eq (tgt := 234) hx hb dX6_step_225 (by decide) (by omega) (by omega) (fun c_42 => ?_) (fun c_42 => ?_)
                      · skip
                        have lp234 : ∀ (n : Nat) (pz : Int), ((pa ≤ pz ∧ pz ≤ en)) → (en - pz).toNat < n → ∀ (H : Heap) (locs : List Loc), va_P (dC, dI) kxCl (mW mo ma cs I (va_up (va_up (va_up (va_up (va_up F 20 (upI (F 20) sd pa)) 22 (upI (F 22) sd (-1))) 23 (upI (F 23) sd 0)) 24 (upI (F 24) sd 0)) 21 (upI (F 21) sd (vp_nar .boolean (iz 1)).toInt))) H → va_D A (mW mo ma cs I (va_up (va_up (va_up (va_up (va_up F 20 (upI (F 20) sd pa)) 22 (upI (F 22) sd (-1))) 23 (upI (F 23) sd 0)) 24 (upI (F 24) sd 0)) 21 (upI (F 21) sd (vp_nar .boolean (iz 1)).toInt))) → va_S A s.heap H locs → ∀ ls : Array Slot, lv_has ls 7 [(6, .int (iz en)), (5, .int (iz (F 4 ((20 * p0) + pa)))), (4, .int (iz ps)), (3, .int (iz pz)), (0, .ref mo), (1, .int (iz sd)), (2, .int (iz p0))] → W p l e (headSpec [.code yX6_step cX6_step 7 none] ({ frames := 1, cells := 0, slots := 0, locals := 21 })).room s m ([.ref mo, .int (iz sd), .int (iz p0)] : List Value).toArray below meth c H locs 0 0 QQ (F0 m 234 ls []) := by
                          intro n
                          induction n with
                          | zero => intro pz hinv hm; exact absurd hm (Nat.not_lt_zero _)
                          | succ n ih234 =>
                            intro pz hinv hm H locs hP hD hS ls hl
                            have hpz := hinv
                            refine lv_iload_n hx hb dX6_step_234 rfl (lv_at hl 3 rfl) ?_
                            refine lv_iload hx hb dX6_step_235 (lv_at hl 0 rfl) ?_
                            refine ki_icmp_ge (tgt := 262) hx hb dX6_step_237 (by decide) (by omega) (by omega) (by omega) (by omega) (fun c_43 => ?_) (fun c_43 => ?_)
                            · skip
                              refine lv_aload_n hx hb dX6_step_262 rfl (lv_at hl 4 rfl) ?_
                              refine va_get (D := (dC, dI)) (ci := 6) (v := .ref (ma 22)) (C := RX6) (T := TX6) (N := 44) hx hb hts kt_X6 hown hK hP 0 rfl rfl 22 (by decide) (kx_word hG kq_05_morder_2 rfl) (fun _ h9 => h9) rfl dX6_step_263 ?_
                              refine lv_iload_n hx hb dX6_step_266 rfl (lv_at hl 5 rfl) ?_
                              refine lv_iconst (v := iz 1) hx hb dX6_step_267 (by decide) ?_
                              refine ki_iast (F := upI (F 22) sd (-1)) hx hb hK hP hD hS 17 16 rfl rfl (by omega) (by omega) (by decide) dX6_step_268 (fun H locs hP hD hS => ?_)
                              have hP : va_P (dC, dI) kxCl (mW mo ma cs I (va_up (va_up (va_up (va_up (va_up (va_up F 20 (upI (F 20) sd pa)) 22 (upI (F 22) sd (-1))) 23 (upI (F 23) sd 0)) 24 (upI (F 24) sd 0)) 21 (upI (F 21) sd (vp_nar .boolean (iz 1)).toInt)) 22 (upI (upI (F 22) sd (-1)) sd 1))) H := hP
                              have hD : va_D A (mW mo ma cs I (va_up (va_up (va_up (va_up (va_up (va_up F 20 (upI (F 20) sd pa)) 22 (upI (F 22) sd (-1))) 23 (upI (F 23) sd 0)) 24 (upI (F 24) sd 0)) 21 (upI (F 21) sd (vp_nar .boolean (iz 1)).toInt)) 22 (upI (upI (F 22) sd (-1)) sd 1))) := hD
                              refine lv_aload_n hx hb dX6_step_269 rfl (lv_at hl 4 rfl) ?_
                              refine va_get (D := (dC, dI)) (ci := 6) (v := .ref (ma 23)) (C := RX6) (T := TX6) (N := 44) hx hb hts kt_X6 hown hK hP 0 rfl rfl 23 (by decide) (kx_word hG kq_05_morder_3 rfl) (fun _ h9 => h9) rfl dX6_step_270 ?_
                              refine lv_iload_n hx hb dX6_step_273 rfl (lv_at hl 5 rfl) ?_
                              refine lv_bipush (v := iz 20) hx hb dX6_step_274 (by decide) ?_
                              refine lv_iload_n hx hb dX6_step_276 rfl (lv_at hl 6 rfl) ?_
                              refine ki_imul hx hb dX6_step_277 ?_
                              refine lv_iload_n hx hb dX6_step_278 rfl (lv_at hl 3 rfl) ?_
                              refine ki_iadd hx hb dX6_step_279 ?_
                              refine ki_iast (F := upI (F 23) sd 0) hx hb hK hP hD hS 18 17 rfl rfl (by omega) (by omega) (by decide) dX6_step_280 (fun H locs hP hD hS => ?_)
                              have hP : va_P (dC, dI) kxCl (mW mo ma cs I (va_up (va_up (va_up (va_up (va_up (va_up (va_up F 20 (upI (F 20) sd pa)) 22 (upI (F 22) sd (-1))) 23 (upI (F 23) sd 0)) 24 (upI (F 24) sd 0)) 21 (upI (F 21) sd (vp_nar .boolean (iz 1)).toInt)) 22 (upI (upI (F 22) sd (-1)) sd 1)) 23 (upI (upI (F 23) sd 0) sd ((20 * p0) + pz)))) H := hP
                              have hD : va_D A (mW mo ma cs I (va_up (va_up (va_up (va_up (va_up (va_up (va_up F 20 (upI (F 20) sd pa)) 22 (upI (F 22) sd (-1))) 23 (upI (F 23) sd 0)) 24 (upI (F 24) sd 0)) 21 (upI (F 21) sd (vp_nar .boolean (iz 1)).toInt)) 22 (upI (upI (F 22) sd (-1)) sd 1)) 23 (upI (upI (F 23) sd 0) sd ((20 * p0) + pz)))) := hD
                              refine lv_aload_n hx hb dX6_step_281 rfl (lv_at hl 4 rfl) ?_
                              refine va_get (D := (dC, dI)) (ci := 6) (v := .ref (ma 24)) (C := RX6) (T := TX6) (N := 44) hx hb hts kt_X6 hown hK hP 0 rfl rfl 24 (by decide) (kx_word hG kq_05_morder_4 rfl) (fun _ h9 => h9) rfl dX6_step_282 ?_
                              refine lv_iload_n hx hb dX6_step_285 rfl (lv_at hl 5 rfl) ?_
                              refine lv_iload hx hb dX6_step_286 (lv_at hl 0 rfl) ?_
                              refine lv_iload_n hx hb dX6_step_288 rfl (lv_at hl 3 rfl) ?_
                              refine ki_isub hx hb dX6_step_289 ?_
                              refine ki_iast (F := upI (F 24) sd 0) hx hb hK hP hD hS 19 18 rfl rfl (by omega) (by omega) (by decide) dX6_step_290 (fun H locs hP hD hS => ?_)
                              have hP : va_P (dC, dI) kxCl (mW mo ma cs I (va_up (va_up (va_up (va_up (va_up (va_up (va_up (va_up F 20 (upI (F 20) sd pa)) 22 (upI (F 22) sd (-1))) 23 (upI (F 23) sd 0)) 24 (upI (F 24) sd 0)) 21 (upI (F 21) sd (vp_nar .boolean (iz 1)).toInt)) 22 (upI (upI (F 22) sd (-1)) sd 1)) 23 (upI (upI (F 23) sd 0) sd ((20 * p0) + pz))) 24 (upI (upI (F 24) sd 0) sd (en - pz)))) H := hP
                              have hD : va_D A (mW mo ma cs I (va_up (va_up (va_up (va_up (va_up (va_up (va_up (va_up F 20 (upI (F 20) sd pa)) 22 (upI (F 22) sd (-1))) 23 (upI (F 23) sd 0)) 24 (upI (F 24) sd 0)) 21 (upI (F 21) sd (vp_nar .boolean (iz 1)).toInt)) 22 (upI (upI (F 22) sd (-1)) sd 1)) 23 (upI (upI (F 23) sd 0) sd ((20 * p0) + pz))) 24 (upI (upI (F 24) sd 0) sd (en - pz)))) := hD
                              refine lv_aload_n hx hb dX6_step_291 rfl (lv_at hl 4 rfl) ?_
                              refine va_get (D := (dC, dI)) (ci := 6) (v := .ref (ma 20)) (C := RX6) (T := TX6) (N := 44) hx hb hts kt_X6 hown hK hP 0 rfl rfl 20 (by decide) (kx_word hG kq_05_morder_0 rfl) (fun _ h9 => h9) rfl dX6_step_292 ?_
                              refine lv_iload_n hx hb dX6_step_295 rfl (lv_at hl 5 rfl) ?_
                              refine lv_iload hx hb dX6_step_296 (lv_at hl 0 rfl) ?_
                              refine ki_iast (F := upI (F 20) sd pa) hx hb hK hP hD hS 15 14 rfl rfl (by omega) (by omega) (by decide) dX6_step_298 (fun H locs hP hD hS => ?_)
                              have hP : va_P (dC, dI) kxCl (mW mo ma cs I (va_up (va_up (va_up (va_up (va_up (va_up (va_up (va_up (va_up F 20 (upI (F 20) sd pa)) 22 (upI (F 22) sd (-1))) 23 (upI (F 23) sd 0)) 24 (upI (F 24) sd 0)) 21 (upI (F 21) sd (vp_nar .boolean (iz 1)).toInt)) 22 (upI (upI (F 22) sd (-1)) sd 1)) 23 (upI (upI (F 23) sd 0) sd ((20 * p0) + pz))) 24 (upI (upI (F 24) sd 0) sd (en - pz))) 20 (upI (upI (F 20) sd pa) sd en))) H := hP
                              have hD : va_D A (mW mo ma cs I (va_up (va_up (va_up (va_up (va_up (va_up (va_up (va_up (va_up F 20 (upI (F 20) sd pa)) 22 (upI (F 22) sd (-1))) 23 (upI (F 23) sd 0)) 24 (upI (F 24) sd 0)) 21 (upI (F 21) sd (vp_nar .boolean (iz 1)).toInt)) 22 (upI (upI (F 22) sd (-1)) sd 1)) 23 (upI (upI (F 23) sd 0) sd ((20 * p0) + pz))) 24 (upI (upI (F 24) sd 0) sd (en - pz))) 20 (upI (upI (F 20) sd pa) sd en))) := hD
                              have e_44 : (va_up (va_up (va_up (va_up (va_up (va_up (va_up (va_up (va_up F 20 (upI (F 20) sd pa)) 22 (upI (F 22) sd (-1))) 23 (upI (F 23) sd 0)) 24 (upI (F 24) sd 0)) 21 (upI (F 21) sd (vp_nar .boolean (iz 1)).toInt)) 22 (upI (upI (F 22) sd (-1)) sd 1)) 23 (upI (upI (F 23) sd 0) sd ((20 * p0) + pz))) 24 (upI (upI (F 24) sd 0) sd (en - pz))) 20 (upI (upI (F 20) sd pa) sd en)) 20 sd = en := upI_self _ _ _
                              have e_45 : (va_up (va_up (va_up (va_up (va_up (va_up (va_up (va_up (va_up F 20 (upI (F 20) sd pa)) 22 (upI (F 22) sd (-1))) 23 (upI (F 23) sd 0)) 24 (upI (F 24) sd 0)) 21 (upI (F 21) sd (vp_nar .boolean (iz 1)).toInt)) 22 (upI (upI (F 22) sd (-1)) sd 1)) 23 (upI (upI (F 23) sd 0) sd ((20 * p0) + pz))) 24 (upI (upI (F 24) sd 0) sd (en - pz))) 20 (upI (upI (F 20) sd pa) sd en)) 22 sd = 1 := upI_self _ _ _
                              have e_46 : (va_up (va_up (va_up (va_up (va_up (va_up (va_up (va_up (va_up F 20 (upI (F 20) sd pa)) 22 (upI (F 22) sd (-1))) 23 (upI (F 23) sd 0)) 24 (upI (F 24) sd 0)) 21 (upI (F 21) sd (vp_nar .boolean (iz 1)).toInt)) 22 (upI (upI (F 22) sd (-1)) sd 1)) 23 (upI (upI (F 23) sd 0) sd ((20 * p0) + pz))) 24 (upI (upI (F 24) sd 0) sd (en - pz))) 20 (upI (upI (F 20) sd pa) sd en)) 23 sd = (20 * p0) + pz := upI_self _ _ _
                              have e_47 : (va_up (va_up (va_up (va_up (va_up (va_up (va_up (va_up (va_up F 20 (upI (F 20) sd pa)) 22 (upI (F 22) sd (-1))) 23 (upI (F 23) sd 0)) 24 (upI (F 24) sd 0)) 21 (upI (F 21) sd (vp_nar .boolean (iz 1)).toInt)) 22 (upI (upI (F 22) sd (-1)) sd 1)) 23 (upI (upI (F 23) sd 0) sd ((20 * p0) + pz))) 24 (upI (upI (F 24) sd 0) sd (en - pz))) 20 (upI (upI (F 20) sd pa) sd en)) 24 sd = en - pz := upI_self _ _ _
                              have e_48 : (va_up (va_up (va_up (va_up (va_up (va_up (va_up (va_up (va_up F 20 (upI (F 20) sd pa)) 22 (upI (F 22) sd (-1))) 23 (upI (F 23) sd 0)) 24 (upI (F 24) sd 0)) 21 (upI (F 21) sd (vp_nar .boolean (iz 1)).toInt)) 22 (upI (upI (F 22) sd (-1)) sd 1)) 23 (upI (upI (F 23) sd 0) sd ((20 * p0) + pz))) 24 (upI (upI (F 24) sd 0) sd (en - pz))) 20 (upI (upI (F 20) sd pa) sd en)) 21 sd = (vp_nar .boolean (iz 1)).toInt := upI_self _ _ _
                              rw [← hQe]
                              exact mk_ret hx hb hr hlocks hP hD hK hS dX6_step_299 (⟨rfl, (mB_f (mB_f (mB_f (mB_f (mB_f (mB_f (mB_f (mB_f (mB_f hB 20 sd (by omega) (by omega)) 22 sd (by omega) (by omega)) 23 sd (by omega) (by omega)) 24 sd (by omega) (by omega)) 21 sd (iz_lo _) (iz_hi _)) 22 sd (by omega) (by omega)) 23 sd (by omega) (by omega)) 24 sd (by omega) (by omega)) 20 sd (by omega) (by omega)), (mfr.upF (mfr.upF (mfr.upF (mfr.upF (mfr.upF (mfr.upF (mfr.upF (mfr.upF (mfr.upF mfr.rf (by decide) _) (by decide) _) (by decide) _) (by decide) _) (by decide) _) (by decide) _) (by decide) _) (by decide) _) (by decide) _), (mo1.up (mo1.up (mo1.up (mo1.up (mo1.up (mo1.up (mo1.up (mo1.up (mo1.up mo1.rf 20 _) 22 _) 23 _) 24 _) 21 _) 22 _) 23 _) 24 _) 20 _), by omega, by omega, by omega⟩)
                            · skip
                              refine lv_aload_n hx hb dX6_step_240 rfl (lv_at hl 4 rfl) ?_
                              refine va_get (D := (dC, dI)) (ci := 6) (v := .ref (ma 4)) (C := RX6) (T := TX6) (N := 44) hx hb hts kt_X6 hown hK hP 0 rfl rfl 4 (by decide) (kx_word hG kq_04_msmall_16 rfl) (fun _ h9 => h9) rfl dX6_step_241 ?_
                              refine lv_bipush (v := iz 20) hx hb dX6_step_244 (by decide) ?_
                              refine lv_iload_n hx hb dX6_step_246 rfl (lv_at hl 6 rfl) ?_
                              refine ki_imul hx hb dX6_step_247 ?_
                              refine lv_iload_n hx hb dX6_step_248 rfl (lv_at hl 3 rfl) ?_
                              refine ki_iadd hx hb dX6_step_249 ?_
                              refine ki_iald (F := F 4) hx hb hK hP 3 2 rfl rfl (by omega) (by omega) (by decide) dX6_step_250 ?_
                              have hbd_49 := hB.2 4 ((20 * p0) + pz)
                              refine lv_bipush (v := iz 48) hx hb dX6_step_251 (by decide) ?_
                              refine ki_icmp_ne (tgt := 262) hx hb dX6_step_253 (by decide) (by omega) (by omega) (by omega) (by omega) (fun c_50 => ?_) (fun c_50 => ?_)
                              · skip
                                refine lv_aload_n hx hb dX6_step_262 rfl (lv_at hl 4 rfl) ?_
                                refine va_get (D := (dC, dI)) (ci := 6) (v := .ref (ma 22)) (C := RX6) (T := TX6) (N := 44) hx hb hts kt_X6 hown hK hP 0 rfl rfl 22 (by decide) (kx_word hG kq_05_morder_2 rfl) (fun _ h9 => h9) rfl dX6_step_263 ?_
                                refine lv_iload_n hx hb dX6_step_266 rfl (lv_at hl 5 rfl) ?_
                                refine lv_iconst (v := iz 1) hx hb dX6_step_267 (by decide) ?_
                                refine ki_iast (F := upI (F 22) sd (-1)) hx hb hK hP hD hS 17 16 rfl rfl (by omega) (by omega) (by decide) dX6_step_268 (fun H locs hP hD hS => ?_)
                                have hP : va_P (dC, dI) kxCl (mW mo ma cs I (va_up (va_up (va_up (va_up (va_up (va_up F 20 (upI (F 20) sd pa)) 22 (upI (F 22) sd (-1))) 23 (upI (F 23) sd 0)) 24 (upI (F 24) sd 0)) 21 (upI (F 21) sd (vp_nar .boolean (iz 1)).toInt)) 22 (upI (upI (F 22) sd (-1)) sd 1))) H := hP
                                have hD : va_D A (mW mo ma cs I (va_up (va_up (va_up (va_up (va_up (va_up F 20 (upI (F 20) sd pa)) 22 (upI (F 22) sd (-1))) 23 (upI (F 23) sd 0)) 24 (upI (F 24) sd 0)) 21 (upI (F 21) sd (vp_nar .boolean (iz 1)).toInt)) 22 (upI (upI (F 22) sd (-1)) sd 1))) := hD
                                refine lv_aload_n hx hb dX6_step_269 rfl (lv_at hl 4 rfl) ?_
                                refine va_get (D := (dC, dI)) (ci := 6) (v := .ref (ma 23)) (C := RX6) (T := TX6) (N := 44) hx hb hts kt_X6 hown hK hP 0 rfl rfl 23 (by decide) (kx_word hG kq_05_morder_3 rfl) (fun _ h9 => h9) rfl dX6_step_270 ?_
                                refine lv_iload_n hx hb dX6_step_273 rfl (lv_at hl 5 rfl) ?_
                                refine lv_bipush (v := iz 20) hx hb dX6_step_274 (by decide) ?_
                                refine lv_iload_n hx hb dX6_step_276 rfl (lv_at hl 6 rfl) ?_
                                refine ki_imul hx hb dX6_step_277 ?_
                                refine lv_iload_n hx hb dX6_step_278 rfl (lv_at hl 3 rfl) ?_
                                refine ki_iadd hx hb dX6_step_279 ?_
                                refine ki_iast (F := upI (F 23) sd 0) hx hb hK hP hD hS 18 17 rfl rfl (by omega) (by omega) (by decide) dX6_step_280 (fun H locs hP hD hS => ?_)
                                have hP : va_P (dC, dI) kxCl (mW mo ma cs I (va_up (va_up (va_up (va_up (va_up (va_up (va_up F 20 (upI (F 20) sd pa)) 22 (upI (F 22) sd (-1))) 23 (upI (F 23) sd 0)) 24 (upI (F 24) sd 0)) 21 (upI (F 21) sd (vp_nar .boolean (iz 1)).toInt)) 22 (upI (upI (F 22) sd (-1)) sd 1)) 23 (upI (upI (F 23) sd 0) sd ((20 * p0) + pz)))) H := hP
                                have hD : va_D A (mW mo ma cs I (va_up (va_up (va_up (va_up (va_up (va_up (va_up F 20 (upI (F 20) sd pa)) 22 (upI (F 22) sd (-1))) 23 (upI (F 23) sd 0)) 24 (upI (F 24) sd 0)) 21 (upI (F 21) sd (vp_nar .boolean (iz 1)).toInt)) 22 (upI (upI (F 22) sd (-1)) sd 1)) 23 (upI (upI (F 23) sd 0) sd ((20 * p0) + pz)))) := hD
                                refine lv_aload_n hx hb dX6_step_281 rfl (lv_at hl 4 rfl) ?_
                                refine va_get (D := (dC, dI)) (ci := 6) (v := .ref (ma 24)) (C := RX6) (T := TX6) (N := 44) hx hb hts kt_X6 hown hK hP 0 rfl rfl 24 (by decide) (kx_word hG kq_05_morder_4 rfl) (fun _ h9 => h9) rfl dX6_step_282 ?_
                                refine lv_iload_n hx hb dX6_step_285 rfl (lv_at hl 5 rfl) ?_
                                refine lv_iload hx hb dX6_step_286 (lv_at hl 0 rfl) ?_
                                refine lv_iload_n hx hb dX6_step_288 rfl (lv_at hl 3 rfl) ?_
                                refine ki_isub hx hb dX6_step_289 ?_
                                refine ki_iast (F := upI (F 24) sd 0) hx hb hK hP hD hS 19 18 rfl rfl (by omega) (by omega) (by decide) dX6_step_290 (fun H locs hP hD hS => ?_)
                                have hP : va_P (dC, dI) kxCl (mW mo ma cs I (va_up (va_up (va_up (va_up (va_up (va_up (va_up (va_up F 20 (upI (F 20) sd pa)) 22 (upI (F 22) sd (-1))) 23 (upI (F 23) sd 0)) 24 (upI (F 24) sd 0)) 21 (upI (F 21) sd (vp_nar .boolean (iz 1)).toInt)) 22 (upI (upI (F 22) sd (-1)) sd 1)) 23 (upI (upI (F 23) sd 0) sd ((20 * p0) + pz))) 24 (upI (upI (F 24) sd 0) sd (en - pz)))) H := hP
                                have hD : va_D A (mW mo ma cs I (va_up (va_up (va_up (va_up (va_up (va_up (va_up (va_up F 20 (upI (F 20) sd pa)) 22 (upI (F 22) sd (-1))) 23 (upI (F 23) sd 0)) 24 (upI (F 24) sd 0)) 21 (upI (F 21) sd (vp_nar .boolean (iz 1)).toInt)) 22 (upI (upI (F 22) sd (-1)) sd 1)) 23 (upI (upI (F 23) sd 0) sd ((20 * p0) + pz))) 24 (upI (upI (F 24) sd 0) sd (en - pz)))) := hD
                                refine lv_aload_n hx hb dX6_step_291 rfl (lv_at hl 4 rfl) ?_
                                refine va_get (D := (dC, dI)) (ci := 6) (v := .ref (ma 20)) (C := RX6) (T := TX6) (N := 44) hx hb hts kt_X6 hown hK hP 0 rfl rfl 20 (by decide) (kx_word hG kq_05_morder_0 rfl) (fun _ h9 => h9) rfl dX6_step_292 ?_
                                refine lv_iload_n hx hb dX6_step_295 rfl (lv_at hl 5 rfl) ?_
                                refine lv_iload hx hb dX6_step_296 (lv_at hl 0 rfl) ?_
                                refine ki_iast (F := upI (F 20) sd pa) hx hb hK hP hD hS 15 14 rfl rfl (by omega) (by omega) (by decide) dX6_step_298 (fun H locs hP hD hS => ?_)
                                have hP : va_P (dC, dI) kxCl (mW mo ma cs I (va_up (va_up (va_up (va_up (va_up (va_up (va_up (va_up (va_up F 20 (upI (F 20) sd pa)) 22 (upI (F 22) sd (-1))) 23 (upI (F 23) sd 0)) 24 (upI (F 24) sd 0)) 21 (upI (F 21) sd (vp_nar .boolean (iz 1)).toInt)) 22 (upI (upI (F 22) sd (-1)) sd 1)) 23 (upI (upI (F 23) sd 0) sd ((20 * p0) + pz))) 24 (upI (upI (F 24) sd 0) sd (en - pz))) 20 (upI (upI (F 20) sd pa) sd en))) H := hP
                                have hD : va_D A (mW mo ma cs I (va_up (va_up (va_up (va_up (va_up (va_up (va_up (va_up (va_up F 20 (upI (F 20) sd pa)) 22 (upI (F 22) sd (-1))) 23 (upI (F 23) sd 0)) 24 (upI (F 24) sd 0)) 21 (upI (F 21) sd (vp_nar .boolean (iz 1)).toInt)) 22 (upI (upI (F 22) sd (-1)) sd 1)) 23 (upI (upI (F 23) sd 0) sd ((20 * p0) + pz))) 24 (upI (upI (F 24) sd 0) sd (en - pz))) 20 (upI (upI (F 20) sd pa) sd en))) := hD
                                have e_51 : (va_up (va_up (va_up (va_up (va_up (va_up (va_up (va_up (va_up F 20 (upI (F 20) sd pa)) 22 (upI (F 22) sd (-1))) 23 (upI (F 23) sd 0)) 24 (upI (F 24) sd 0)) 21 (upI (F 21) sd (vp_nar .boolean (iz 1)).toInt)) 22 (upI (upI (F 22) sd (-1)) sd 1)) 23 (upI (upI (F 23) sd 0) sd ((20 * p0) + pz))) 24 (upI (upI (F 24) sd 0) sd (en - pz))) 20 (upI (upI (F 20) sd pa) sd en)) 20 sd = en := upI_self _ _ _
                                have e_52 : (va_up (va_up (va_up (va_up (va_up (va_up (va_up (va_up (va_up F 20 (upI (F 20) sd pa)) 22 (upI (F 22) sd (-1))) 23 (upI (F 23) sd 0)) 24 (upI (F 24) sd 0)) 21 (upI (F 21) sd (vp_nar .boolean (iz 1)).toInt)) 22 (upI (upI (F 22) sd (-1)) sd 1)) 23 (upI (upI (F 23) sd 0) sd ((20 * p0) + pz))) 24 (upI (upI (F 24) sd 0) sd (en - pz))) 20 (upI (upI (F 20) sd pa) sd en)) 22 sd = 1 := upI_self _ _ _
                                have e_53 : (va_up (va_up (va_up (va_up (va_up (va_up (va_up (va_up (va_up F 20 (upI (F 20) sd pa)) 22 (upI (F 22) sd (-1))) 23 (upI (F 23) sd 0)) 24 (upI (F 24) sd 0)) 21 (upI (F 21) sd (vp_nar .boolean (iz 1)).toInt)) 22 (upI (upI (F 22) sd (-1)) sd 1)) 23 (upI (upI (F 23) sd 0) sd ((20 * p0) + pz))) 24 (upI (upI (F 24) sd 0) sd (en - pz))) 20 (upI (upI (F 20) sd pa) sd en)) 23 sd = (20 * p0) + pz := upI_self _ _ _
                                have e_54 : (va_up (va_up (va_up (va_up (va_up (va_up (va_up (va_up (va_up F 20 (upI (F 20) sd pa)) 22 (upI (F 22) sd (-1))) 23 (upI (F 23) sd 0)) 24 (upI (F 24) sd 0)) 21 (upI (F 21) sd (vp_nar .boolean (iz 1)).toInt)) 22 (upI (upI (F 22) sd (-1)) sd 1)) 23 (upI (upI (F 23) sd 0) sd ((20 * p0) + pz))) 24 (upI (upI (F 24) sd 0) sd (en - pz))) 20 (upI (upI (F 20) sd pa) sd en)) 24 sd = en - pz := upI_self _ _ _
                                have e_55 : (va_up (va_up (va_up (va_up (va_up (va_up (va_up (va_up (va_up F 20 (upI (F 20) sd pa)) 22 (upI (F 22) sd (-1))) 23 (upI (F 23) sd 0)) 24 (upI (F 24) sd 0)) 21 (upI (F 21) sd (vp_nar .boolean (iz 1)).toInt)) 22 (upI (upI (F 22) sd (-1)) sd 1)) 23 (upI (upI (F 23) sd 0) sd ((20 * p0) + pz))) 24 (upI (upI (F 24) sd 0) sd (en - pz))) 20 (upI (upI (F 20) sd pa) sd en)) 21 sd = (vp_nar .boolean (iz 1)).toInt := upI_self _ _ _
                                rw [← hQe]
                                exact mk_ret hx hb hr hlocks hP hD hK hS dX6_step_299 (⟨rfl, (mB_f (mB_f (mB_f (mB_f (mB_f (mB_f (mB_f (mB_f (mB_f hB 20 sd (by omega) (by omega)) 22 sd (by omega) (by omega)) 23 sd (by omega) (by omega)) 24 sd (by omega) (by omega)) 21 sd (iz_lo _) (iz_hi _)) 22 sd (by omega) (by omega)) 23 sd (by omega) (by omega)) 24 sd (by omega) (by omega)) 20 sd (by omega) (by omega)), (mfr.upF (mfr.upF (mfr.upF (mfr.upF (mfr.upF (mfr.upF (mfr.upF (mfr.upF (mfr.upF mfr.rf (by decide) _) (by decide) _) (by decide) _) (by decide) _) (by decide) _) (by decide) _) (by decide) _) (by decide) _) (by decide) _), (mo1.up (mo1.up (mo1.up (mo1.up (mo1.up (mo1.up (mo1.up (mo1.up (mo1.up mo1.rf 20 _) 22 _) 23 _) 24 _) 21 _) 22 _) 23 _) 24 _) 20 _), by omega, by omega, by omega⟩)
                              · skip
                                refine lv_iinc (v := iz (pz + 1)) (lv' := [(3, .int (iz (pz + 1))), (6, .int (iz en)), (5, .int (iz (F 4 ((20 * p0) + pa)))), (4, .int (iz ps)), (0, .ref mo), (1, .int (iz sd)), (2, .int (iz p0))]) hx hb dX6_step_256 hl (k := 3) rfl (iz_add pz 1) (by decide) rfl (fun ls hl => ?_)
                                refine lv_goto (tgt := 234) hx hb dX6_step_259 (by decide) ?_
                                exact ih234 (pz + 1) (by omega) (by omega) _ _ hP hD hS ls (lv_sub hl [1, 2, 3, 0, 4, 5, 6] rfl)
                        exact lp234 _ pa (by omega) (Nat.lt_succ_self _) _ _ hP hD hS ls (lv_sub hl [0, 1, 2, 3, 4, 5, 6] rfl)
                      · skip
                        refine lv_iinc (v := iz (en + 1)) (lv' := [(6, .int (iz (en + 1))), (5, .int (iz (F 4 ((20 * p0) + pa)))), (4, .int (iz ps)), (3, .int (iz pa)), (0, .ref mo), (1, .int (iz sd)), (2, .int (iz p0))]) hx hb dX6_step_228 hl (k := 0) rfl (iz_add en 1) (by decide) rfl (fun ls hl => ?_)
                        refine lv_goto (tgt := 192) hx hb dX6_step_231 (by decide) ?_
                        exact ih192 (en + 1) (by omega) (by omega) _ _ hP hD hS ls (lv_sub hl [0, 1, 2, 3, 4, 5, 6] rfl)
              exact lp192 _ (pa + 1) (by omega) (Nat.lt_succ_self _) _ _ hP hD hS ls (lv_sub hl [0, 1, 2, 3, 4, 5, 6] rfl)
            · skip
              refine lv_aload_n hx hb dX6_step_159 rfl (lv_at hl 3 rfl) ?_
              refine va_get (D := (dC, dI)) (ci := 6) (v := .ref (ma 22)) (C := RX6) (T := TX6) (N := 44) hx hb hts kt_X6 hown hK hP 0 rfl rfl 22 (by decide) (kx_word hG kq_05_morder_2 rfl) (fun _ h9 => h9) rfl dX6_step_160 ?_
              refine lv_iload_n hx hb dX6_step_163 rfl (lv_at hl 4 rfl) ?_
              refine lv_iconst (v := iz 2) hx hb dX6_step_164 (by decide) ?_
              refine ki_iast (F := upI (F 22) sd (-1)) hx hb hK hP hD hS 17 16 rfl rfl (by omega) (by omega) (by decide) dX6_step_165 (fun H locs hP hD hS => ?_)
              have hP : va_P (dC, dI) kxCl (mW mo ma cs I (va_up (va_up (va_up (va_up (va_up (va_up F 20 (upI (F 20) sd pa)) 22 (upI (F 22) sd (-1))) 23 (upI (F 23) sd 0)) 24 (upI (F 24) sd 0)) 21 (upI (F 21) sd (vp_nar .boolean (iz 1)).toInt)) 22 (upI (upI (F 22) sd (-1)) sd 2))) H := hP
              have hD : va_D A (mW mo ma cs I (va_up (va_up (va_up (va_up (va_up (va_up F 20 (upI (F 20) sd pa)) 22 (upI (F 22) sd (-1))) 23 (upI (F 23) sd 0)) 24 (upI (F 24) sd 0)) 21 (upI (F 21) sd (vp_nar .boolean (iz 1)).toInt)) 22 (upI (upI (F 22) sd (-1)) sd 2))) := hD
              refine lv_aload_n hx hb dX6_step_166 rfl (lv_at hl 3 rfl) ?_
              refine va_get (D := (dC, dI)) (ci := 6) (v := .ref (ma 23)) (C := RX6) (T := TX6) (N := 44) hx hb hts kt_X6 hown hK hP 0 rfl rfl 23 (by decide) (kx_word hG kq_05_morder_3 rfl) (fun _ h9 => h9) rfl dX6_step_167 ?_
              refine lv_iload_n hx hb dX6_step_170 rfl (lv_at hl 4 rfl) ?_
              refine lv_iload hx hb dX6_step_171 (lv_at hl 0 rfl) ?_
              refine mk_calls (As := [.int (iz (F 4 ((20 * p0) + pa)))]) (rest := [.int (iz sd), .ref (ma 23)]) ⟨hx, hb, hml, hown, hts⟩ (k_letterOf l dC dI (F 4 ((20 * p0) + pa)) H.size (by omega) (by omega)) (va_cwS 1 hts (kx_gS kq_05_morder_5 kq_05_morder_6 kq_04_msmall_6 kq_05_morder_7 rfl) rfl rfl rfl (by decide +kernel) ⟨Nat.le_of_ble_eq_true rfl, Nat.le_of_ble_eq_true rfl⟩) hP hD hK hG hZ hS hA rfl hl.1 rfl (Nat.le_of_ble_eq_true rfl) dX6_step_173 ⟨Nat.le_of_ble_eq_true rfl, Nat.le_of_ble_eq_true rfl⟩ (fun z_56 H locs hq_57 hP hS => ?_)
              try dsimp only at hq_57
              refine ki_iast (F := upI (F 23) sd 0) hx hb hK hP hD hS 18 17 rfl rfl (by omega) (by omega) (by decide) dX6_step_176 (fun H locs hP hD hS => ?_)
              have hP : va_P (dC, dI) kxCl (mW mo ma cs I (va_up (va_up (va_up (va_up (va_up (va_up (va_up F 20 (upI (F 20) sd pa)) 22 (upI (F 22) sd (-1))) 23 (upI (F 23) sd 0)) 24 (upI (F 24) sd 0)) 21 (upI (F 21) sd (vp_nar .boolean (iz 1)).toInt)) 22 (upI (upI (F 22) sd (-1)) sd 2)) 23 (upI (upI (F 23) sd 0) sd z_56))) H := hP
              have hD : va_D A (mW mo ma cs I (va_up (va_up (va_up (va_up (va_up (va_up (va_up F 20 (upI (F 20) sd pa)) 22 (upI (F 22) sd (-1))) 23 (upI (F 23) sd 0)) 24 (upI (F 24) sd 0)) 21 (upI (F 21) sd (vp_nar .boolean (iz 1)).toInt)) 22 (upI (upI (F 22) sd (-1)) sd 2)) 23 (upI (upI (F 23) sd 0) sd z_56))) := hD
              refine lv_aload_n hx hb dX6_step_177 rfl (lv_at hl 3 rfl) ?_
              refine va_get (D := (dC, dI)) (ci := 6) (v := .ref (ma 20)) (C := RX6) (T := TX6) (N := 44) hx hb hts kt_X6 hown hK hP 0 rfl rfl 20 (by decide) (kx_word hG kq_05_morder_0 rfl) (fun _ h9 => h9) rfl dX6_step_178 ?_
              refine lv_iload_n hx hb dX6_step_181 rfl (lv_at hl 4 rfl) ?_
              refine lv_iload_n hx hb dX6_step_182 rfl (lv_at hl 2 rfl) ?_
              refine lv_iconst (v := iz 1) hx hb dX6_step_183 (by decide) ?_
              refine ki_iadd hx hb dX6_step_184 ?_
              refine ki_iast (F := upI (F 20) sd pa) hx hb hK hP hD hS 15 14 rfl rfl (by omega) (by omega) (by decide) dX6_step_185 (fun H locs hP hD hS => ?_)
              have hP : va_P (dC, dI) kxCl (mW mo ma cs I (va_up (va_up (va_up (va_up (va_up (va_up (va_up (va_up F 20 (upI (F 20) sd pa)) 22 (upI (F 22) sd (-1))) 23 (upI (F 23) sd 0)) 24 (upI (F 24) sd 0)) 21 (upI (F 21) sd (vp_nar .boolean (iz 1)).toInt)) 22 (upI (upI (F 22) sd (-1)) sd 2)) 23 (upI (upI (F 23) sd 0) sd z_56)) 20 (upI (upI (F 20) sd pa) sd (pa + 1)))) H := hP
              have hD : va_D A (mW mo ma cs I (va_up (va_up (va_up (va_up (va_up (va_up (va_up (va_up F 20 (upI (F 20) sd pa)) 22 (upI (F 22) sd (-1))) 23 (upI (F 23) sd 0)) 24 (upI (F 24) sd 0)) 21 (upI (F 21) sd (vp_nar .boolean (iz 1)).toInt)) 22 (upI (upI (F 22) sd (-1)) sd 2)) 23 (upI (upI (F 23) sd 0) sd z_56)) 20 (upI (upI (F 20) sd pa) sd (pa + 1)))) := hD
              have e_58 : (va_up (va_up (va_up (va_up (va_up (va_up (va_up (va_up F 20 (upI (F 20) sd pa)) 22 (upI (F 22) sd (-1))) 23 (upI (F 23) sd 0)) 24 (upI (F 24) sd 0)) 21 (upI (F 21) sd (vp_nar .boolean (iz 1)).toInt)) 22 (upI (upI (F 22) sd (-1)) sd 2)) 23 (upI (upI (F 23) sd 0) sd z_56)) 20 (upI (upI (F 20) sd pa) sd (pa + 1))) 20 sd = pa + 1 := upI_self _ _ _
              have e_59 : (va_up (va_up (va_up (va_up (va_up (va_up (va_up (va_up F 20 (upI (F 20) sd pa)) 22 (upI (F 22) sd (-1))) 23 (upI (F 23) sd 0)) 24 (upI (F 24) sd 0)) 21 (upI (F 21) sd (vp_nar .boolean (iz 1)).toInt)) 22 (upI (upI (F 22) sd (-1)) sd 2)) 23 (upI (upI (F 23) sd 0) sd z_56)) 20 (upI (upI (F 20) sd pa) sd (pa + 1))) 22 sd = 2 := upI_self _ _ _
              have e_60 : (va_up (va_up (va_up (va_up (va_up (va_up (va_up (va_up F 20 (upI (F 20) sd pa)) 22 (upI (F 22) sd (-1))) 23 (upI (F 23) sd 0)) 24 (upI (F 24) sd 0)) 21 (upI (F 21) sd (vp_nar .boolean (iz 1)).toInt)) 22 (upI (upI (F 22) sd (-1)) sd 2)) 23 (upI (upI (F 23) sd 0) sd z_56)) 20 (upI (upI (F 20) sd pa) sd (pa + 1))) 23 sd = z_56 := upI_self _ _ _
              have e_61 : (va_up (va_up (va_up (va_up (va_up (va_up (va_up (va_up F 20 (upI (F 20) sd pa)) 22 (upI (F 22) sd (-1))) 23 (upI (F 23) sd 0)) 24 (upI (F 24) sd 0)) 21 (upI (F 21) sd (vp_nar .boolean (iz 1)).toInt)) 22 (upI (upI (F 22) sd (-1)) sd 2)) 23 (upI (upI (F 23) sd 0) sd z_56)) 20 (upI (upI (F 20) sd pa) sd (pa + 1))) 24 sd = 0 := upI_self _ _ _
              have e_62 : (va_up (va_up (va_up (va_up (va_up (va_up (va_up (va_up F 20 (upI (F 20) sd pa)) 22 (upI (F 22) sd (-1))) 23 (upI (F 23) sd 0)) 24 (upI (F 24) sd 0)) 21 (upI (F 21) sd (vp_nar .boolean (iz 1)).toInt)) 22 (upI (upI (F 22) sd (-1)) sd 2)) 23 (upI (upI (F 23) sd 0) sd z_56)) 20 (upI (upI (F 20) sd pa) sd (pa + 1))) 21 sd = (vp_nar .boolean (iz 1)).toInt := upI_self _ _ _
              rw [← hQe]
              exact mk_ret hx hb hr hlocks hP hD hK hS dX6_step_186 (⟨rfl, (mB_f (mB_f (mB_f (mB_f (mB_f (mB_f (mB_f (mB_f hB 20 sd (by omega) (by omega)) 22 sd (by omega) (by omega)) 23 sd (by omega) (by omega)) 24 sd (by omega) (by omega)) 21 sd (iz_lo _) (iz_hi _)) 22 sd (by omega) (by omega)) 23 sd (by omega) (by omega)) 20 sd (by omega) (by omega)), (mfr.upF (mfr.upF (mfr.upF (mfr.upF (mfr.upF (mfr.upF (mfr.upF (mfr.upF mfr.rf (by decide) _) (by decide) _) (by decide) _) (by decide) _) (by decide) _) (by decide) _) (by decide) _) (by decide) _), (mo1.up (mo1.up (mo1.up (mo1.up (mo1.up (mo1.up (mo1.up (mo1.up mo1.rf 20 _) 22 _) 23 _) 24 _) 21 _) 22 _) 23 _) 20 _), by omega, by omega, by omega⟩)
          · skip
            refine lv_aload_n hx hb dX6_step_107 rfl (lv_at hl 2 rfl) ?_
            refine va_get (D := (dC, dI)) (ci := 6) (v := .int (iz (I 15))) (C := RX6) (T := TX6) (N := 44) hx hb hts kt_X6 hown hK hP 0 rfl rfl 15 (by decide) (kx_word hG kq_04_msmall_18 rfl) (fun _ h9 => h9) rfl dX6_step_108 ?_
            have hbd_63 := hB.1 15
            refine ki_if_eq (tgt := 131) hx hb dX6_step_111 (by decide) (by omega) (by omega) (fun c_64 => ?_) (fun c_64 => ?_)
            · skip
              refine lv_aload_n hx hb dX6_step_131 rfl (lv_at hl 2 rfl) ?_
              refine va_get (D := (dC, dI)) (ci := 6) (v := .ref (ma 21)) (C := RX6) (T := TX6) (N := 44) hx hb hts kt_X6 hown hK hP 0 rfl rfl 21 (by decide) (kx_word hG kq_05_morder_1 rfl) (fun _ h9 => h9) rfl dX6_step_132 ?_
              refine lv_iload_n hx hb dX6_step_135 rfl (lv_at hl 3 rfl) ?_
              refine lv_iconst (v := iz 1) hx hb dX6_step_136 (by decide) ?_
              refine ki_zast (F := F 21) hx hb hK hP hD hS 16 15 rfl rfl (by omega) (by omega) (by decide) dX6_step_137 (fun H locs hP hD hS => ?_)
              have hP : va_P (dC, dI) kxCl (mW mo ma cs I (va_up (va_up (va_up (va_up (va_up F 20 (upI (F 20) sd pa)) 22 (upI (F 22) sd (-1))) 23 (upI (F 23) sd 0)) 24 (upI (F 24) sd 0)) 21 (upI (F 21) sd (vp_nar .boolean (iz 1)).toInt))) H := hP
              have hD : va_D A (mW mo ma cs I (va_up (va_up (va_up (va_up (va_up F 20 (upI (F 20) sd pa)) 22 (upI (F 22) sd (-1))) 23 (upI (F 23) sd 0)) 24 (upI (F 24) sd 0)) 21 (upI (F 21) sd (vp_nar .boolean (iz 1)).toInt))) := hD
              refine lv_aload_n hx hb dX6_step_138 rfl (lv_at hl 2 rfl) ?_
              refine va_get (D := (dC, dI)) (ci := 6) (v := .ref (ma 4)) (C := RX6) (T := TX6) (N := 44) hx hb hts kt_X6 hown hK hP 0 rfl rfl 4 (by decide) (kx_word hG kq_04_msmall_16 rfl) (fun _ h9 => h9) rfl dX6_step_139 ?_
              refine lv_bipush (v := iz 20) hx hb dX6_step_142 (by decide) ?_
              refine lv_iload_n hx hb dX6_step_144 rfl (lv_at hl 4 rfl) ?_
              refine ki_imul hx hb dX6_step_145 ?_
              refine lv_iload_n hx hb dX6_step_146 rfl (lv_at hl 1 rfl) ?_
              refine ki_iadd hx hb dX6_step_147 ?_
              refine ki_iald (F := F 4) hx hb hK hP 3 2 rfl rfl (by omega) (by omega) (by decide) dX6_step_148 ?_
              have hbd_65 := hB.2 4 ((20 * p0) + pa)
              refine lv_istore (lv' := [(5, .int (iz (F 4 ((20 * p0) + pa)))), (4, .int (iz ps)), (3, .int (iz pa)), (0, .ref mo), (1, .int (iz sd)), (2, .int (iz p0))]) hx hb dX6_step_149 hl (by decide) rfl (fun ls hl => ?_)
              refine lv_iload hx hb dX6_step_151 (lv_at hl 0 rfl) ?_
              refine mk_calls (As := [.int (iz (F 4 ((20 * p0) + pa)))]) (rest := []) ⟨hx, hb, hml, hown, hts⟩ (k_letterOf l dC dI (F 4 ((20 * p0) + pa)) H.size (by omega) (by omega)) (va_cwS 1 hts (kx_gS kq_05_morder_5 kq_05_morder_6 kq_04_msmall_6 kq_05_morder_7 rfl) rfl rfl rfl (by decide +kernel) ⟨Nat.le_of_ble_eq_true rfl, Nat.le_of_ble_eq_true rfl⟩) hP hD hK hG hZ hS hA rfl hl.1 rfl (Nat.le_of_ble_eq_true rfl) dX6_step_153 ⟨Nat.le_of_ble_eq_true rfl, Nat.le_of_ble_eq_true rfl⟩ (fun z_66 H locs hq_67 hP hS => ?_)
              try dsimp only at hq_67
              refine ki_if_le (tgt := 187) hx hb dX6_step_156 (by decide) (by omega) (by omega) (fun c_68 => ?_) (fun c_68 => ?_)
              · skip
                refine lv_iload_n hx hb dX6_step_187 rfl (lv_at hl 2 rfl) ?_
                refine lv_iconst (v := iz 1) hx hb dX6_step_188 (by decide) ?_
                refine ki_iadd hx hb dX6_step_189 ?_
                refine lv_istore (lv' := [(6, .int (iz (pa + 1))), (5, .int (iz (F 4 ((20 * p0) + pa)))), (4, .int (iz ps)), (3, .int (iz pa)), (0, .ref mo), (1, .int (iz sd)), (2, .int (iz p0))]) hx hb dX6_step_190 hl (by decide) rfl (fun ls hl => ?_)
                have lp192 : ∀ (n : Nat) (en : Int), ((pa + 1 ≤ en ∧ en ≤ F 5 p0)) → (F 5 p0 - en).toNat < n → ∀ (H : Heap) (locs : List Loc), va_P (dC, dI) kxCl (mW mo ma cs I (va_up (va_up (va_up (va_up (va_up F 20 (upI (F 20) sd pa)) 22 (upI (F 22) sd (-1))) 23 (upI (F 23) sd 0)) 24 (upI (F 24) sd 0)) 21 (upI (F 21) sd (vp_nar .boolean (iz 1)).toInt))) H → va_D A (mW mo ma cs I (va_up (va_up (va_up (va_up (va_up F 20 (upI (F 20) sd pa)) 22 (upI (F 22) sd (-1))) 23 (upI (F 23) sd 0)) 24 (upI (F 24) sd 0)) 21 (upI (F 21) sd (vp_nar .boolean (iz 1)).toInt))) → va_S A s.heap H locs → ∀ ls : Array Slot, lv_has ls 7 [(6, .int (iz en)), (5, .int (iz (F 4 ((20 * p0) + pa)))), (4, .int (iz ps)), (3, .int (iz pa)), (0, .ref mo), (1, .int (iz sd)), (2, .int (iz p0))] → W p l e (headSpec [.code yX6_step cX6_step 7 none] ({ frames := 1, cells := 0, slots := 0, locals := 21 })).room s m ([.ref mo, .int (iz sd), .int (iz p0)] : List Value).toArray below meth c H locs 0 0 QQ (F0 m 192 ls []) := by
                  intro n
                  induction n with
                  | zero => intro en hinv hm; exact absurd hm (Nat.not_lt_zero _)
                  | succ n ih192 =>
                    intro en hinv hm H locs hP hD hS ls hl
                    have hen := hinv
                    refine lv_aload_n hx hb dX6_step_192 rfl (lv_at hl 4 rfl) ?_
                    refine va_get (D := (dC, dI)) (ci := 6) (v := .int (iz (I 14))) (C := RX6) (T := TX6) (N := 44) hx hb hts kt_X6 hown hK hP 0 rfl rfl 14 (by decide) (kx_word hG kq_04_msmall_17 rfl) (fun _ h9 => h9) rfl dX6_step_193 ?_
                    have hbd_69 := hB.1 14
                    refine ki_if_eq (tgt := 234) hx hb dX6_step_196 (by decide) (by omega) (by omega) (fun c_70 => ?_) (fun c_70 => ?_)
                    · skip
                      have lp234 : ∀ (n : Nat) (pz : Int), ((pa ≤ pz ∧ pz ≤ en)) → (en - pz).toNat < n → ∀ (H : Heap) (locs : List Loc), va_P (dC, dI) kxCl (mW mo ma cs I (va_up (va_up (va_up (va_up (va_up F 20 (upI (F 20) sd pa)) 22 (upI (F 22) sd (-1))) 23 (upI (F 23) sd 0)) 24 (upI (F 24) sd 0)) 21 (upI (F 21) sd (vp_nar .boolean (iz 1)).toInt))) H → va_D A (mW mo ma cs I (va_up (va_up (va_up (va_up (va_up F 20 (upI (F 20) sd pa)) 22 (upI (F 22) sd (-1))) 23 (upI (F 23) sd 0)) 24 (upI (F 24) sd 0)) 21 (upI (F 21) sd (vp_nar .boolean (iz 1)).toInt))) → va_S A s.heap H locs → ∀ ls : Array Slot, lv_has ls 7 [(6, .int (iz en)), (5, .int (iz (F 4 ((20 * p0) + pa)))), (4, .int (iz ps)), (3, .int (iz pz)), (0, .ref mo), (1, .int (iz sd)), (2, .int (iz p0))] → W p l e (headSpec [.code yX6_step cX6_step 7 none] ({ frames := 1, cells := 0, slots := 0, locals := 21 })).room s m ([.ref mo, .int (iz sd), .int (iz p0)] : List Value).toArray below meth c H locs 0 0 QQ (F0 m 234 ls []) := by
                        intro n
                        induction n with
                        | zero => intro pz hinv hm; exact absurd hm (Nat.not_lt_zero _)
                        | succ n ih234 =>
                          intro pz hinv hm H locs hP hD hS ls hl
                          have hpz := hinv
                          refine lv_iload_n hx hb dX6_step_234 rfl (lv_at hl 3 rfl) ?_
                          refine lv_iload hx hb dX6_step_235 (lv_at hl 0 rfl) ?_
                          refine ki_icmp_ge (tgt := 262) hx hb dX6_step_237 (by decide) (by omega) (by omega) (by omega) (by omega) (fun c_71 => ?_) (fun c_71 => ?_)
                          · skip
                            refine lv_aload_n hx hb dX6_step_262 rfl (lv_at hl 4 rfl) ?_
                            refine va_get (D := (dC, dI)) (ci := 6) (v := .ref (ma 22)) (C := RX6) (T := TX6) (N := 44) hx hb hts kt_X6 hown hK hP 0 rfl rfl 22 (by decide) (kx_word hG kq_05_morder_2 rfl) (fun _ h9 => h9) rfl dX6_step_263 ?_
                            refine lv_iload_n hx hb dX6_step_266 rfl (lv_at hl 5 rfl) ?_
                            refine lv_iconst (v := iz 1) hx hb dX6_step_267 (by decide) ?_
                            refine ki_iast (F := upI (F 22) sd (-1)) hx hb hK hP hD hS 17 16 rfl rfl (by omega) (by omega) (by decide) dX6_step_268 (fun H locs hP hD hS => ?_)
                            have hP : va_P (dC, dI) kxCl (mW mo ma cs I (va_up (va_up (va_up (va_up (va_up (va_up F 20 (upI (F 20) sd pa)) 22 (upI (F 22) sd (-1))) 23 (upI (F 23) sd 0)) 24 (upI (F 24) sd 0)) 21 (upI (F 21) sd (vp_nar .boolean (iz 1)).toInt)) 22 (upI (upI (F 22) sd (-1)) sd 1))) H := hP
                            have hD : va_D A (mW mo ma cs I (va_up (va_up (va_up (va_up (va_up (va_up F 20 (upI (F 20) sd pa)) 22 (upI (F 22) sd (-1))) 23 (upI (F 23) sd 0)) 24 (upI (F 24) sd 0)) 21 (upI (F 21) sd (vp_nar .boolean (iz 1)).toInt)) 22 (upI (upI (F 22) sd (-1)) sd 1))) := hD
                            refine lv_aload_n hx hb dX6_step_269 rfl (lv_at hl 4 rfl) ?_
                            refine va_get (D := (dC, dI)) (ci := 6) (v := .ref (ma 23)) (C := RX6) (T := TX6) (N := 44) hx hb hts kt_X6 hown hK hP 0 rfl rfl 23 (by decide) (kx_word hG kq_05_morder_3 rfl) (fun _ h9 => h9) rfl dX6_step_270 ?_
                            refine lv_iload_n hx hb dX6_step_273 rfl (lv_at hl 5 rfl) ?_
                            refine lv_bipush (v := iz 20) hx hb dX6_step_274 (by decide) ?_
                            refine lv_iload_n hx hb dX6_step_276 rfl (lv_at hl 6 rfl) ?_
                            refine ki_imul hx hb dX6_step_277 ?_
                            refine lv_iload_n hx hb dX6_step_278 rfl (lv_at hl 3 rfl) ?_
                            refine ki_iadd hx hb dX6_step_279 ?_
                            refine ki_iast (F := upI (F 23) sd 0) hx hb hK hP hD hS 18 17 rfl rfl (by omega) (by omega) (by decide) dX6_step_280 (fun H locs hP hD hS => ?_)
                            have hP : va_P (dC, dI) kxCl (mW mo ma cs I (va_up (va_up (va_up (va_up (va_up (va_up (va_up F 20 (upI (F 20) sd pa)) 22 (upI (F 22) sd (-1))) 23 (upI (F 23) sd 0)) 24 (upI (F 24) sd 0)) 21 (upI (F 21) sd (vp_nar .boolean (iz 1)).toInt)) 22 (upI (upI (F 22) sd (-1)) sd 1)) 23 (upI (upI (F 23) sd 0) sd ((20 * p0) + pz)))) H := hP
                            have hD : va_D A (mW mo ma cs I (va_up (va_up (va_up (va_up (va_up (va_up (va_up F 20 (upI (F 20) sd pa)) 22 (upI (F 22) sd (-1))) 23 (upI (F 23) sd 0)) 24 (upI (F 24) sd 0)) 21 (upI (F 21) sd (vp_nar .boolean (iz 1)).toInt)) 22 (upI (upI (F 22) sd (-1)) sd 1)) 23 (upI (upI (F 23) sd 0) sd ((20 * p0) + pz)))) := hD
                            refine lv_aload_n hx hb dX6_step_281 rfl (lv_at hl 4 rfl) ?_
                            refine va_get (D := (dC, dI)) (ci := 6) (v := .ref (ma 24)) (C := RX6) (T := TX6) (N := 44) hx hb hts kt_X6 hown hK hP 0 rfl rfl 24 (by decide) (kx_word hG kq_05_morder_4 rfl) (fun _ h9 => h9) rfl dX6_step_282 ?_
                            refine lv_iload_n hx hb dX6_step_285 rfl (lv_at hl 5 rfl) ?_
                            refine lv_iload hx hb dX6_step_286 (lv_at hl 0 rfl) ?_
                            refine lv_iload_n hx hb dX6_step_288 rfl (lv_at hl 3 rfl) ?_
                            refine ki_isub hx hb dX6_step_289 ?_
                            refine ki_iast (F := upI (F 24) sd 0) hx hb hK hP hD hS 19 18 rfl rfl (by omega) (by omega) (by decide) dX6_step_290 (fun H locs hP hD hS => ?_)
                            have hP : va_P (dC, dI) kxCl (mW mo ma cs I (va_up (va_up (va_up (va_up (va_up (va_up (va_up (va_up F 20 (upI (F 20) sd pa)) 22 (upI (F 22) sd (-1))) 23 (upI (F 23) sd 0)) 24 (upI (F 24) sd 0)) 21 (upI (F 21) sd (vp_nar .boolean (iz 1)).toInt)) 22 (upI (upI (F 22) sd (-1)) sd 1)) 23 (upI (upI (F 23) sd 0) sd ((20 * p0) + pz))) 24 (upI (upI (F 24) sd 0) sd (en - pz)))) H := hP
                            have hD : va_D A (mW mo ma cs I (va_up (va_up (va_up (va_up (va_up (va_up (va_up (va_up F 20 (upI (F 20) sd pa)) 22 (upI (F 22) sd (-1))) 23 (upI (F 23) sd 0)) 24 (upI (F 24) sd 0)) 21 (upI (F 21) sd (vp_nar .boolean (iz 1)).toInt)) 22 (upI (upI (F 22) sd (-1)) sd 1)) 23 (upI (upI (F 23) sd 0) sd ((20 * p0) + pz))) 24 (upI (upI (F 24) sd 0) sd (en - pz)))) := hD
                            refine lv_aload_n hx hb dX6_step_291 rfl (lv_at hl 4 rfl) ?_
                            refine va_get (D := (dC, dI)) (ci := 6) (v := .ref (ma 20)) (C := RX6) (T := TX6) (N := 44) hx hb hts kt_X6 hown hK hP 0 rfl rfl 20 (by decide) (kx_word hG kq_05_morder_0 rfl) (fun _ h9 => h9) rfl dX6_step_292 ?_
                            refine lv_iload_n hx hb dX6_step_295 rfl (lv_at hl 5 rfl) ?_
                            refine lv_iload hx hb dX6_step_296 (lv_at hl 0 rfl) ?_
                            refine ki_iast (F := upI (F 20) sd pa) hx hb hK hP hD hS 15 14 rfl rfl (by omega) (by omega) (by decide) dX6_step_298 (fun H locs hP hD hS => ?_)
                            have hP : va_P (dC, dI) kxCl (mW mo ma cs I (va_up (va_up (va_up (va_up (va_up (va_up (va_up (va_up (va_up F 20 (upI (F 20) sd pa)) 22 (upI (F 22) sd (-1))) 23 (upI (F 23) sd 0)) 24 (upI (F 24) sd 0)) 21 (upI (F 21) sd (vp_nar .boolean (iz 1)).toInt)) 22 (upI (upI (F 22) sd (-1)) sd 1)) 23 (upI (upI (F 23) sd 0) sd ((20 * p0) + pz))) 24 (upI (upI (F 24) sd 0) sd (en - pz))) 20 (upI (upI (F 20) sd pa) sd en))) H := hP
                            have hD : va_D A (mW mo ma cs I (va_up (va_up (va_up (va_up (va_up (va_up (va_up (va_up (va_up F 20 (upI (F 20) sd pa)) 22 (upI (F 22) sd (-1))) 23 (upI (F 23) sd 0)) 24 (upI (F 24) sd 0)) 21 (upI (F 21) sd (vp_nar .boolean (iz 1)).toInt)) 22 (upI (upI (F 22) sd (-1)) sd 1)) 23 (upI (upI (F 23) sd 0) sd ((20 * p0) + pz))) 24 (upI (upI (F 24) sd 0) sd (en - pz))) 20 (upI (upI (F 20) sd pa) sd en))) := hD
                            have e_72 : (va_up (va_up (va_up (va_up (va_up (va_up (va_up (va_up (va_up F 20 (upI (F 20) sd pa)) 22 (upI (F 22) sd (-1))) 23 (upI (F 23) sd 0)) 24 (upI (F 24) sd 0)) 21 (upI (F 21) sd (vp_nar .boolean (iz 1)).toInt)) 22 (upI (upI (F 22) sd (-1)) sd 1)) 23 (upI (upI (F 23) sd 0) sd ((20 * p0) + pz))) 24 (upI (upI (F 24) sd 0) sd (en - pz))) 20 (upI (upI (F 20) sd pa) sd en)) 20 sd = en := upI_self _ _ _
                            have e_73 : (va_up (va_up (va_up (va_up (va_up (va_up (va_up (va_up (va_up F 20 (upI (F 20) sd pa)) 22 (upI (F 22) sd (-1))) 23 (upI (F 23) sd 0)) 24 (upI (F 24) sd 0)) 21 (upI (F 21) sd (vp_nar .boolean (iz 1)).toInt)) 22 (upI (upI (F 22) sd (-1)) sd 1)) 23 (upI (upI (F 23) sd 0) sd ((20 * p0) + pz))) 24 (upI (upI (F 24) sd 0) sd (en - pz))) 20 (upI (upI (F 20) sd pa) sd en)) 22 sd = 1 := upI_self _ _ _
                            have e_74 : (va_up (va_up (va_up (va_up (va_up (va_up (va_up (va_up (va_up F 20 (upI (F 20) sd pa)) 22 (upI (F 22) sd (-1))) 23 (upI (F 23) sd 0)) 24 (upI (F 24) sd 0)) 21 (upI (F 21) sd (vp_nar .boolean (iz 1)).toInt)) 22 (upI (upI (F 22) sd (-1)) sd 1)) 23 (upI (upI (F 23) sd 0) sd ((20 * p0) + pz))) 24 (upI (upI (F 24) sd 0) sd (en - pz))) 20 (upI (upI (F 20) sd pa) sd en)) 23 sd = (20 * p0) + pz := upI_self _ _ _
                            have e_75 : (va_up (va_up (va_up (va_up (va_up (va_up (va_up (va_up (va_up F 20 (upI (F 20) sd pa)) 22 (upI (F 22) sd (-1))) 23 (upI (F 23) sd 0)) 24 (upI (F 24) sd 0)) 21 (upI (F 21) sd (vp_nar .boolean (iz 1)).toInt)) 22 (upI (upI (F 22) sd (-1)) sd 1)) 23 (upI (upI (F 23) sd 0) sd ((20 * p0) + pz))) 24 (upI (upI (F 24) sd 0) sd (en - pz))) 20 (upI (upI (F 20) sd pa) sd en)) 24 sd = en - pz := upI_self _ _ _
                            have e_76 : (va_up (va_up (va_up (va_up (va_up (va_up (va_up (va_up (va_up F 20 (upI (F 20) sd pa)) 22 (upI (F 22) sd (-1))) 23 (upI (F 23) sd 0)) 24 (upI (F 24) sd 0)) 21 (upI (F 21) sd (vp_nar .boolean (iz 1)).toInt)) 22 (upI (upI (F 22) sd (-1)) sd 1)) 23 (upI (upI (F 23) sd 0) sd ((20 * p0) + pz))) 24 (upI (upI (F 24) sd 0) sd (en - pz))) 20 (upI (upI (F 20) sd pa) sd en)) 21 sd = (vp_nar .boolean (iz 1)).toInt := upI_self _ _ _
                            rw [← hQe]
                            exact mk_ret hx hb hr hlocks hP hD hK hS dX6_step_299 (⟨rfl, (mB_f (mB_f (mB_f (mB_f (mB_f (mB_f (mB_f (mB_f (mB_f hB 20 sd (by omega) (by omega)) 22 sd (by omega) (by omega)) 23 sd (by omega) (by omega)) 24 sd (by omega) (by omega)) 21 sd (iz_lo _) (iz_hi _)) 22 sd (by omega) (by omega)) 23 sd (by omega) (by omega)) 24 sd (by omega) (by omega)) 20 sd (by omega) (by omega)), (mfr.upF (mfr.upF (mfr.upF (mfr.upF (mfr.upF (mfr.upF (mfr.upF (mfr.upF (mfr.upF mfr.rf (by decide) _) (by decide) _) (by decide) _) (by decide) _) (by decide) _) (by decide) _) (by decide) _) (by decide) _) (by decide) _), (mo1.up (mo1.up (mo1.up (mo1.up (mo1.up (mo1.up (mo1.up (mo1.up (mo1.up mo1.rf 20 _) 22 _) 23 _) 24 _) 21 _) 22 _) 23 _) 24 _) 20 _), by omega, by omega, by omega⟩)
                          · skip
                            refine lv_aload_n hx hb dX6_step_240 rfl (lv_at hl 4 rfl) ?_
                            refine va_get (D := (dC, dI)) (ci := 6) (v := .ref (ma 4)) (C := RX6) (T := TX6) (N := 44) hx hb hts kt_X6 hown hK hP 0 rfl rfl 4 (by decide) (kx_word hG kq_04_msmall_16 rfl) (fun _ h9 => h9) rfl dX6_step_241 ?_
                            refine lv_bipush (v := iz 20) hx hb dX6_step_244 (by decide) ?_
                            refine lv_iload_n hx hb dX6_step_246 rfl (lv_at hl 6 rfl) ?_
                            refine ki_imul hx hb dX6_step_247 ?_
                            refine lv_iload_n hx hb dX6_step_248 rfl (lv_at hl 3 rfl) ?_
                            refine ki_iadd hx hb dX6_step_249 ?_
                            refine ki_iald (F := F 4) hx hb hK hP 3 2 rfl rfl (by omega) (by omega) (by decide) dX6_step_250 ?_
                            have hbd_77 := hB.2 4 ((20 * p0) + pz)
                            refine lv_bipush (v := iz 48) hx hb dX6_step_251 (by decide) ?_
                            refine ki_icmp_ne (tgt := 262) hx hb dX6_step_253 (by decide) (by omega) (by omega) (by omega) (by omega) (fun c_78 => ?_) (fun c_78 => ?_)
                            · skip
                              refine lv_aload_n hx hb dX6_step_262 rfl (lv_at hl 4 rfl) ?_
                              refine va_get (D := (dC, dI)) (ci := 6) (v := .ref (ma 22)) (C := RX6) (T := TX6) (N := 44) hx hb hts kt_X6 hown hK hP 0 rfl rfl 22 (by decide) (kx_word hG kq_05_morder_2 rfl) (fun _ h9 => h9) rfl dX6_step_263 ?_
                              refine lv_iload_n hx hb dX6_step_266 rfl (lv_at hl 5 rfl) ?_
                              refine lv_iconst (v := iz 1) hx hb dX6_step_267 (by decide) ?_
                              refine ki_iast (F := upI (F 22) sd (-1)) hx hb hK hP hD hS 17 16 rfl rfl (by omega) (by omega) (by decide) dX6_step_268 (fun H locs hP hD hS => ?_)
                              have hP : va_P (dC, dI) kxCl (mW mo ma cs I (va_up (va_up (va_up (va_up (va_up (va_up F 20 (upI (F 20) sd pa)) 22 (upI (F 22) sd (-1))) 23 (upI (F 23) sd 0)) 24 (upI (F 24) sd 0)) 21 (upI (F 21) sd (vp_nar .boolean (iz 1)).toInt)) 22 (upI (upI (F 22) sd (-1)) sd 1))) H := hP
                              have hD : va_D A (mW mo ma cs I (va_up (va_up (va_up (va_up (va_up (va_up F 20 (upI (F 20) sd pa)) 22 (upI (F 22) sd (-1))) 23 (upI (F 23) sd 0)) 24 (upI (F 24) sd 0)) 21 (upI (F 21) sd (vp_nar .boolean (iz 1)).toInt)) 22 (upI (upI (F 22) sd (-1)) sd 1))) := hD
                              refine lv_aload_n hx hb dX6_step_269 rfl (lv_at hl 4 rfl) ?_
                              refine va_get (D := (dC, dI)) (ci := 6) (v := .ref (ma 23)) (C := RX6) (T := TX6) (N := 44) hx hb hts kt_X6 hown hK hP 0 rfl rfl 23 (by decide) (kx_word hG kq_05_morder_3 rfl) (fun _ h9 => h9) rfl dX6_step_270 ?_
                              refine lv_iload_n hx hb dX6_step_273 rfl (lv_at hl 5 rfl) ?_
                              refine lv_bipush (v := iz 20) hx hb dX6_step_274 (by decide) ?_
                              refine lv_iload_n hx hb dX6_step_276 rfl (lv_at hl 6 rfl) ?_
                              refine ki_imul hx hb dX6_step_277 ?_
                              refine lv_iload_n hx hb dX6_step_278 rfl (lv_at hl 3 rfl) ?_
                              refine ki_iadd hx hb dX6_step_279 ?_
                              refine ki_iast (F := upI (F 23) sd 0) hx hb hK hP hD hS 18 17 rfl rfl (by omega) (by omega) (by decide) dX6_step_280 (fun H locs hP hD hS => ?_)
                              have hP : va_P (dC, dI) kxCl (mW mo ma cs I (va_up (va_up (va_up (va_up (va_up (va_up (va_up F 20 (upI (F 20) sd pa)) 22 (upI (F 22) sd (-1))) 23 (upI (F 23) sd 0)) 24 (upI (F 24) sd 0)) 21 (upI (F 21) sd (vp_nar .boolean (iz 1)).toInt)) 22 (upI (upI (F 22) sd (-1)) sd 1)) 23 (upI (upI (F 23) sd 0) sd ((20 * p0) + pz)))) H := hP
                              have hD : va_D A (mW mo ma cs I (va_up (va_up (va_up (va_up (va_up (va_up (va_up F 20 (upI (F 20) sd pa)) 22 (upI (F 22) sd (-1))) 23 (upI (F 23) sd 0)) 24 (upI (F 24) sd 0)) 21 (upI (F 21) sd (vp_nar .boolean (iz 1)).toInt)) 22 (upI (upI (F 22) sd (-1)) sd 1)) 23 (upI (upI (F 23) sd 0) sd ((20 * p0) + pz)))) := hD
                              refine lv_aload_n hx hb dX6_step_281 rfl (lv_at hl 4 rfl) ?_
                              refine va_get (D := (dC, dI)) (ci := 6) (v := .ref (ma 24)) (C := RX6) (T := TX6) (N := 44) hx hb hts kt_X6 hown hK hP 0 rfl rfl 24 (by decide) (kx_word hG kq_05_morder_4 rfl) (fun _ h9 => h9) rfl dX6_step_282 ?_
                              refine lv_iload_n hx hb dX6_step_285 rfl (lv_at hl 5 rfl) ?_
                              refine lv_iload hx hb dX6_step_286 (lv_at hl 0 rfl) ?_
                              refine lv_iload_n hx hb dX6_step_288 rfl (lv_at hl 3 rfl) ?_
                              refine ki_isub hx hb dX6_step_289 ?_
                              refine ki_iast (F := upI (F 24) sd 0) hx hb hK hP hD hS 19 18 rfl rfl (by omega) (by omega) (by decide) dX6_step_290 (fun H locs hP hD hS => ?_)
                              have hP : va_P (dC, dI) kxCl (mW mo ma cs I (va_up (va_up (va_up (va_up (va_up (va_up (va_up (va_up F 20 (upI (F 20) sd pa)) 22 (upI (F 22) sd (-1))) 23 (upI (F 23) sd 0)) 24 (upI (F 24) sd 0)) 21 (upI (F 21) sd (vp_nar .boolean (iz 1)).toInt)) 22 (upI (upI (F 22) sd (-1)) sd 1)) 23 (upI (upI (F 23) sd 0) sd ((20 * p0) + pz))) 24 (upI (upI (F 24) sd 0) sd (en - pz)))) H := hP
                              have hD : va_D A (mW mo ma cs I (va_up (va_up (va_up (va_up (va_up (va_up (va_up (va_up F 20 (upI (F 20) sd pa)) 22 (upI (F 22) sd (-1))) 23 (upI (F 23) sd 0)) 24 (upI (F 24) sd 0)) 21 (upI (F 21) sd (vp_nar .boolean (iz 1)).toInt)) 22 (upI (upI (F 22) sd (-1)) sd 1)) 23 (upI (upI (F 23) sd 0) sd ((20 * p0) + pz))) 24 (upI (upI (F 24) sd 0) sd (en - pz)))) := hD
                              refine lv_aload_n hx hb dX6_step_291 rfl (lv_at hl 4 rfl) ?_
                              refine va_get (D := (dC, dI)) (ci := 6) (v := .ref (ma 20)) (C := RX6) (T := TX6) (N := 44) hx hb hts kt_X6 hown hK hP 0 rfl rfl 20 (by decide) (kx_word hG kq_05_morder_0 rfl) (fun _ h9 => h9) rfl dX6_step_292 ?_
                              refine lv_iload_n hx hb dX6_step_295 rfl (lv_at hl 5 rfl) ?_
                              refine lv_iload hx hb dX6_step_296 (lv_at hl 0 rfl) ?_
                              refine ki_iast (F := upI (F 20) sd pa) hx hb hK hP hD hS 15 14 rfl rfl (by omega) (by omega) (by decide) dX6_step_298 (fun H locs hP hD hS => ?_)
                              have hP : va_P (dC, dI) kxCl (mW mo ma cs I (va_up (va_up (va_up (va_up (va_up (va_up (va_up (va_up (va_up F 20 (upI (F 20) sd pa)) 22 (upI (F 22) sd (-1))) 23 (upI (F 23) sd 0)) 24 (upI (F 24) sd 0)) 21 (upI (F 21) sd (vp_nar .boolean (iz 1)).toInt)) 22 (upI (upI (F 22) sd (-1)) sd 1)) 23 (upI (upI (F 23) sd 0) sd ((20 * p0) + pz))) 24 (upI (upI (F 24) sd 0) sd (en - pz))) 20 (upI (upI (F 20) sd pa) sd en))) H := hP
                              have hD : va_D A (mW mo ma cs I (va_up (va_up (va_up (va_up (va_up (va_up (va_up (va_up (va_up F 20 (upI (F 20) sd pa)) 22 (upI (F 22) sd (-1))) 23 (upI (F 23) sd 0)) 24 (upI (F 24) sd 0)) 21 (upI (F 21) sd (vp_nar .boolean (iz 1)).toInt)) 22 (upI (upI (F 22) sd (-1)) sd 1)) 23 (upI (upI (F 23) sd 0) sd ((20 * p0) + pz))) 24 (upI (upI (F 24) sd 0) sd (en - pz))) 20 (upI (upI (F 20) sd pa) sd en))) := hD
                              have e_79 : (va_up (va_up (va_up (va_up (va_up (va_up (va_up (va_up (va_up F 20 (upI (F 20) sd pa)) 22 (upI (F 22) sd (-1))) 23 (upI (F 23) sd 0)) 24 (upI (F 24) sd 0)) 21 (upI (F 21) sd (vp_nar .boolean (iz 1)).toInt)) 22 (upI (upI (F 22) sd (-1)) sd 1)) 23 (upI (upI (F 23) sd 0) sd ((20 * p0) + pz))) 24 (upI (upI (F 24) sd 0) sd (en - pz))) 20 (upI (upI (F 20) sd pa) sd en)) 20 sd = en := upI_self _ _ _
                              have e_80 : (va_up (va_up (va_up (va_up (va_up (va_up (va_up (va_up (va_up F 20 (upI (F 20) sd pa)) 22 (upI (F 22) sd (-1))) 23 (upI (F 23) sd 0)) 24 (upI (F 24) sd 0)) 21 (upI (F 21) sd (vp_nar .boolean (iz 1)).toInt)) 22 (upI (upI (F 22) sd (-1)) sd 1)) 23 (upI (upI (F 23) sd 0) sd ((20 * p0) + pz))) 24 (upI (upI (F 24) sd 0) sd (en - pz))) 20 (upI (upI (F 20) sd pa) sd en)) 22 sd = 1 := upI_self _ _ _
                              have e_81 : (va_up (va_up (va_up (va_up (va_up (va_up (va_up (va_up (va_up F 20 (upI (F 20) sd pa)) 22 (upI (F 22) sd (-1))) 23 (upI (F 23) sd 0)) 24 (upI (F 24) sd 0)) 21 (upI (F 21) sd (vp_nar .boolean (iz 1)).toInt)) 22 (upI (upI (F 22) sd (-1)) sd 1)) 23 (upI (upI (F 23) sd 0) sd ((20 * p0) + pz))) 24 (upI (upI (F 24) sd 0) sd (en - pz))) 20 (upI (upI (F 20) sd pa) sd en)) 23 sd = (20 * p0) + pz := upI_self _ _ _
                              have e_82 : (va_up (va_up (va_up (va_up (va_up (va_up (va_up (va_up (va_up F 20 (upI (F 20) sd pa)) 22 (upI (F 22) sd (-1))) 23 (upI (F 23) sd 0)) 24 (upI (F 24) sd 0)) 21 (upI (F 21) sd (vp_nar .boolean (iz 1)).toInt)) 22 (upI (upI (F 22) sd (-1)) sd 1)) 23 (upI (upI (F 23) sd 0) sd ((20 * p0) + pz))) 24 (upI (upI (F 24) sd 0) sd (en - pz))) 20 (upI (upI (F 20) sd pa) sd en)) 24 sd = en - pz := upI_self _ _ _
                              have e_83 : (va_up (va_up (va_up (va_up (va_up (va_up (va_up (va_up (va_up F 20 (upI (F 20) sd pa)) 22 (upI (F 22) sd (-1))) 23 (upI (F 23) sd 0)) 24 (upI (F 24) sd 0)) 21 (upI (F 21) sd (vp_nar .boolean (iz 1)).toInt)) 22 (upI (upI (F 22) sd (-1)) sd 1)) 23 (upI (upI (F 23) sd 0) sd ((20 * p0) + pz))) 24 (upI (upI (F 24) sd 0) sd (en - pz))) 20 (upI (upI (F 20) sd pa) sd en)) 21 sd = (vp_nar .boolean (iz 1)).toInt := upI_self _ _ _
                              rw [← hQe]
                              exact mk_ret hx hb hr hlocks hP hD hK hS dX6_step_299 (⟨rfl, (mB_f (mB_f (mB_f (mB_f (mB_f (mB_f (mB_f (mB_f (mB_f hB 20 sd (by omega) (by omega)) 22 sd (by omega) (by omega)) 23 sd (by omega) (by omega)) 24 sd (by omega) (by omega)) 21 sd (iz_lo _) (iz_hi _)) 22 sd (by omega) (by omega)) 23 sd (by omega) (by omega)) 24 sd (by omega) (by omega)) 20 sd (by omega) (by omega)), (mfr.upF (mfr.upF (mfr.upF (mfr.upF (mfr.upF (mfr.upF (mfr.upF (mfr.upF (mfr.upF mfr.rf (by decide) _) (by decide) _) (by decide) _) (by decide) _) (by decide) _) (by decide) _) (by decide) _) (by decide) _) (by decide) _), (mo1.up (mo1.up (mo1.up (mo1.up (mo1.up (mo1.up (mo1.up (mo1.up (mo1.up mo1.rf 20 _) 22 _) 23 _) 24 _) 21 _) 22 _) 23 _) 24 _) 20 _), by omega, by omega, by omega⟩)
                            · skip
                              refine lv_iinc (v := iz (pz + 1)) (lv' := [(3, .int (iz (pz + 1))), (6, .int (iz en)), (5, .int (iz (F 4 ((20 * p0) + pa)))), (4, .int (iz ps)), (0, .ref mo), (1, .int (iz sd)), (2, .int (iz p0))]) hx hb dX6_step_256 hl (k := 3) rfl (iz_add pz 1) (by decide) rfl (fun ls hl => ?_)
                              refine lv_goto (tgt := 234) hx hb dX6_step_259 (by decide) ?_
                              exact ih234 (pz + 1) (by omega) (by omega) _ _ hP hD hS ls (lv_sub hl [1, 2, 3, 0, 4, 5, 6] rfl)
                      exact lp234 _ pa (by omega) (Nat.lt_succ_self _) _ _ hP hD hS ls (lv_sub hl [0, 1, 2, 3, 4, 5, 6] rfl)
                    · skip
                      refine lv_iload hx hb dX6_step_199 (lv_at hl 0 rfl) ?_
                      refine lv_aload_n hx hb dX6_step_201 rfl (lv_at hl 4 rfl) ?_
                      refine va_get (D := (dC, dI)) (ci := 6) (v := .ref (ma 5)) (C := RX6) (T := TX6) (N := 44) hx hb hts kt_X6 hown hK hP 0 rfl rfl 5 (by decide) (kx_word hG kq_04_msmall_15 rfl) (fun _ h9 => h9) rfl dX6_step_202 ?_
                      refine lv_iload_n hx hb dX6_step_205 rfl (lv_at hl 6 rfl) ?_
                      refine ki_iald (F := F 5) hx hb hK hP 4 3 rfl rfl (by omega) (by omega) (by decide) dX6_step_206 ?_
                      refine ki_icmp_ge (tgt := 234) hx hb dX6_step_207 (by decide) (by omega) (by omega) (by omega) (by omega) (fun c_84 => ?_) (fun c_84 => ?_)
                      · skip
                        have lp234 : ∀ (n : Nat) (pz : Int), ((pa ≤ pz ∧ pz ≤ en)) → (en - pz).toNat < n → ∀ (H : Heap) (locs : List Loc), va_P (dC, dI) kxCl (mW mo ma cs I (va_up (va_up (va_up (va_up (va_up F 20 (upI (F 20) sd pa)) 22 (upI (F 22) sd (-1))) 23 (upI (F 23) sd 0)) 24 (upI (F 24) sd 0)) 21 (upI (F 21) sd (vp_nar .boolean (iz 1)).toInt))) H → va_D A (mW mo ma cs I (va_up (va_up (va_up (va_up (va_up F 20 (upI (F 20) sd pa)) 22 (upI (F 22) sd (-1))) 23 (upI (F 23) sd 0)) 24 (upI (F 24) sd 0)) 21 (upI (F 21) sd (vp_nar .boolean (iz 1)).toInt))) → va_S A s.heap H locs → ∀ ls : Array Slot, lv_has ls 7 [(6, .int (iz en)), (5, .int (iz (F 4 ((20 * p0) + pa)))), (4, .int (iz ps)), (3, .int (iz pz)), (0, .ref mo), (1, .int (iz sd)), (2, .int (iz p0))] → W p l e (headSpec [.code yX6_step cX6_step 7 none] ({ frames := 1, cells := 0, slots := 0, locals := 21 })).room s m ([.ref mo, .int (iz sd), .int (iz p0)] : List Value).toArray below meth c H locs 0 0 QQ (F0 m 234 ls []) := by
                          intro n
                          induction n with
                          | zero => intro pz hinv hm; exact absurd hm (Nat.not_lt_zero _)
                          | succ n ih234 =>
                            intro pz hinv hm H locs hP hD hS ls hl
                            have hpz := hinv
                            refine lv_iload_n hx hb dX6_step_234 rfl (lv_at hl 3 rfl) ?_
                            refine lv_iload hx hb dX6_step_235 (lv_at hl 0 rfl) ?_
                            refine ki_icmp_ge (tgt := 262) hx hb dX6_step_237 (by decide) (by omega) (by omega) (by omega) (by omega) (fun c_85 => ?_) (fun c_85 => ?_)
                            · skip
                              refine lv_aload_n hx hb dX6_step_262 rfl (lv_at hl 4 rfl) ?_
                              refine va_get (D := (dC, dI)) (ci := 6) (v := .ref (ma 22)) (C := RX6) (T := TX6) (N := 44) hx hb hts kt_X6 hown hK hP 0 rfl rfl 22 (by decide) (kx_word hG kq_05_morder_2 rfl) (fun _ h9 => h9) rfl dX6_step_263 ?_
                              refine lv_iload_n hx hb dX6_step_266 rfl (lv_at hl 5 rfl) ?_
                              refine lv_iconst (v := iz 1) hx hb dX6_step_267 (by decide) ?_
                              refine ki_iast (F := upI (F 22) sd (-1)) hx hb hK hP hD hS 17 16 rfl rfl (by omega) (by omega) (by decide) dX6_step_268 (fun H locs hP hD hS => ?_)
                              have hP : va_P (dC, dI) kxCl (mW mo ma cs I (va_up (va_up (va_up (va_up (va_up (va_up F 20 (upI (F 20) sd pa)) 22 (upI (F 22) sd (-1))) 23 (upI (F 23) sd 0)) 24 (upI (F 24) sd 0)) 21 (upI (F 21) sd (vp_nar .boolean (iz 1)).toInt)) 22 (upI (upI (F 22) sd (-1)) sd 1))) H := hP
                              have hD : va_D A (mW mo ma cs I (va_up (va_up (va_up (va_up (va_up (va_up F 20 (upI (F 20) sd pa)) 22 (upI (F 22) sd (-1))) 23 (upI (F 23) sd 0)) 24 (upI (F 24) sd 0)) 21 (upI (F 21) sd (vp_nar .boolean (iz 1)).toInt)) 22 (upI (upI (F 22) sd (-1)) sd 1))) := hD
                              refine lv_aload_n hx hb dX6_step_269 rfl (lv_at hl 4 rfl) ?_
                              refine va_get (D := (dC, dI)) (ci := 6) (v := .ref (ma 23)) (C := RX6) (T := TX6) (N := 44) hx hb hts kt_X6 hown hK hP 0 rfl rfl 23 (by decide) (kx_word hG kq_05_morder_3 rfl) (fun _ h9 => h9) rfl dX6_step_270 ?_
                              refine lv_iload_n hx hb dX6_step_273 rfl (lv_at hl 5 rfl) ?_
                              refine lv_bipush (v := iz 20) hx hb dX6_step_274 (by decide) ?_
                              refine lv_iload_n hx hb dX6_step_276 rfl (lv_at hl 6 rfl) ?_
                              refine ki_imul hx hb dX6_step_277 ?_
                              refine lv_iload_n hx hb dX6_step_278 rfl (lv_at hl 3 rfl) ?_
                              refine ki_iadd hx hb dX6_step_279 ?_
                              refine ki_iast (F := upI (F 23) sd 0) hx hb hK hP hD hS 18 17 rfl rfl (by omega) (by omega) (by decide) dX6_step_280 (fun H locs hP hD hS => ?_)
                              have hP : va_P (dC, dI) kxCl (mW mo ma cs I (va_up (va_up (va_up (va_up (va_up (va_up (va_up F 20 (upI (F 20) sd pa)) 22 (upI (F 22) sd (-1))) 23 (upI (F 23) sd 0)) 24 (upI (F 24) sd 0)) 21 (upI (F 21) sd (vp_nar .boolean (iz 1)).toInt)) 22 (upI (upI (F 22) sd (-1)) sd 1)) 23 (upI (upI (F 23) sd 0) sd ((20 * p0) + pz)))) H := hP
                              have hD : va_D A (mW mo ma cs I (va_up (va_up (va_up (va_up (va_up (va_up (va_up F 20 (upI (F 20) sd pa)) 22 (upI (F 22) sd (-1))) 23 (upI (F 23) sd 0)) 24 (upI (F 24) sd 0)) 21 (upI (F 21) sd (vp_nar .boolean (iz 1)).toInt)) 22 (upI (upI (F 22) sd (-1)) sd 1)) 23 (upI (upI (F 23) sd 0) sd ((20 * p0) + pz)))) := hD
                              refine lv_aload_n hx hb dX6_step_281 rfl (lv_at hl 4 rfl) ?_
                              refine va_get (D := (dC, dI)) (ci := 6) (v := .ref (ma 24)) (C := RX6) (T := TX6) (N := 44) hx hb hts kt_X6 hown hK hP 0 rfl rfl 24 (by decide) (kx_word hG kq_05_morder_4 rfl) (fun _ h9 => h9) rfl dX6_step_282 ?_
                              refine lv_iload_n hx hb dX6_step_285 rfl (lv_at hl 5 rfl) ?_
                              refine lv_iload hx hb dX6_step_286 (lv_at hl 0 rfl) ?_
                              refine lv_iload_n hx hb dX6_step_288 rfl (lv_at hl 3 rfl) ?_
                              refine ki_isub hx hb dX6_step_289 ?_
                              refine ki_iast (F := upI (F 24) sd 0) hx hb hK hP hD hS 19 18 rfl rfl (by omega) (by omega) (by decide) dX6_step_290 (fun H locs hP hD hS => ?_)
                              have hP : va_P (dC, dI) kxCl (mW mo ma cs I (va_up (va_up (va_up (va_up (va_up (va_up (va_up (va_up F 20 (upI (F 20) sd pa)) 22 (upI (F 22) sd (-1))) 23 (upI (F 23) sd 0)) 24 (upI (F 24) sd 0)) 21 (upI (F 21) sd (vp_nar .boolean (iz 1)).toInt)) 22 (upI (upI (F 22) sd (-1)) sd 1)) 23 (upI (upI (F 23) sd 0) sd ((20 * p0) + pz))) 24 (upI (upI (F 24) sd 0) sd (en - pz)))) H := hP
                              have hD : va_D A (mW mo ma cs I (va_up (va_up (va_up (va_up (va_up (va_up (va_up (va_up F 20 (upI (F 20) sd pa)) 22 (upI (F 22) sd (-1))) 23 (upI (F 23) sd 0)) 24 (upI (F 24) sd 0)) 21 (upI (F 21) sd (vp_nar .boolean (iz 1)).toInt)) 22 (upI (upI (F 22) sd (-1)) sd 1)) 23 (upI (upI (F 23) sd 0) sd ((20 * p0) + pz))) 24 (upI (upI (F 24) sd 0) sd (en - pz)))) := hD
                              refine lv_aload_n hx hb dX6_step_291 rfl (lv_at hl 4 rfl) ?_
                              refine va_get (D := (dC, dI)) (ci := 6) (v := .ref (ma 20)) (C := RX6) (T := TX6) (N := 44) hx hb hts kt_X6 hown hK hP 0 rfl rfl 20 (by decide) (kx_word hG kq_05_morder_0 rfl) (fun _ h9 => h9) rfl dX6_step_292 ?_
                              refine lv_iload_n hx hb dX6_step_295 rfl (lv_at hl 5 rfl) ?_
                              refine lv_iload hx hb dX6_step_296 (lv_at hl 0 rfl) ?_
                              refine ki_iast (F := upI (F 20) sd pa) hx hb hK hP hD hS 15 14 rfl rfl (by omega) (by omega) (by decide) dX6_step_298 (fun H locs hP hD hS => ?_)
                              have hP : va_P (dC, dI) kxCl (mW mo ma cs I (va_up (va_up (va_up (va_up (va_up (va_up (va_up (va_up (va_up F 20 (upI (F 20) sd pa)) 22 (upI (F 22) sd (-1))) 23 (upI (F 23) sd 0)) 24 (upI (F 24) sd 0)) 21 (upI (F 21) sd (vp_nar .boolean (iz 1)).toInt)) 22 (upI (upI (F 22) sd (-1)) sd 1)) 23 (upI (upI (F 23) sd 0) sd ((20 * p0) + pz))) 24 (upI (upI (F 24) sd 0) sd (en - pz))) 20 (upI (upI (F 20) sd pa) sd en))) H := hP
                              have hD : va_D A (mW mo ma cs I (va_up (va_up (va_up (va_up (va_up (va_up (va_up (va_up (va_up F 20 (upI (F 20) sd pa)) 22 (upI (F 22) sd (-1))) 23 (upI (F 23) sd 0)) 24 (upI (F 24) sd 0)) 21 (upI (F 21) sd (vp_nar .boolean (iz 1)).toInt)) 22 (upI (upI (F 22) sd (-1)) sd 1)) 23 (upI (upI (F 23) sd 0) sd ((20 * p0) + pz))) 24 (upI (upI (F 24) sd 0) sd (en - pz))) 20 (upI (upI (F 20) sd pa) sd en))) := hD
                              have e_86 : (va_up (va_up (va_up (va_up (va_up (va_up (va_up (va_up (va_up F 20 (upI (F 20) sd pa)) 22 (upI (F 22) sd (-1))) 23 (upI (F 23) sd 0)) 24 (upI (F 24) sd 0)) 21 (upI (F 21) sd (vp_nar .boolean (iz 1)).toInt)) 22 (upI (upI (F 22) sd (-1)) sd 1)) 23 (upI (upI (F 23) sd 0) sd ((20 * p0) + pz))) 24 (upI (upI (F 24) sd 0) sd (en - pz))) 20 (upI (upI (F 20) sd pa) sd en)) 20 sd = en := upI_self _ _ _
                              have e_87 : (va_up (va_up (va_up (va_up (va_up (va_up (va_up (va_up (va_up F 20 (upI (F 20) sd pa)) 22 (upI (F 22) sd (-1))) 23 (upI (F 23) sd 0)) 24 (upI (F 24) sd 0)) 21 (upI (F 21) sd (vp_nar .boolean (iz 1)).toInt)) 22 (upI (upI (F 22) sd (-1)) sd 1)) 23 (upI (upI (F 23) sd 0) sd ((20 * p0) + pz))) 24 (upI (upI (F 24) sd 0) sd (en - pz))) 20 (upI (upI (F 20) sd pa) sd en)) 22 sd = 1 := upI_self _ _ _
                              have e_88 : (va_up (va_up (va_up (va_up (va_up (va_up (va_up (va_up (va_up F 20 (upI (F 20) sd pa)) 22 (upI (F 22) sd (-1))) 23 (upI (F 23) sd 0)) 24 (upI (F 24) sd 0)) 21 (upI (F 21) sd (vp_nar .boolean (iz 1)).toInt)) 22 (upI (upI (F 22) sd (-1)) sd 1)) 23 (upI (upI (F 23) sd 0) sd ((20 * p0) + pz))) 24 (upI (upI (F 24) sd 0) sd (en - pz))) 20 (upI (upI (F 20) sd pa) sd en)) 23 sd = (20 * p0) + pz := upI_self _ _ _
                              have e_89 : (va_up (va_up (va_up (va_up (va_up (va_up (va_up (va_up (va_up F 20 (upI (F 20) sd pa)) 22 (upI (F 22) sd (-1))) 23 (upI (F 23) sd 0)) 24 (upI (F 24) sd 0)) 21 (upI (F 21) sd (vp_nar .boolean (iz 1)).toInt)) 22 (upI (upI (F 22) sd (-1)) sd 1)) 23 (upI (upI (F 23) sd 0) sd ((20 * p0) + pz))) 24 (upI (upI (F 24) sd 0) sd (en - pz))) 20 (upI (upI (F 20) sd pa) sd en)) 24 sd = en - pz := upI_self _ _ _
                              have e_90 : (va_up (va_up (va_up (va_up (va_up (va_up (va_up (va_up (va_up F 20 (upI (F 20) sd pa)) 22 (upI (F 22) sd (-1))) 23 (upI (F 23) sd 0)) 24 (upI (F 24) sd 0)) 21 (upI (F 21) sd (vp_nar .boolean (iz 1)).toInt)) 22 (upI (upI (F 22) sd (-1)) sd 1)) 23 (upI (upI (F 23) sd 0) sd ((20 * p0) + pz))) 24 (upI (upI (F 24) sd 0) sd (en - pz))) 20 (upI (upI (F 20) sd pa) sd en)) 21 sd = (vp_nar .boolean (iz 1)).toInt := upI_self _ _ _
                              rw [← hQe]
                              exact mk_ret hx hb hr hlocks hP hD hK hS dX6_step_299 (⟨rfl, (mB_f (mB_f (mB_f (mB_f (mB_f (mB_f (mB_f (mB_f (mB_f hB 20 sd (by omega) (by omega)) 22 sd (by omega) (by omega)) 23 sd (by omega) (by omega)) 24 sd (by omega) (by omega)) 21 sd (iz_lo _) (iz_hi _)) 22 sd (by omega) (by omega)) 23 sd (by omega) (by omega)) 24 sd (by omega) (by omega)) 20 sd (by omega) (by omega)), (mfr.upF (mfr.upF (mfr.upF (mfr.upF (mfr.upF (mfr.upF (mfr.upF (mfr.upF (mfr.upF mfr.rf (by decide) _) (by decide) _) (by decide) _) (by decide) _) (by decide) _) (by decide) _) (by decide) _) (by decide) _) (by decide) _), (mo1.up (mo1.up (mo1.up (mo1.up (mo1.up (mo1.up (mo1.up (mo1.up (mo1.up mo1.rf 20 _) 22 _) 23 _) 24 _) 21 _) 22 _) 23 _) 24 _) 20 _), by omega, by omega, by omega⟩)
                            · skip
                              refine lv_aload_n hx hb dX6_step_240 rfl (lv_at hl 4 rfl) ?_
                              refine va_get (D := (dC, dI)) (ci := 6) (v := .ref (ma 4)) (C := RX6) (T := TX6) (N := 44) hx hb hts kt_X6 hown hK hP 0 rfl rfl 4 (by decide) (kx_word hG kq_04_msmall_16 rfl) (fun _ h9 => h9) rfl dX6_step_241 ?_
                              refine lv_bipush (v := iz 20) hx hb dX6_step_244 (by decide) ?_
                              refine lv_iload_n hx hb dX6_step_246 rfl (lv_at hl 6 rfl) ?_
                              refine ki_imul hx hb dX6_step_247 ?_
                              refine lv_iload_n hx hb dX6_step_248 rfl (lv_at hl 3 rfl) ?_
                              refine ki_iadd hx hb dX6_step_249 ?_
                              refine ki_iald (F := F 4) hx hb hK hP 3 2 rfl rfl (by omega) (by omega) (by decide) dX6_step_250 ?_
                              have hbd_91 := hB.2 4 ((20 * p0) + pz)
                              refine lv_bipush (v := iz 48) hx hb dX6_step_251 (by decide) ?_
                              refine ki_icmp_ne (tgt := 262) hx hb dX6_step_253 (by decide) (by omega) (by omega) (by omega) (by omega) (fun c_92 => ?_) (fun c_92 => ?_)
                              · skip
                                refine lv_aload_n hx hb dX6_step_262 rfl (lv_at hl 4 rfl) ?_
                                refine va_get (D := (dC, dI)) (ci := 6) (v := .ref (ma 22)) (C := RX6) (T := TX6) (N := 44) hx hb hts kt_X6 hown hK hP 0 rfl rfl 22 (by decide) (kx_word hG kq_05_morder_2 rfl) (fun _ h9 => h9) rfl dX6_step_263 ?_
                                refine lv_iload_n hx hb dX6_step_266 rfl (lv_at hl 5 rfl) ?_
                                refine lv_iconst (v := iz 1) hx hb dX6_step_267 (by decide) ?_
                                refine ki_iast (F := upI (F 22) sd (-1)) hx hb hK hP hD hS 17 16 rfl rfl (by omega) (by omega) (by decide) dX6_step_268 (fun H locs hP hD hS => ?_)
                                have hP : va_P (dC, dI) kxCl (mW mo ma cs I (va_up (va_up (va_up (va_up (va_up (va_up F 20 (upI (F 20) sd pa)) 22 (upI (F 22) sd (-1))) 23 (upI (F 23) sd 0)) 24 (upI (F 24) sd 0)) 21 (upI (F 21) sd (vp_nar .boolean (iz 1)).toInt)) 22 (upI (upI (F 22) sd (-1)) sd 1))) H := hP
                                have hD : va_D A (mW mo ma cs I (va_up (va_up (va_up (va_up (va_up (va_up F 20 (upI (F 20) sd pa)) 22 (upI (F 22) sd (-1))) 23 (upI (F 23) sd 0)) 24 (upI (F 24) sd 0)) 21 (upI (F 21) sd (vp_nar .boolean (iz 1)).toInt)) 22 (upI (upI (F 22) sd (-1)) sd 1))) := hD
                                refine lv_aload_n hx hb dX6_step_269 rfl (lv_at hl 4 rfl) ?_
                                refine va_get (D := (dC, dI)) (ci := 6) (v := .ref (ma 23)) (C := RX6) (T := TX6) (N := 44) hx hb hts kt_X6 hown hK hP 0 rfl rfl 23 (by decide) (kx_word hG kq_05_morder_3 rfl) (fun _ h9 => h9) rfl dX6_step_270 ?_
                                refine lv_iload_n hx hb dX6_step_273 rfl (lv_at hl 5 rfl) ?_
                                refine lv_bipush (v := iz 20) hx hb dX6_step_274 (by decide) ?_
                                refine lv_iload_n hx hb dX6_step_276 rfl (lv_at hl 6 rfl) ?_
                                refine ki_imul hx hb dX6_step_277 ?_
                                refine lv_iload_n hx hb dX6_step_278 rfl (lv_at hl 3 rfl) ?_
                                refine ki_iadd hx hb dX6_step_279 ?_
                                refine ki_iast (F := upI (F 23) sd 0) hx hb hK hP hD hS 18 17 rfl rfl (by omega) (by omega) (by decide) dX6_step_280 (fun H locs hP hD hS => ?_)
                                have hP : va_P (dC, dI) kxCl (mW mo ma cs I (va_up (va_up (va_up (va_up (va_up (va_up (va_up F 20 (upI (F 20) sd pa)) 22 (upI (F 22) sd (-1))) 23 (upI (F 23) sd 0)) 24 (upI (F 24) sd 0)) 21 (upI (F 21) sd (vp_nar .boolean (iz 1)).toInt)) 22 (upI (upI (F 22) sd (-1)) sd 1)) 23 (upI (upI (F 23) sd 0) sd ((20 * p0) + pz)))) H := hP
                                have hD : va_D A (mW mo ma cs I (va_up (va_up (va_up (va_up (va_up (va_up (va_up F 20 (upI (F 20) sd pa)) 22 (upI (F 22) sd (-1))) 23 (upI (F 23) sd 0)) 24 (upI (F 24) sd 0)) 21 (upI (F 21) sd (vp_nar .boolean (iz 1)).toInt)) 22 (upI (upI (F 22) sd (-1)) sd 1)) 23 (upI (upI (F 23) sd 0) sd ((20 * p0) + pz)))) := hD
                                refine lv_aload_n hx hb dX6_step_281 rfl (lv_at hl 4 rfl) ?_
                                refine va_get (D := (dC, dI)) (ci := 6) (v := .ref (ma 24)) (C := RX6) (T := TX6) (N := 44) hx hb hts kt_X6 hown hK hP 0 rfl rfl 24 (by decide) (kx_word hG kq_05_morder_4 rfl) (fun _ h9 => h9) rfl dX6_step_282 ?_
                                refine lv_iload_n hx hb dX6_step_285 rfl (lv_at hl 5 rfl) ?_
                                refine lv_iload hx hb dX6_step_286 (lv_at hl 0 rfl) ?_
                                refine lv_iload_n hx hb dX6_step_288 rfl (lv_at hl 3 rfl) ?_
                                refine ki_isub hx hb dX6_step_289 ?_
                                refine ki_iast (F := upI (F 24) sd 0) hx hb hK hP hD hS 19 18 rfl rfl (by omega) (by omega) (by decide) dX6_step_290 (fun H locs hP hD hS => ?_)
                                have hP : va_P (dC, dI) kxCl (mW mo ma cs I (va_up (va_up (va_up (va_up (va_up (va_up (va_up (va_up F 20 (upI (F 20) sd pa)) 22 (upI (F 22) sd (-1))) 23 (upI (F 23) sd 0)) 24 (upI (F 24) sd 0)) 21 (upI (F 21) sd (vp_nar .boolean (iz 1)).toInt)) 22 (upI (upI (F 22) sd (-1)) sd 1)) 23 (upI (upI (F 23) sd 0) sd ((20 * p0) + pz))) 24 (upI (upI (F 24) sd 0) sd (en - pz)))) H := hP
                                have hD : va_D A (mW mo ma cs I (va_up (va_up (va_up (va_up (va_up (va_up (va_up (va_up F 20 (upI (F 20) sd pa)) 22 (upI (F 22) sd (-1))) 23 (upI (F 23) sd 0)) 24 (upI (F 24) sd 0)) 21 (upI (F 21) sd (vp_nar .boolean (iz 1)).toInt)) 22 (upI (upI (F 22) sd (-1)) sd 1)) 23 (upI (upI (F 23) sd 0) sd ((20 * p0) + pz))) 24 (upI (upI (F 24) sd 0) sd (en - pz)))) := hD
                                refine lv_aload_n hx hb dX6_step_291 rfl (lv_at hl 4 rfl) ?_
                                refine va_get (D := (dC, dI)) (ci := 6) (v := .ref (ma 20)) (C := RX6) (T := TX6) (N := 44) hx hb hts kt_X6 hown hK hP 0 rfl rfl 20 (by decide) (kx_word hG kq_05_morder_0 rfl) (fun _ h9 => h9) rfl dX6_step_292 ?_
                                refine lv_iload_n hx hb dX6_step_295 rfl (lv_at hl 5 rfl) ?_
                                refine lv_iload hx hb dX6_step_296 (lv_at hl 0 rfl) ?_
                                refine ki_iast (F := upI (F 20) sd pa) hx hb hK hP hD hS 15 14 rfl rfl (by omega) (by omega) (by decide) dX6_step_298 (fun H locs hP hD hS => ?_)
                                have hP : va_P (dC, dI) kxCl (mW mo ma cs I (va_up (va_up (va_up (va_up (va_up (va_up (va_up (va_up (va_up F 20 (upI (F 20) sd pa)) 22 (upI (F 22) sd (-1))) 23 (upI (F 23) sd 0)) 24 (upI (F 24) sd 0)) 21 (upI (F 21) sd (vp_nar .boolean (iz 1)).toInt)) 22 (upI (upI (F 22) sd (-1)) sd 1)) 23 (upI (upI (F 23) sd 0) sd ((20 * p0) + pz))) 24 (upI (upI (F 24) sd 0) sd (en - pz))) 20 (upI (upI (F 20) sd pa) sd en))) H := hP
                                have hD : va_D A (mW mo ma cs I (va_up (va_up (va_up (va_up (va_up (va_up (va_up (va_up (va_up F 20 (upI (F 20) sd pa)) 22 (upI (F 22) sd (-1))) 23 (upI (F 23) sd 0)) 24 (upI (F 24) sd 0)) 21 (upI (F 21) sd (vp_nar .boolean (iz 1)).toInt)) 22 (upI (upI (F 22) sd (-1)) sd 1)) 23 (upI (upI (F 23) sd 0) sd ((20 * p0) + pz))) 24 (upI (upI (F 24) sd 0) sd (en - pz))) 20 (upI (upI (F 20) sd pa) sd en))) := hD
                                have e_93 : (va_up (va_up (va_up (va_up (va_up (va_up (va_up (va_up (va_up F 20 (upI (F 20) sd pa)) 22 (upI (F 22) sd (-1))) 23 (upI (F 23) sd 0)) 24 (upI (F 24) sd 0)) 21 (upI (F 21) sd (vp_nar .boolean (iz 1)).toInt)) 22 (upI (upI (F 22) sd (-1)) sd 1)) 23 (upI (upI (F 23) sd 0) sd ((20 * p0) + pz))) 24 (upI (upI (F 24) sd 0) sd (en - pz))) 20 (upI (upI (F 20) sd pa) sd en)) 20 sd = en := upI_self _ _ _
                                have e_94 : (va_up (va_up (va_up (va_up (va_up (va_up (va_up (va_up (va_up F 20 (upI (F 20) sd pa)) 22 (upI (F 22) sd (-1))) 23 (upI (F 23) sd 0)) 24 (upI (F 24) sd 0)) 21 (upI (F 21) sd (vp_nar .boolean (iz 1)).toInt)) 22 (upI (upI (F 22) sd (-1)) sd 1)) 23 (upI (upI (F 23) sd 0) sd ((20 * p0) + pz))) 24 (upI (upI (F 24) sd 0) sd (en - pz))) 20 (upI (upI (F 20) sd pa) sd en)) 22 sd = 1 := upI_self _ _ _
                                have e_95 : (va_up (va_up (va_up (va_up (va_up (va_up (va_up (va_up (va_up F 20 (upI (F 20) sd pa)) 22 (upI (F 22) sd (-1))) 23 (upI (F 23) sd 0)) 24 (upI (F 24) sd 0)) 21 (upI (F 21) sd (vp_nar .boolean (iz 1)).toInt)) 22 (upI (upI (F 22) sd (-1)) sd 1)) 23 (upI (upI (F 23) sd 0) sd ((20 * p0) + pz))) 24 (upI (upI (F 24) sd 0) sd (en - pz))) 20 (upI (upI (F 20) sd pa) sd en)) 23 sd = (20 * p0) + pz := upI_self _ _ _
                                have e_96 : (va_up (va_up (va_up (va_up (va_up (va_up (va_up (va_up (va_up F 20 (upI (F 20) sd pa)) 22 (upI (F 22) sd (-1))) 23 (upI (F 23) sd 0)) 24 (upI (F 24) sd 0)) 21 (upI (F 21) sd (vp_nar .boolean (iz 1)).toInt)) 22 (upI (upI (F 22) sd (-1)) sd 1)) 23 (upI (upI (F 23) sd 0) sd ((20 * p0) + pz))) 24 (upI (upI (F 24) sd 0) sd (en - pz))) 20 (upI (upI (F 20) sd pa) sd en)) 24 sd = en - pz := upI_self _ _ _
                                have e_97 : (va_up (va_up (va_up (va_up (va_up (va_up (va_up (va_up (va_up F 20 (upI (F 20) sd pa)) 22 (upI (F 22) sd (-1))) 23 (upI (F 23) sd 0)) 24 (upI (F 24) sd 0)) 21 (upI (F 21) sd (vp_nar .boolean (iz 1)).toInt)) 22 (upI (upI (F 22) sd (-1)) sd 1)) 23 (upI (upI (F 23) sd 0) sd ((20 * p0) + pz))) 24 (upI (upI (F 24) sd 0) sd (en - pz))) 20 (upI (upI (F 20) sd pa) sd en)) 21 sd = (vp_nar .boolean (iz 1)).toInt := upI_self _ _ _
                                rw [← hQe]
                                exact mk_ret hx hb hr hlocks hP hD hK hS dX6_step_299 (⟨rfl, (mB_f (mB_f (mB_f (mB_f (mB_f (mB_f (mB_f (mB_f (mB_f hB 20 sd (by omega) (by omega)) 22 sd (by omega) (by omega)) 23 sd (by omega) (by omega)) 24 sd (by omega) (by omega)) 21 sd (iz_lo _) (iz_hi _)) 22 sd (by omega) (by omega)) 23 sd (by omega) (by omega)) 24 sd (by omega) (by omega)) 20 sd (by omega) (by omega)), (mfr.upF (mfr.upF (mfr.upF (mfr.upF (mfr.upF (mfr.upF (mfr.upF (mfr.upF (mfr.upF mfr.rf (by decide) _) (by decide) _) (by decide) _) (by decide) _) (by decide) _) (by decide) _) (by decide) _) (by decide) _) (by decide) _), (mo1.up (mo1.up (mo1.up (mo1.up (mo1.up (mo1.up (mo1.up (mo1.up (mo1.up mo1.rf 20 _) 22 _) 23 _) 24 _) 21 _) 22 _) 23 _) 24 _) 20 _), by omega, by omega, by omega⟩)
                              · skip
                                refine lv_iinc (v := iz (pz + 1)) (lv' := [(3, .int (iz (pz + 1))), (6, .int (iz en)), (5, .int (iz (F 4 ((20 * p0) + pa)))), (4, .int (iz ps)), (0, .ref mo), (1, .int (iz sd)), (2, .int (iz p0))]) hx hb dX6_step_256 hl (k := 3) rfl (iz_add pz 1) (by decide) rfl (fun ls hl => ?_)
                                refine lv_goto (tgt := 234) hx hb dX6_step_259 (by decide) ?_
                                exact ih234 (pz + 1) (by omega) (by omega) _ _ hP hD hS ls (lv_sub hl [1, 2, 3, 0, 4, 5, 6] rfl)
                        exact lp234 _ pa (by omega) (Nat.lt_succ_self _) _ _ hP hD hS ls (lv_sub hl [0, 1, 2, 3, 4, 5, 6] rfl)
                      · skip
                        refine lv_aload_n hx hb dX6_step_210 rfl (lv_at hl 4 rfl) ?_
                        refine va_get (D := (dC, dI)) (ci := 6) (v := .ref (ma 4)) (C := RX6) (T := TX6) (N := 44) hx hb hts kt_X6 hown hK hP 0 rfl rfl 4 (by decide) (kx_word hG kq_04_msmall_16 rfl) (fun _ h9 => h9) rfl dX6_step_211 ?_
                        refine lv_bipush (v := iz 20) hx hb dX6_step_214 (by decide) ?_
                        refine lv_iload_n hx hb dX6_step_216 rfl (lv_at hl 6 rfl) ?_
                        refine ki_imul hx hb dX6_step_217 ?_
                        refine lv_iload hx hb dX6_step_218 (lv_at hl 0 rfl) ?_
                        refine ki_iadd hx hb dX6_step_220 ?_
                        refine ki_iald (F := F 4) hx hb hK hP 3 2 rfl rfl (by omega) (by omega) (by decide) dX6_step_221 ?_
                        have hbd_98 := hB.2 4 ((20 * p0) + en)
                        refine mk_calls (As := [.int (iz (F 4 ((20 * p0) + en)))]) (rest := []) ⟨hx, hb, hml, hown, hts⟩ (k_isNumber l dC dI (F 4 ((20 * p0) + en)) H.size (by omega) (by omega)) (va_cwS 1 hts (kx_gS kq_05_morder_8 kq_05_morder_9 kq_04_msmall_6 kq_05_morder_10 rfl) rfl rfl rfl (by decide +kernel) ⟨Nat.le_of_ble_eq_true rfl, Nat.le_of_ble_eq_true rfl⟩) hP hD hK hG hZ hS hA rfl hl.1 rfl (Nat.le_of_ble_eq_true rfl) dX6_step_222 ⟨Nat.le_of_ble_eq_true rfl, Nat.le_of_ble_eq_true rfl⟩ (fun z_99 H locs hq_100 hP hS => ?_)
                        try dsimp only at hq_100
                        refine ki_if_eq (tgt := 234) hx hb dX6_step_225 (by decide) (by omega) (by omega) (fun c_101 => ?_) (fun c_101 => ?_)
                        · skip
                          have lp234 : ∀ (n : Nat) (pz : Int), ((pa ≤ pz ∧ pz ≤ en)) → (en - pz).toNat < n → ∀ (H : Heap) (locs : List Loc), va_P (dC, dI) kxCl (mW mo ma cs I (va_up (va_up (va_up (va_up (va_up F 20 (upI (F 20) sd pa)) 22 (upI (F 22) sd (-1))) 23 (upI (F 23) sd 0)) 24 (upI (F 24) sd 0)) 21 (upI (F 21) sd (vp_nar .boolean (iz 1)).toInt))) H → va_D A (mW mo ma cs I (va_up (va_up (va_up (va_up (va_up F 20 (upI (F 20) sd pa)) 22 (upI (F 22) sd (-1))) 23 (upI (F 23) sd 0)) 24 (upI (F 24) sd 0)) 21 (upI (F 21) sd (vp_nar .boolean (iz 1)).toInt))) → va_S A s.heap H locs → ∀ ls : Array Slot, lv_has ls 7 [(6, .int (iz en)), (5, .int (iz (F 4 ((20 * p0) + pa)))), (4, .int (iz ps)), (3, .int (iz pz)), (0, .ref mo), (1, .int (iz sd)), (2, .int (iz p0))] → W p l e (headSpec [.code yX6_step cX6_step 7 none] ({ frames := 1, cells := 0, slots := 0, locals := 21 })).room s m ([.ref mo, .int (iz sd), .int (iz p0)] : List Value).toArray below meth c H locs 0 0 QQ (F0 m 234 ls []) := by
                            intro n
                            induction n with
                            | zero => intro pz hinv hm; exact absurd hm (Nat.not_lt_zero _)
                            | succ n ih234 =>
                              intro pz hinv hm H locs hP hD hS ls hl
                              have hpz := hinv
                              refine lv_iload_n hx hb dX6_step_234 rfl (lv_at hl 3 rfl) ?_
                              refine lv_iload hx hb dX6_step_235 (lv_at hl 0 rfl) ?_
                              refine ki_icmp_ge (tgt := 262) hx hb dX6_step_237 (by decide) (by omega) (by omega) (by omega) (by omega) (fun c_102 => ?_) (fun c_102 => ?_)
                              · skip
                                refine lv_aload_n hx hb dX6_step_262 rfl (lv_at hl 4 rfl) ?_
                                refine va_get (D := (dC, dI)) (ci := 6) (v := .ref (ma 22)) (C := RX6) (T := TX6) (N := 44) hx hb hts kt_X6 hown hK hP 0 rfl rfl 22 (by decide) (kx_word hG kq_05_morder_2 rfl) (fun _ h9 => h9) rfl dX6_step_263 ?_
                                refine lv_iload_n hx hb dX6_step_266 rfl (lv_at hl 5 rfl) ?_
                                refine lv_iconst (v := iz 1) hx hb dX6_step_267 (by decide) ?_
                                refine ki_iast (F := upI (F 22) sd (-1)) hx hb hK hP hD hS 17 16 rfl rfl (by omega) (by omega) (by decide) dX6_step_268 (fun H locs hP hD hS => ?_)
                                have hP : va_P (dC, dI) kxCl (mW mo ma cs I (va_up (va_up (va_up (va_up (va_up (va_up F 20 (upI (F 20) sd pa)) 22 (upI (F 22) sd (-1))) 23 (upI (F 23) sd 0)) 24 (upI (F 24) sd 0)) 21 (upI (F 21) sd (vp_nar .boolean (iz 1)).toInt)) 22 (upI (upI (F 22) sd (-1)) sd 1))) H := hP
                                have hD : va_D A (mW mo ma cs I (va_up (va_up (va_up (va_up (va_up (va_up F 20 (upI (F 20) sd pa)) 22 (upI (F 22) sd (-1))) 23 (upI (F 23) sd 0)) 24 (upI (F 24) sd 0)) 21 (upI (F 21) sd (vp_nar .boolean (iz 1)).toInt)) 22 (upI (upI (F 22) sd (-1)) sd 1))) := hD
                                refine lv_aload_n hx hb dX6_step_269 rfl (lv_at hl 4 rfl) ?_
                                refine va_get (D := (dC, dI)) (ci := 6) (v := .ref (ma 23)) (C := RX6) (T := TX6) (N := 44) hx hb hts kt_X6 hown hK hP 0 rfl rfl 23 (by decide) (kx_word hG kq_05_morder_3 rfl) (fun _ h9 => h9) rfl dX6_step_270 ?_
                                refine lv_iload_n hx hb dX6_step_273 rfl (lv_at hl 5 rfl) ?_
                                refine lv_bipush (v := iz 20) hx hb dX6_step_274 (by decide) ?_
                                refine lv_iload_n hx hb dX6_step_276 rfl (lv_at hl 6 rfl) ?_
                                refine ki_imul hx hb dX6_step_277 ?_
                                refine lv_iload_n hx hb dX6_step_278 rfl (lv_at hl 3 rfl) ?_
                                refine ki_iadd hx hb dX6_step_279 ?_
                                refine ki_iast (F := upI (F 23) sd 0) hx hb hK hP hD hS 18 17 rfl rfl (by omega) (by omega) (by decide) dX6_step_280 (fun H locs hP hD hS => ?_)
                                have hP : va_P (dC, dI) kxCl (mW mo ma cs I (va_up (va_up (va_up (va_up (va_up (va_up (va_up F 20 (upI (F 20) sd pa)) 22 (upI (F 22) sd (-1))) 23 (upI (F 23) sd 0)) 24 (upI (F 24) sd 0)) 21 (upI (F 21) sd (vp_nar .boolean (iz 1)).toInt)) 22 (upI (upI (F 22) sd (-1)) sd 1)) 23 (upI (upI (F 23) sd 0) sd ((20 * p0) + pz)))) H := hP
                                have hD : va_D A (mW mo ma cs I (va_up (va_up (va_up (va_up (va_up (va_up (va_up F 20 (upI (F 20) sd pa)) 22 (upI (F 22) sd (-1))) 23 (upI (F 23) sd 0)) 24 (upI (F 24) sd 0)) 21 (upI (F 21) sd (vp_nar .boolean (iz 1)).toInt)) 22 (upI (upI (F 22) sd (-1)) sd 1)) 23 (upI (upI (F 23) sd 0) sd ((20 * p0) + pz)))) := hD
                                refine lv_aload_n hx hb dX6_step_281 rfl (lv_at hl 4 rfl) ?_
                                refine va_get (D := (dC, dI)) (ci := 6) (v := .ref (ma 24)) (C := RX6) (T := TX6) (N := 44) hx hb hts kt_X6 hown hK hP 0 rfl rfl 24 (by decide) (kx_word hG kq_05_morder_4 rfl) (fun _ h9 => h9) rfl dX6_step_282 ?_
                                refine lv_iload_n hx hb dX6_step_285 rfl (lv_at hl 5 rfl) ?_
                                refine lv_iload hx hb dX6_step_286 (lv_at hl 0 rfl) ?_
                                refine lv_iload_n hx hb dX6_step_288 rfl (lv_at hl 3 rfl) ?_
                                refine ki_isub hx hb dX6_step_289 ?_
                                refine ki_iast (F := upI (F 24) sd 0) hx hb hK hP hD hS 19 18 rfl rfl (by omega) (by omega) (by decide) dX6_step_290 (fun H locs hP hD hS => ?_)
                                have hP : va_P (dC, dI) kxCl (mW mo ma cs I (va_up (va_up (va_up (va_up (va_up (va_up (va_up (va_up F 20 (upI (F 20) sd pa)) 22 (upI (F 22) sd (-1))) 23 (upI (F 23) sd 0)) 24 (upI (F 24) sd 0)) 21 (upI (F 21) sd (vp_nar .boolean (iz 1)).toInt)) 22 (upI (upI (F 22) sd (-1)) sd 1)) 23 (upI (upI (F 23) sd 0) sd ((20 * p0) + pz))) 24 (upI (upI (F 24) sd 0) sd (en - pz)))) H := hP
                                have hD : va_D A (mW mo ma cs I (va_up (va_up (va_up (va_up (va_up (va_up (va_up (va_up F 20 (upI (F 20) sd pa)) 22 (upI (F 22) sd (-1))) 23 (upI (F 23) sd 0)) 24 (upI (F 24) sd 0)) 21 (upI (F 21) sd (vp_nar .boolean (iz 1)).toInt)) 22 (upI (upI (F 22) sd (-1)) sd 1)) 23 (upI (upI (F 23) sd 0) sd ((20 * p0) + pz))) 24 (upI (upI (F 24) sd 0) sd (en - pz)))) := hD
                                refine lv_aload_n hx hb dX6_step_291 rfl (lv_at hl 4 rfl) ?_
                                refine va_get (D := (dC, dI)) (ci := 6) (v := .ref (ma 20)) (C := RX6) (T := TX6) (N := 44) hx hb hts kt_X6 hown hK hP 0 rfl rfl 20 (by decide) (kx_word hG kq_05_morder_0 rfl) (fun _ h9 => h9) rfl dX6_step_292 ?_
                                refine lv_iload_n hx hb dX6_step_295 rfl (lv_at hl 5 rfl) ?_
                                refine lv_iload hx hb dX6_step_296 (lv_at hl 0 rfl) ?_
                                refine ki_iast (F := upI (F 20) sd pa) hx hb hK hP hD hS 15 14 rfl rfl (by omega) (by omega) (by decide) dX6_step_298 (fun H locs hP hD hS => ?_)
                                have hP : va_P (dC, dI) kxCl (mW mo ma cs I (va_up (va_up (va_up (va_up (va_up (va_up (va_up (va_up (va_up F 20 (upI (F 20) sd pa)) 22 (upI (F 22) sd (-1))) 23 (upI (F 23) sd 0)) 24 (upI (F 24) sd 0)) 21 (upI (F 21) sd (vp_nar .boolean (iz 1)).toInt)) 22 (upI (upI (F 22) sd (-1)) sd 1)) 23 (upI (upI (F 23) sd 0) sd ((20 * p0) + pz))) 24 (upI (upI (F 24) sd 0) sd (en - pz))) 20 (upI (upI (F 20) sd pa) sd en))) H := hP
                                have hD : va_D A (mW mo ma cs I (va_up (va_up (va_up (va_up (va_up (va_up (va_up (va_up (va_up F 20 (upI (F 20) sd pa)) 22 (upI (F 22) sd (-1))) 23 (upI (F 23) sd 0)) 24 (upI (F 24) sd 0)) 21 (upI (F 21) sd (vp_nar .boolean (iz 1)).toInt)) 22 (upI (upI (F 22) sd (-1)) sd 1)) 23 (upI (upI (F 23) sd 0) sd ((20 * p0) + pz))) 24 (upI (upI (F 24) sd 0) sd (en - pz))) 20 (upI (upI (F 20) sd pa) sd en))) := hD
                                have e_103 : (va_up (va_up (va_up (va_up (va_up (va_up (va_up (va_up (va_up F 20 (upI (F 20) sd pa)) 22 (upI (F 22) sd (-1))) 23 (upI (F 23) sd 0)) 24 (upI (F 24) sd 0)) 21 (upI (F 21) sd (vp_nar .boolean (iz 1)).toInt)) 22 (upI (upI (F 22) sd (-1)) sd 1)) 23 (upI (upI (F 23) sd 0) sd ((20 * p0) + pz))) 24 (upI (upI (F 24) sd 0) sd (en - pz))) 20 (upI (upI (F 20) sd pa) sd en)) 20 sd = en := upI_self _ _ _
                                have e_104 : (va_up (va_up (va_up (va_up (va_up (va_up (va_up (va_up (va_up F 20 (upI (F 20) sd pa)) 22 (upI (F 22) sd (-1))) 23 (upI (F 23) sd 0)) 24 (upI (F 24) sd 0)) 21 (upI (F 21) sd (vp_nar .boolean (iz 1)).toInt)) 22 (upI (upI (F 22) sd (-1)) sd 1)) 23 (upI (upI (F 23) sd 0) sd ((20 * p0) + pz))) 24 (upI (upI (F 24) sd 0) sd (en - pz))) 20 (upI (upI (F 20) sd pa) sd en)) 22 sd = 1 := upI_self _ _ _
                                have e_105 : (va_up (va_up (va_up (va_up (va_up (va_up (va_up (va_up (va_up F 20 (upI (F 20) sd pa)) 22 (upI (F 22) sd (-1))) 23 (upI (F 23) sd 0)) 24 (upI (F 24) sd 0)) 21 (upI (F 21) sd (vp_nar .boolean (iz 1)).toInt)) 22 (upI (upI (F 22) sd (-1)) sd 1)) 23 (upI (upI (F 23) sd 0) sd ((20 * p0) + pz))) 24 (upI (upI (F 24) sd 0) sd (en - pz))) 20 (upI (upI (F 20) sd pa) sd en)) 23 sd = (20 * p0) + pz := upI_self _ _ _
                                have e_106 : (va_up (va_up (va_up (va_up (va_up (va_up (va_up (va_up (va_up F 20 (upI (F 20) sd pa)) 22 (upI (F 22) sd (-1))) 23 (upI (F 23) sd 0)) 24 (upI (F 24) sd 0)) 21 (upI (F 21) sd (vp_nar .boolean (iz 1)).toInt)) 22 (upI (upI (F 22) sd (-1)) sd 1)) 23 (upI (upI (F 23) sd 0) sd ((20 * p0) + pz))) 24 (upI (upI (F 24) sd 0) sd (en - pz))) 20 (upI (upI (F 20) sd pa) sd en)) 24 sd = en - pz := upI_self _ _ _
                                have e_107 : (va_up (va_up (va_up (va_up (va_up (va_up (va_up (va_up (va_up F 20 (upI (F 20) sd pa)) 22 (upI (F 22) sd (-1))) 23 (upI (F 23) sd 0)) 24 (upI (F 24) sd 0)) 21 (upI (F 21) sd (vp_nar .boolean (iz 1)).toInt)) 22 (upI (upI (F 22) sd (-1)) sd 1)) 23 (upI (upI (F 23) sd 0) sd ((20 * p0) + pz))) 24 (upI (upI (F 24) sd 0) sd (en - pz))) 20 (upI (upI (F 20) sd pa) sd en)) 21 sd = (vp_nar .boolean (iz 1)).toInt := upI_self _ _ _
                                rw [← hQe]
                                exact mk_ret hx hb hr hlocks hP hD hK hS dX6_step_299 (⟨rfl, (mB_f (mB_f (mB_f (mB_f (mB_f (mB_f (mB_f (mB_f (mB_f hB 20 sd (by omega) (by omega)) 22 sd (by omega) (by omega)) 23 sd (by omega) (by omega)) 24 sd (by omega) (by omega)) 21 sd (iz_lo _) (iz_hi _)) 22 sd (by omega) (by omega)) 23 sd (by omega) (by omega)) 24 sd (by omega) (by omega)) 20 sd (by omega) (by omega)), (mfr.upF (mfr.upF (mfr.upF (mfr.upF (mfr.upF (mfr.upF (mfr.upF (mfr.upF (mfr.upF mfr.rf (by decide) _) (by decide) _) (by decide) _) (by decide) _) (by decide) _) (by decide) _) (by decide) _) (by decide) _) (by decide) _), (mo1.up (mo1.up (mo1.up (mo1.up (mo1.up (mo1.up (mo1.up (mo1.up (mo1.up mo1.rf 20 _) 22 _) 23 _) 24 _) 21 _) 22 _) 23 _) 24 _) 20 _), by omega, by omega, by omega⟩)
                              · skip
                                refine lv_aload_n hx hb dX6_step_240 rfl (lv_at hl 4 rfl) ?_
                                refine va_get (D := (dC, dI)) (ci := 6) (v := .ref (ma 4)) (C := RX6) (T := TX6) (N := 44) hx hb hts kt_X6 hown hK hP 0 rfl rfl 4 (by decide) (kx_word hG kq_04_msmall_16 rfl) (fun _ h9 => h9) rfl dX6_step_241 ?_
                                refine lv_bipush (v := iz 20) hx hb dX6_step_244 (by decide) ?_
                                refine lv_iload_n hx hb dX6_step_246 rfl (lv_at hl 6 rfl) ?_
                                refine ki_imul hx hb dX6_step_247 ?_
                                refine lv_iload_n hx hb dX6_step_248 rfl (lv_at hl 3 rfl) ?_
                                refine ki_iadd hx hb dX6_step_249 ?_
                                refine ki_iald (F := F 4) hx hb hK hP 3 2 rfl rfl (by omega) (by omega) (by decide) dX6_step_250 ?_
                                have hbd_108 := hB.2 4 ((20 * p0) + pz)
                                refine lv_bipush (v := iz 48) hx hb dX6_step_251 (by decide) ?_
                                refine ki_icmp_ne (tgt := 262) hx hb dX6_step_253 (by decide) (by omega) (by omega) (by omega) (by omega) (fun c_109 => ?_) (fun c_109 => ?_)
                                · skip
                                  refine lv_aload_n hx hb dX6_step_262 rfl (lv_at hl 4 rfl) ?_
                                  refine va_get (D := (dC, dI)) (ci := 6) (v := .ref (ma 22)) (C := RX6) (T := TX6) (N := 44) hx hb hts kt_X6 hown hK hP 0 rfl rfl 22 (by decide) (kx_word hG kq_05_morder_2 rfl) (fun _ h9 => h9) rfl dX6_step_263 ?_
                                  refine lv_iload_n hx hb dX6_step_266 rfl (lv_at hl 5 rfl) ?_
                                  refine lv_iconst (v := iz 1) hx hb dX6_step_267 (by decide) ?_
                                  refine ki_iast (F := upI (F 22) sd (-1)) hx hb hK hP hD hS 17 16 rfl rfl (by omega) (by omega) (by decide) dX6_step_268 (fun H locs hP hD hS => ?_)
                                  have hP : va_P (dC, dI) kxCl (mW mo ma cs I (va_up (va_up (va_up (va_up (va_up (va_up F 20 (upI (F 20) sd pa)) 22 (upI (F 22) sd (-1))) 23 (upI (F 23) sd 0)) 24 (upI (F 24) sd 0)) 21 (upI (F 21) sd (vp_nar .boolean (iz 1)).toInt)) 22 (upI (upI (F 22) sd (-1)) sd 1))) H := hP
                                  have hD : va_D A (mW mo ma cs I (va_up (va_up (va_up (va_up (va_up (va_up F 20 (upI (F 20) sd pa)) 22 (upI (F 22) sd (-1))) 23 (upI (F 23) sd 0)) 24 (upI (F 24) sd 0)) 21 (upI (F 21) sd (vp_nar .boolean (iz 1)).toInt)) 22 (upI (upI (F 22) sd (-1)) sd 1))) := hD
                                  refine lv_aload_n hx hb dX6_step_269 rfl (lv_at hl 4 rfl) ?_
                                  refine va_get (D := (dC, dI)) (ci := 6) (v := .ref (ma 23)) (C := RX6) (T := TX6) (N := 44) hx hb hts kt_X6 hown hK hP 0 rfl rfl 23 (by decide) (kx_word hG kq_05_morder_3 rfl) (fun _ h9 => h9) rfl dX6_step_270 ?_
                                  refine lv_iload_n hx hb dX6_step_273 rfl (lv_at hl 5 rfl) ?_
                                  refine lv_bipush (v := iz 20) hx hb dX6_step_274 (by decide) ?_
                                  refine lv_iload_n hx hb dX6_step_276 rfl (lv_at hl 6 rfl) ?_
                                  refine ki_imul hx hb dX6_step_277 ?_
                                  refine lv_iload_n hx hb dX6_step_278 rfl (lv_at hl 3 rfl) ?_
                                  refine ki_iadd hx hb dX6_step_279 ?_
                                  refine ki_iast (F := upI (F 23) sd 0) hx hb hK hP hD hS 18 17 rfl rfl (by omega) (by omega) (by decide) dX6_step_280 (fun H locs hP hD hS => ?_)
                                  have hP : va_P (dC, dI) kxCl (mW mo ma cs I (va_up (va_up (va_up (va_up (va_up (va_up (va_up F 20 (upI (F 20) sd pa)) 22 (upI (F 22) sd (-1))) 23 (upI (F 23) sd 0)) 24 (upI (F 24) sd 0)) 21 (upI (F 21) sd (vp_nar .boolean (iz 1)).toInt)) 22 (upI (upI (F 22) sd (-1)) sd 1)) 23 (upI (upI (F 23) sd 0) sd ((20 * p0) + pz)))) H := hP
                                  have hD : va_D A (mW mo ma cs I (va_up (va_up (va_up (va_up (va_up (va_up (va_up F 20 (upI (F 20) sd pa)) 22 (upI (F 22) sd (-1))) 23 (upI (F 23) sd 0)) 24 (upI (F 24) sd 0)) 21 (upI (F 21) sd (vp_nar .boolean (iz 1)).toInt)) 22 (upI (upI (F 22) sd (-1)) sd 1)) 23 (upI (upI (F 23) sd 0) sd ((20 * p0) + pz)))) := hD
                                  refine lv_aload_n hx hb dX6_step_281 rfl (lv_at hl 4 rfl) ?_
                                  refine va_get (D := (dC, dI)) (ci := 6) (v := .ref (ma 24)) (C := RX6) (T := TX6) (N := 44) hx hb hts kt_X6 hown hK hP 0 rfl rfl 24 (by decide) (kx_word hG kq_05_morder_4 rfl) (fun _ h9 => h9) rfl dX6_step_282 ?_
                                  refine lv_iload_n hx hb dX6_step_285 rfl (lv_at hl 5 rfl) ?_
                                  refine lv_iload hx hb dX6_step_286 (lv_at hl 0 rfl) ?_
                                  refine lv_iload_n hx hb dX6_step_288 rfl (lv_at hl 3 rfl) ?_
                                  refine ki_isub hx hb dX6_step_289 ?_
                                  refine ki_iast (F := upI (F 24) sd 0) hx hb hK hP hD hS 19 18 rfl rfl (by omega) (by omega) (by decide) dX6_step_290 (fun H locs hP hD hS => ?_)
                                  have hP : va_P (dC, dI) kxCl (mW mo ma cs I (va_up (va_up (va_up (va_up (va_up (va_up (va_up (va_up F 20 (upI (F 20) sd pa)) 22 (upI (F 22) sd (-1))) 23 (upI (F 23) sd 0)) 24 (upI (F 24) sd 0)) 21 (upI (F 21) sd (vp_nar .boolean (iz 1)).toInt)) 22 (upI (upI (F 22) sd (-1)) sd 1)) 23 (upI (upI (F 23) sd 0) sd ((20 * p0) + pz))) 24 (upI (upI (F 24) sd 0) sd (en - pz)))) H := hP
                                  have hD : va_D A (mW mo ma cs I (va_up (va_up (va_up (va_up (va_up (va_up (va_up (va_up F 20 (upI (F 20) sd pa)) 22 (upI (F 22) sd (-1))) 23 (upI (F 23) sd 0)) 24 (upI (F 24) sd 0)) 21 (upI (F 21) sd (vp_nar .boolean (iz 1)).toInt)) 22 (upI (upI (F 22) sd (-1)) sd 1)) 23 (upI (upI (F 23) sd 0) sd ((20 * p0) + pz))) 24 (upI (upI (F 24) sd 0) sd (en - pz)))) := hD
                                  refine lv_aload_n hx hb dX6_step_291 rfl (lv_at hl 4 rfl) ?_
                                  refine va_get (D := (dC, dI)) (ci := 6) (v := .ref (ma 20)) (C := RX6) (T := TX6) (N := 44) hx hb hts kt_X6 hown hK hP 0 rfl rfl 20 (by decide) (kx_word hG kq_05_morder_0 rfl) (fun _ h9 => h9) rfl dX6_step_292 ?_
                                  refine lv_iload_n hx hb dX6_step_295 rfl (lv_at hl 5 rfl) ?_
                                  refine lv_iload hx hb dX6_step_296 (lv_at hl 0 rfl) ?_
                                  refine ki_iast (F := upI (F 20) sd pa) hx hb hK hP hD hS 15 14 rfl rfl (by omega) (by omega) (by decide) dX6_step_298 (fun H locs hP hD hS => ?_)
                                  have hP : va_P (dC, dI) kxCl (mW mo ma cs I (va_up (va_up (va_up (va_up (va_up (va_up (va_up (va_up (va_up F 20 (upI (F 20) sd pa)) 22 (upI (F 22) sd (-1))) 23 (upI (F 23) sd 0)) 24 (upI (F 24) sd 0)) 21 (upI (F 21) sd (vp_nar .boolean (iz 1)).toInt)) 22 (upI (upI (F 22) sd (-1)) sd 1)) 23 (upI (upI (F 23) sd 0) sd ((20 * p0) + pz))) 24 (upI (upI (F 24) sd 0) sd (en - pz))) 20 (upI (upI (F 20) sd pa) sd en))) H := hP
                                  have hD : va_D A (mW mo ma cs I (va_up (va_up (va_up (va_up (va_up (va_up (va_up (va_up (va_up F 20 (upI (F 20) sd pa)) 22 (upI (F 22) sd (-1))) 23 (upI (F 23) sd 0)) 24 (upI (F 24) sd 0)) 21 (upI (F 21) sd (vp_nar .boolean (iz 1)).toInt)) 22 (upI (upI (F 22) sd (-1)) sd 1)) 23 (upI (upI (F 23) sd 0) sd ((20 * p0) + pz))) 24 (upI (upI (F 24) sd 0) sd (en - pz))) 20 (upI (upI (F 20) sd pa) sd en))) := hD
                                  have e_110 : (va_up (va_up (va_up (va_up (va_up (va_up (va_up (va_up (va_up F 20 (upI (F 20) sd pa)) 22 (upI (F 22) sd (-1))) 23 (upI (F 23) sd 0)) 24 (upI (F 24) sd 0)) 21 (upI (F 21) sd (vp_nar .boolean (iz 1)).toInt)) 22 (upI (upI (F 22) sd (-1)) sd 1)) 23 (upI (upI (F 23) sd 0) sd ((20 * p0) + pz))) 24 (upI (upI (F 24) sd 0) sd (en - pz))) 20 (upI (upI (F 20) sd pa) sd en)) 20 sd = en := upI_self _ _ _
                                  have e_111 : (va_up (va_up (va_up (va_up (va_up (va_up (va_up (va_up (va_up F 20 (upI (F 20) sd pa)) 22 (upI (F 22) sd (-1))) 23 (upI (F 23) sd 0)) 24 (upI (F 24) sd 0)) 21 (upI (F 21) sd (vp_nar .boolean (iz 1)).toInt)) 22 (upI (upI (F 22) sd (-1)) sd 1)) 23 (upI (upI (F 23) sd 0) sd ((20 * p0) + pz))) 24 (upI (upI (F 24) sd 0) sd (en - pz))) 20 (upI (upI (F 20) sd pa) sd en)) 22 sd = 1 := upI_self _ _ _
                                  have e_112 : (va_up (va_up (va_up (va_up (va_up (va_up (va_up (va_up (va_up F 20 (upI (F 20) sd pa)) 22 (upI (F 22) sd (-1))) 23 (upI (F 23) sd 0)) 24 (upI (F 24) sd 0)) 21 (upI (F 21) sd (vp_nar .boolean (iz 1)).toInt)) 22 (upI (upI (F 22) sd (-1)) sd 1)) 23 (upI (upI (F 23) sd 0) sd ((20 * p0) + pz))) 24 (upI (upI (F 24) sd 0) sd (en - pz))) 20 (upI (upI (F 20) sd pa) sd en)) 23 sd = (20 * p0) + pz := upI_self _ _ _
                                  have e_113 : (va_up (va_up (va_up (va_up (va_up (va_up (va_up (va_up (va_up F 20 (upI (F 20) sd pa)) 22 (upI (F 22) sd (-1))) 23 (upI (F 23) sd 0)) 24 (upI (F 24) sd 0)) 21 (upI (F 21) sd (vp_nar .boolean (iz 1)).toInt)) 22 (upI (upI (F 22) sd (-1)) sd 1)) 23 (upI (upI (F 23) sd 0) sd ((20 * p0) + pz))) 24 (upI (upI (F 24) sd 0) sd (en - pz))) 20 (upI (upI (F 20) sd pa) sd en)) 24 sd = en - pz := upI_self _ _ _
                                  have e_114 : (va_up (va_up (va_up (va_up (va_up (va_up (va_up (va_up (va_up F 20 (upI (F 20) sd pa)) 22 (upI (F 22) sd (-1))) 23 (upI (F 23) sd 0)) 24 (upI (F 24) sd 0)) 21 (upI (F 21) sd (vp_nar .boolean (iz 1)).toInt)) 22 (upI (upI (F 22) sd (-1)) sd 1)) 23 (upI (upI (F 23) sd 0) sd ((20 * p0) + pz))) 24 (upI (upI (F 24) sd 0) sd (en - pz))) 20 (upI (upI (F 20) sd pa) sd en)) 21 sd = (vp_nar .boolean (iz 1)).toInt := upI_self _ _ _
                                  rw [← hQe]
                                  exact mk_ret hx hb hr hlocks hP hD hK hS dX6_step_299 (⟨rfl, (mB_f (mB_f (mB_f (mB_f (mB_f (mB_f (mB_f (mB_f (mB_f hB 20 sd (by omega) (by omega)) 22 sd (by omega) (by omega)) 23 sd (by omega) (by omega)) 24 sd (by omega) (by omega)) 21 sd (iz_lo _) (iz_hi _)) 22 sd (by omega) (by omega)) 23 sd (by omega) (by omega)) 24 sd (by omega) (by omega)) 20 sd (by omega) (by omega)), (mfr.upF (mfr.upF (mfr.upF (mfr.upF (mfr.upF (mfr.upF (mfr.upF (mfr.upF (mfr.upF mfr.rf (by decide) _) (by decide) _) (by decide) _) (by decide) _) (by decide) _) (by decide) _) (by decide) _) (by decide) _) (by decide) _), (mo1.up (mo1.up (mo1.up (mo1.up (mo1.up (mo1.up (mo1.up (mo1.up (mo1.up mo1.rf 20 _) 22 _) 23 _) 24 _) 21 _) 22 _) 23 _) 24 _) 20 _), by omega, by omega, by omega⟩)
                                · skip
                                  refine lv_iinc (v := iz (pz + 1)) (lv' := [(3, .int (iz (pz + 1))), (6, .int (iz en)), (5, .int (iz (F 4 ((20 * p0) + pa)))), (4, .int (iz ps)), (0, .ref mo), (1, .int (iz sd)), (2, .int (iz p0))]) hx hb dX6_step_256 hl (k := 3) rfl (iz_add pz 1) (by decide) rfl (fun ls hl => ?_)
                                  refine lv_goto (tgt := 234) hx hb dX6_step_259 (by decide) ?_
                                  exact ih234 (pz + 1) (by omega) (by omega) _ _ hP hD hS ls (lv_sub hl [1, 2, 3, 0, 4, 5, 6] rfl)
                          exact lp234 _ pa (by omega) (Nat.lt_succ_self _) _ _ hP hD hS ls (lv_sub hl [0, 1, 2, 3, 4, 5, 6] rfl)
                        · skip
                          refine lv_iinc (v := iz (en + 1)) (lv' := [(6, .int (iz (en + 1))), (5, .int (iz (F 4 ((20 * p0) + pa)))), (4, .int (iz ps)), (3, .int (iz pa)), (0, .ref mo), (1, .int (iz sd)), (2, .int (iz p0))]) hx hb dX6_step_228 hl (k := 0) rfl (iz_add en 1) (by decide) rfl (fun ls hl => ?_)
                          refine lv_goto (tgt := 192) hx hb dX6_step_231 (by decide) ?_
                          exact ih192 (en + 1) (by omega) (by omega) _ _ hP hD hS ls (lv_sub hl [0, 1, 2, 3, 4, 5, 6] rfl)
                exact lp192 _ (pa + 1) (by omega) (Nat.lt_succ_self _) _ _ hP hD hS ls (lv_sub hl [0, 1, 2, 3, 4, 5, 6] rfl)
              · skip
                refine lv_aload_n hx hb dX6_step_159 rfl (lv_at hl 3 rfl) ?_
                refine va_get (D := (dC, dI)) (ci := 6) (v := .ref (ma 22)) (C := RX6) (T := TX6) (N := 44) hx hb hts kt_X6 hown hK hP 0 rfl rfl 22 (by decide) (kx_word hG kq_05_morder_2 rfl) (fun _ h9 => h9) rfl dX6_step_160 ?_
                refine lv_iload_n hx hb dX6_step_163 rfl (lv_at hl 4 rfl) ?_
                refine lv_iconst (v := iz 2) hx hb dX6_step_164 (by decide) ?_
                refine ki_iast (F := upI (F 22) sd (-1)) hx hb hK hP hD hS 17 16 rfl rfl (by omega) (by omega) (by decide) dX6_step_165 (fun H locs hP hD hS => ?_)
                have hP : va_P (dC, dI) kxCl (mW mo ma cs I (va_up (va_up (va_up (va_up (va_up (va_up F 20 (upI (F 20) sd pa)) 22 (upI (F 22) sd (-1))) 23 (upI (F 23) sd 0)) 24 (upI (F 24) sd 0)) 21 (upI (F 21) sd (vp_nar .boolean (iz 1)).toInt)) 22 (upI (upI (F 22) sd (-1)) sd 2))) H := hP
                have hD : va_D A (mW mo ma cs I (va_up (va_up (va_up (va_up (va_up (va_up F 20 (upI (F 20) sd pa)) 22 (upI (F 22) sd (-1))) 23 (upI (F 23) sd 0)) 24 (upI (F 24) sd 0)) 21 (upI (F 21) sd (vp_nar .boolean (iz 1)).toInt)) 22 (upI (upI (F 22) sd (-1)) sd 2))) := hD
                refine lv_aload_n hx hb dX6_step_166 rfl (lv_at hl 3 rfl) ?_
                refine va_get (D := (dC, dI)) (ci := 6) (v := .ref (ma 23)) (C := RX6) (T := TX6) (N := 44) hx hb hts kt_X6 hown hK hP 0 rfl rfl 23 (by decide) (kx_word hG kq_05_morder_3 rfl) (fun _ h9 => h9) rfl dX6_step_167 ?_
                refine lv_iload_n hx hb dX6_step_170 rfl (lv_at hl 4 rfl) ?_
                refine lv_iload hx hb dX6_step_171 (lv_at hl 0 rfl) ?_
                refine mk_calls (As := [.int (iz (F 4 ((20 * p0) + pa)))]) (rest := [.int (iz sd), .ref (ma 23)]) ⟨hx, hb, hml, hown, hts⟩ (k_letterOf l dC dI (F 4 ((20 * p0) + pa)) H.size (by omega) (by omega)) (va_cwS 1 hts (kx_gS kq_05_morder_5 kq_05_morder_6 kq_04_msmall_6 kq_05_morder_7 rfl) rfl rfl rfl (by decide +kernel) ⟨Nat.le_of_ble_eq_true rfl, Nat.le_of_ble_eq_true rfl⟩) hP hD hK hG hZ hS hA rfl hl.1 rfl (Nat.le_of_ble_eq_true rfl) dX6_step_173 ⟨Nat.le_of_ble_eq_true rfl, Nat.le_of_ble_eq_true rfl⟩ (fun z_115 H locs hq_116 hP hS => ?_)
                try dsimp only at hq_116
                refine ki_iast (F := upI (F 23) sd 0) hx hb hK hP hD hS 18 17 rfl rfl (by omega) (by omega) (by decide) dX6_step_176 (fun H locs hP hD hS => ?_)
                have hP : va_P (dC, dI) kxCl (mW mo ma cs I (va_up (va_up (va_up (va_up (va_up (va_up (va_up F 20 (upI (F 20) sd pa)) 22 (upI (F 22) sd (-1))) 23 (upI (F 23) sd 0)) 24 (upI (F 24) sd 0)) 21 (upI (F 21) sd (vp_nar .boolean (iz 1)).toInt)) 22 (upI (upI (F 22) sd (-1)) sd 2)) 23 (upI (upI (F 23) sd 0) sd z_115))) H := hP
                have hD : va_D A (mW mo ma cs I (va_up (va_up (va_up (va_up (va_up (va_up (va_up F 20 (upI (F 20) sd pa)) 22 (upI (F 22) sd (-1))) 23 (upI (F 23) sd 0)) 24 (upI (F 24) sd 0)) 21 (upI (F 21) sd (vp_nar .boolean (iz 1)).toInt)) 22 (upI (upI (F 22) sd (-1)) sd 2)) 23 (upI (upI (F 23) sd 0) sd z_115))) := hD
                refine lv_aload_n hx hb dX6_step_177 rfl (lv_at hl 3 rfl) ?_
                refine va_get (D := (dC, dI)) (ci := 6) (v := .ref (ma 20)) (C := RX6) (T := TX6) (N := 44) hx hb hts kt_X6 hown hK hP 0 rfl rfl 20 (by decide) (kx_word hG kq_05_morder_0 rfl) (fun _ h9 => h9) rfl dX6_step_178 ?_
                refine lv_iload_n hx hb dX6_step_181 rfl (lv_at hl 4 rfl) ?_
                refine lv_iload_n hx hb dX6_step_182 rfl (lv_at hl 2 rfl) ?_
                refine lv_iconst (v := iz 1) hx hb dX6_step_183 (by decide) ?_
                refine ki_iadd hx hb dX6_step_184 ?_
                refine ki_iast (F := upI (F 20) sd pa) hx hb hK hP hD hS 15 14 rfl rfl (by omega) (by omega) (by decide) dX6_step_185 (fun H locs hP hD hS => ?_)
                have hP : va_P (dC, dI) kxCl (mW mo ma cs I (va_up (va_up (va_up (va_up (va_up (va_up (va_up (va_up F 20 (upI (F 20) sd pa)) 22 (upI (F 22) sd (-1))) 23 (upI (F 23) sd 0)) 24 (upI (F 24) sd 0)) 21 (upI (F 21) sd (vp_nar .boolean (iz 1)).toInt)) 22 (upI (upI (F 22) sd (-1)) sd 2)) 23 (upI (upI (F 23) sd 0) sd z_115)) 20 (upI (upI (F 20) sd pa) sd (pa + 1)))) H := hP
                have hD : va_D A (mW mo ma cs I (va_up (va_up (va_up (va_up (va_up (va_up (va_up (va_up F 20 (upI (F 20) sd pa)) 22 (upI (F 22) sd (-1))) 23 (upI (F 23) sd 0)) 24 (upI (F 24) sd 0)) 21 (upI (F 21) sd (vp_nar .boolean (iz 1)).toInt)) 22 (upI (upI (F 22) sd (-1)) sd 2)) 23 (upI (upI (F 23) sd 0) sd z_115)) 20 (upI (upI (F 20) sd pa) sd (pa + 1)))) := hD
                have e_117 : (va_up (va_up (va_up (va_up (va_up (va_up (va_up (va_up F 20 (upI (F 20) sd pa)) 22 (upI (F 22) sd (-1))) 23 (upI (F 23) sd 0)) 24 (upI (F 24) sd 0)) 21 (upI (F 21) sd (vp_nar .boolean (iz 1)).toInt)) 22 (upI (upI (F 22) sd (-1)) sd 2)) 23 (upI (upI (F 23) sd 0) sd z_115)) 20 (upI (upI (F 20) sd pa) sd (pa + 1))) 20 sd = pa + 1 := upI_self _ _ _
                have e_118 : (va_up (va_up (va_up (va_up (va_up (va_up (va_up (va_up F 20 (upI (F 20) sd pa)) 22 (upI (F 22) sd (-1))) 23 (upI (F 23) sd 0)) 24 (upI (F 24) sd 0)) 21 (upI (F 21) sd (vp_nar .boolean (iz 1)).toInt)) 22 (upI (upI (F 22) sd (-1)) sd 2)) 23 (upI (upI (F 23) sd 0) sd z_115)) 20 (upI (upI (F 20) sd pa) sd (pa + 1))) 22 sd = 2 := upI_self _ _ _
                have e_119 : (va_up (va_up (va_up (va_up (va_up (va_up (va_up (va_up F 20 (upI (F 20) sd pa)) 22 (upI (F 22) sd (-1))) 23 (upI (F 23) sd 0)) 24 (upI (F 24) sd 0)) 21 (upI (F 21) sd (vp_nar .boolean (iz 1)).toInt)) 22 (upI (upI (F 22) sd (-1)) sd 2)) 23 (upI (upI (F 23) sd 0) sd z_115)) 20 (upI (upI (F 20) sd pa) sd (pa + 1))) 23 sd = z_115 := upI_self _ _ _
                have e_120 : (va_up (va_up (va_up (va_up (va_up (va_up (va_up (va_up F 20 (upI (F 20) sd pa)) 22 (upI (F 22) sd (-1))) 23 (upI (F 23) sd 0)) 24 (upI (F 24) sd 0)) 21 (upI (F 21) sd (vp_nar .boolean (iz 1)).toInt)) 22 (upI (upI (F 22) sd (-1)) sd 2)) 23 (upI (upI (F 23) sd 0) sd z_115)) 20 (upI (upI (F 20) sd pa) sd (pa + 1))) 24 sd = 0 := upI_self _ _ _
                have e_121 : (va_up (va_up (va_up (va_up (va_up (va_up (va_up (va_up F 20 (upI (F 20) sd pa)) 22 (upI (F 22) sd (-1))) 23 (upI (F 23) sd 0)) 24 (upI (F 24) sd 0)) 21 (upI (F 21) sd (vp_nar .boolean (iz 1)).toInt)) 22 (upI (upI (F 22) sd (-1)) sd 2)) 23 (upI (upI (F 23) sd 0) sd z_115)) 20 (upI (upI (F 20) sd pa) sd (pa + 1))) 21 sd = (vp_nar .boolean (iz 1)).toInt := upI_self _ _ _
                rw [← hQe]
                exact mk_ret hx hb hr hlocks hP hD hK hS dX6_step_186 (⟨rfl, (mB_f (mB_f (mB_f (mB_f (mB_f (mB_f (mB_f (mB_f hB 20 sd (by omega) (by omega)) 22 sd (by omega) (by omega)) 23 sd (by omega) (by omega)) 24 sd (by omega) (by omega)) 21 sd (iz_lo _) (iz_hi _)) 22 sd (by omega) (by omega)) 23 sd (by omega) (by omega)) 20 sd (by omega) (by omega)), (mfr.upF (mfr.upF (mfr.upF (mfr.upF (mfr.upF (mfr.upF (mfr.upF (mfr.upF mfr.rf (by decide) _) (by decide) _) (by decide) _) (by decide) _) (by decide) _) (by decide) _) (by decide) _) (by decide) _), (mo1.up (mo1.up (mo1.up (mo1.up (mo1.up (mo1.up (mo1.up (mo1.up mo1.rf 20 _) 22 _) 23 _) 24 _) 21 _) 22 _) 23 _) 20 _), by omega, by omega, by omega⟩)
            · skip
              refine lv_aload_n hx hb dX6_step_114 rfl (lv_at hl 2 rfl) ?_
              refine va_get (D := (dC, dI)) (ci := 6) (v := .ref (ma 21)) (C := RX6) (T := TX6) (N := 44) hx hb hts kt_X6 hown hK hP 0 rfl rfl 21 (by decide) (kx_word hG kq_05_morder_1 rfl) (fun _ h9 => h9) rfl dX6_step_115 ?_
              refine lv_iload_n hx hb dX6_step_118 rfl (lv_at hl 3 rfl) ?_
              refine ki_zald (F := F 21) hx hb hK hP 16 15 rfl rfl (by omega) (by omega) (by decide) dX6_step_119 ?_
              have hbd_122 := hB.2 21 sd
              refine ki_if_eq (tgt := 131) hx hb dX6_step_120 (by decide) (by omega) (by omega) (fun c_123 => ?_) (fun c_123 => ?_)
              · skip
                refine lv_aload_n hx hb dX6_step_131 rfl (lv_at hl 2 rfl) ?_
                refine va_get (D := (dC, dI)) (ci := 6) (v := .ref (ma 21)) (C := RX6) (T := TX6) (N := 44) hx hb hts kt_X6 hown hK hP 0 rfl rfl 21 (by decide) (kx_word hG kq_05_morder_1 rfl) (fun _ h9 => h9) rfl dX6_step_132 ?_
                refine lv_iload_n hx hb dX6_step_135 rfl (lv_at hl 3 rfl) ?_
                refine lv_iconst (v := iz 1) hx hb dX6_step_136 (by decide) ?_
                refine ki_zast (F := F 21) hx hb hK hP hD hS 16 15 rfl rfl (by omega) (by omega) (by decide) dX6_step_137 (fun H locs hP hD hS => ?_)
                have hP : va_P (dC, dI) kxCl (mW mo ma cs I (va_up (va_up (va_up (va_up (va_up F 20 (upI (F 20) sd pa)) 22 (upI (F 22) sd (-1))) 23 (upI (F 23) sd 0)) 24 (upI (F 24) sd 0)) 21 (upI (F 21) sd (vp_nar .boolean (iz 1)).toInt))) H := hP
                have hD : va_D A (mW mo ma cs I (va_up (va_up (va_up (va_up (va_up F 20 (upI (F 20) sd pa)) 22 (upI (F 22) sd (-1))) 23 (upI (F 23) sd 0)) 24 (upI (F 24) sd 0)) 21 (upI (F 21) sd (vp_nar .boolean (iz 1)).toInt))) := hD
                refine lv_aload_n hx hb dX6_step_138 rfl (lv_at hl 2 rfl) ?_
                refine va_get (D := (dC, dI)) (ci := 6) (v := .ref (ma 4)) (C := RX6) (T := TX6) (N := 44) hx hb hts kt_X6 hown hK hP 0 rfl rfl 4 (by decide) (kx_word hG kq_04_msmall_16 rfl) (fun _ h9 => h9) rfl dX6_step_139 ?_
                refine lv_bipush (v := iz 20) hx hb dX6_step_142 (by decide) ?_
                refine lv_iload_n hx hb dX6_step_144 rfl (lv_at hl 4 rfl) ?_
                refine ki_imul hx hb dX6_step_145 ?_
                refine lv_iload_n hx hb dX6_step_146 rfl (lv_at hl 1 rfl) ?_
                refine ki_iadd hx hb dX6_step_147 ?_
                refine ki_iald (F := F 4) hx hb hK hP 3 2 rfl rfl (by omega) (by omega) (by decide) dX6_step_148 ?_
                have hbd_124 := hB.2 4 ((20 * p0) + pa)
                refine lv_istore (lv' := [(5, .int (iz (F 4 ((20 * p0) + pa)))), (4, .int (iz ps)), (3, .int (iz pa)), (0, .ref mo), (1, .int (iz sd)), (2, .int (iz p0))]) hx hb dX6_step_149 hl (by decide) rfl (fun ls hl => ?_)
                refine lv_iload hx hb dX6_step_151 (lv_at hl 0 rfl) ?_
                refine mk_calls (As := [.int (iz (F 4 ((20 * p0) + pa)))]) (rest := []) ⟨hx, hb, hml, hown, hts⟩ (k_letterOf l dC dI (F 4 ((20 * p0) + pa)) H.size (by omega) (by omega)) (va_cwS 1 hts (kx_gS kq_05_morder_5 kq_05_morder_6 kq_04_msmall_6 kq_05_morder_7 rfl) rfl rfl rfl (by decide +kernel) ⟨Nat.le_of_ble_eq_true rfl, Nat.le_of_ble_eq_true rfl⟩) hP hD hK hG hZ hS hA rfl hl.1 rfl (Nat.le_of_ble_eq_true rfl) dX6_step_153 ⟨Nat.le_of_ble_eq_true rfl, Nat.le_of_ble_eq_true rfl⟩ (fun z_125 H locs hq_126 hP hS => ?_)
                try dsimp only at hq_126
                refine ki_if_le (tgt := 187) hx hb dX6_step_156 (by decide) (by omega) (by omega) (fun c_127 => ?_) (fun c_127 => ?_)
                · skip
                  refine lv_iload_n hx hb dX6_step_187 rfl (lv_at hl 2 rfl) ?_
                  refine lv_iconst (v := iz 1) hx hb dX6_step_188 (by decide) ?_
                  refine ki_iadd hx hb dX6_step_189 ?_
                  refine lv_istore (lv' := [(6, .int (iz (pa + 1))), (5, .int (iz (F 4 ((20 * p0) + pa)))), (4, .int (iz ps)), (3, .int (iz pa)), (0, .ref mo), (1, .int (iz sd)), (2, .int (iz p0))]) hx hb dX6_step_190 hl (by decide) rfl (fun ls hl => ?_)
                  have lp192 : ∀ (n : Nat) (en : Int), ((pa + 1 ≤ en ∧ en ≤ F 5 p0)) → (F 5 p0 - en).toNat < n → ∀ (H : Heap) (locs : List Loc), va_P (dC, dI) kxCl (mW mo ma cs I (va_up (va_up (va_up (va_up (va_up F 20 (upI (F 20) sd pa)) 22 (upI (F 22) sd (-1))) 23 (upI (F 23) sd 0)) 24 (upI (F 24) sd 0)) 21 (upI (F 21) sd (vp_nar .boolean (iz 1)).toInt))) H → va_D A (mW mo ma cs I (va_up (va_up (va_up (va_up (va_up F 20 (upI (F 20) sd pa)) 22 (upI (F 22) sd (-1))) 23 (upI (F 23) sd 0)) 24 (upI (F 24) sd 0)) 21 (upI (F 21) sd (vp_nar .boolean (iz 1)).toInt))) → va_S A s.heap H locs → ∀ ls : Array Slot, lv_has ls 7 [(6, .int (iz en)), (5, .int (iz (F 4 ((20 * p0) + pa)))), (4, .int (iz ps)), (3, .int (iz pa)), (0, .ref mo), (1, .int (iz sd)), (2, .int (iz p0))] → W p l e (headSpec [.code yX6_step cX6_step 7 none] ({ frames := 1, cells := 0, slots := 0, locals := 21 })).room s m ([.ref mo, .int (iz sd), .int (iz p0)] : List Value).toArray below meth c H locs 0 0 QQ (F0 m 192 ls []) := by
                    intro n
                    induction n with
                    | zero => intro en hinv hm; exact absurd hm (Nat.not_lt_zero _)
                    | succ n ih192 =>
                      intro en hinv hm H locs hP hD hS ls hl
                      have hen := hinv
                      refine lv_aload_n hx hb dX6_step_192 rfl (lv_at hl 4 rfl) ?_
                      refine va_get (D := (dC, dI)) (ci := 6) (v := .int (iz (I 14))) (C := RX6) (T := TX6) (N := 44) hx hb hts kt_X6 hown hK hP 0 rfl rfl 14 (by decide) (kx_word hG kq_04_msmall_17 rfl) (fun _ h9 => h9) rfl dX6_step_193 ?_
                      have hbd_128 := hB.1 14
                      refine ki_if_eq (tgt := 234) hx hb dX6_step_196 (by decide) (by omega) (by omega) (fun c_129 => ?_) (fun c_129 => ?_)
                      · skip
                        have lp234 : ∀ (n : Nat) (pz : Int), ((pa ≤ pz ∧ pz ≤ en)) → (en - pz).toNat < n → ∀ (H : Heap) (locs : List Loc), va_P (dC, dI) kxCl (mW mo ma cs I (va_up (va_up (va_up (va_up (va_up F 20 (upI (F 20) sd pa)) 22 (upI (F 22) sd (-1))) 23 (upI (F 23) sd 0)) 24 (upI (F 24) sd 0)) 21 (upI (F 21) sd (vp_nar .boolean (iz 1)).toInt))) H → va_D A (mW mo ma cs I (va_up (va_up (va_up (va_up (va_up F 20 (upI (F 20) sd pa)) 22 (upI (F 22) sd (-1))) 23 (upI (F 23) sd 0)) 24 (upI (F 24) sd 0)) 21 (upI (F 21) sd (vp_nar .boolean (iz 1)).toInt))) → va_S A s.heap H locs → ∀ ls : Array Slot, lv_has ls 7 [(6, .int (iz en)), (5, .int (iz (F 4 ((20 * p0) + pa)))), (4, .int (iz ps)), (3, .int (iz pz)), (0, .ref mo), (1, .int (iz sd)), (2, .int (iz p0))] → W p l e (headSpec [.code yX6_step cX6_step 7 none] ({ frames := 1, cells := 0, slots := 0, locals := 21 })).room s m ([.ref mo, .int (iz sd), .int (iz p0)] : List Value).toArray below meth c H locs 0 0 QQ (F0 m 234 ls []) := by
                          intro n
                          induction n with
                          | zero => intro pz hinv hm; exact absurd hm (Nat.not_lt_zero _)
                          | succ n ih234 =>
                            intro pz hinv hm H locs hP hD hS ls hl
                            have hpz := hinv
                            refine lv_iload_n hx hb dX6_step_234 rfl (lv_at hl 3 rfl) ?_
                            refine lv_iload hx hb dX6_step_235 (lv_at hl 0 rfl) ?_
                            refine ki_icmp_ge (tgt := 262) hx hb dX6_step_237 (by decide) (by omega) (by omega) (by omega) (by omega) (fun c_130 => ?_) (fun c_130 => ?_)
                            · skip
                              refine lv_aload_n hx hb dX6_step_262 rfl (lv_at hl 4 rfl) ?_
                              refine va_get (D := (dC, dI)) (ci := 6) (v := .ref (ma 22)) (C := RX6) (T := TX6) (N := 44) hx hb hts kt_X6 hown hK hP 0 rfl rfl 22 (by decide) (kx_word hG kq_05_morder_2 rfl) (fun _ h9 => h9) rfl dX6_step_263 ?_
                              refine lv_iload_n hx hb dX6_step_266 rfl (lv_at hl 5 rfl) ?_
                              refine lv_iconst (v := iz 1) hx hb dX6_step_267 (by decide) ?_
                              refine ki_iast (F := upI (F 22) sd (-1)) hx hb hK hP hD hS 17 16 rfl rfl (by omega) (by omega) (by decide) dX6_step_268 (fun H locs hP hD hS => ?_)
                              have hP : va_P (dC, dI) kxCl (mW mo ma cs I (va_up (va_up (va_up (va_up (va_up (va_up F 20 (upI (F 20) sd pa)) 22 (upI (F 22) sd (-1))) 23 (upI (F 23) sd 0)) 24 (upI (F 24) sd 0)) 21 (upI (F 21) sd (vp_nar .boolean (iz 1)).toInt)) 22 (upI (upI (F 22) sd (-1)) sd 1))) H := hP
                              have hD : va_D A (mW mo ma cs I (va_up (va_up (va_up (va_up (va_up (va_up F 20 (upI (F 20) sd pa)) 22 (upI (F 22) sd (-1))) 23 (upI (F 23) sd 0)) 24 (upI (F 24) sd 0)) 21 (upI (F 21) sd (vp_nar .boolean (iz 1)).toInt)) 22 (upI (upI (F 22) sd (-1)) sd 1))) := hD
                              refine lv_aload_n hx hb dX6_step_269 rfl (lv_at hl 4 rfl) ?_
                              refine va_get (D := (dC, dI)) (ci := 6) (v := .ref (ma 23)) (C := RX6) (T := TX6) (N := 44) hx hb hts kt_X6 hown hK hP 0 rfl rfl 23 (by decide) (kx_word hG kq_05_morder_3 rfl) (fun _ h9 => h9) rfl dX6_step_270 ?_
                              refine lv_iload_n hx hb dX6_step_273 rfl (lv_at hl 5 rfl) ?_
                              refine lv_bipush (v := iz 20) hx hb dX6_step_274 (by decide) ?_
                              refine lv_iload_n hx hb dX6_step_276 rfl (lv_at hl 6 rfl) ?_
                              refine ki_imul hx hb dX6_step_277 ?_
                              refine lv_iload_n hx hb dX6_step_278 rfl (lv_at hl 3 rfl) ?_
                              refine ki_iadd hx hb dX6_step_279 ?_
                              refine ki_iast (F := upI (F 23) sd 0) hx hb hK hP hD hS 18 17 rfl rfl (by omega) (by omega) (by decide) dX6_step_280 (fun H locs hP hD hS => ?_)
                              have hP : va_P (dC, dI) kxCl (mW mo ma cs I (va_up (va_up (va_up (va_up (va_up (va_up (va_up F 20 (upI (F 20) sd pa)) 22 (upI (F 22) sd (-1))) 23 (upI (F 23) sd 0)) 24 (upI (F 24) sd 0)) 21 (upI (F 21) sd (vp_nar .boolean (iz 1)).toInt)) 22 (upI (upI (F 22) sd (-1)) sd 1)) 23 (upI (upI (F 23) sd 0) sd ((20 * p0) + pz)))) H := hP
                              have hD : va_D A (mW mo ma cs I (va_up (va_up (va_up (va_up (va_up (va_up (va_up F 20 (upI (F 20) sd pa)) 22 (upI (F 22) sd (-1))) 23 (upI (F 23) sd 0)) 24 (upI (F 24) sd 0)) 21 (upI (F 21) sd (vp_nar .boolean (iz 1)).toInt)) 22 (upI (upI (F 22) sd (-1)) sd 1)) 23 (upI (upI (F 23) sd 0) sd ((20 * p0) + pz)))) := hD
                              refine lv_aload_n hx hb dX6_step_281 rfl (lv_at hl 4 rfl) ?_
                              refine va_get (D := (dC, dI)) (ci := 6) (v := .ref (ma 24)) (C := RX6) (T := TX6) (N := 44) hx hb hts kt_X6 hown hK hP 0 rfl rfl 24 (by decide) (kx_word hG kq_05_morder_4 rfl) (fun _ h9 => h9) rfl dX6_step_282 ?_
                              refine lv_iload_n hx hb dX6_step_285 rfl (lv_at hl 5 rfl) ?_
                              refine lv_iload hx hb dX6_step_286 (lv_at hl 0 rfl) ?_
                              refine lv_iload_n hx hb dX6_step_288 rfl (lv_at hl 3 rfl) ?_
                              refine ki_isub hx hb dX6_step_289 ?_
                              refine ki_iast (F := upI (F 24) sd 0) hx hb hK hP hD hS 19 18 rfl rfl (by omega) (by omega) (by decide) dX6_step_290 (fun H locs hP hD hS => ?_)
                              have hP : va_P (dC, dI) kxCl (mW mo ma cs I (va_up (va_up (va_up (va_up (va_up (va_up (va_up (va_up F 20 (upI (F 20) sd pa)) 22 (upI (F 22) sd (-1))) 23 (upI (F 23) sd 0)) 24 (upI (F 24) sd 0)) 21 (upI (F 21) sd (vp_nar .boolean (iz 1)).toInt)) 22 (upI (upI (F 22) sd (-1)) sd 1)) 23 (upI (upI (F 23) sd 0) sd ((20 * p0) + pz))) 24 (upI (upI (F 24) sd 0) sd (en - pz)))) H := hP
                              have hD : va_D A (mW mo ma cs I (va_up (va_up (va_up (va_up (va_up (va_up (va_up (va_up F 20 (upI (F 20) sd pa)) 22 (upI (F 22) sd (-1))) 23 (upI (F 23) sd 0)) 24 (upI (F 24) sd 0)) 21 (upI (F 21) sd (vp_nar .boolean (iz 1)).toInt)) 22 (upI (upI (F 22) sd (-1)) sd 1)) 23 (upI (upI (F 23) sd 0) sd ((20 * p0) + pz))) 24 (upI (upI (F 24) sd 0) sd (en - pz)))) := hD
                              refine lv_aload_n hx hb dX6_step_291 rfl (lv_at hl 4 rfl) ?_
                              refine va_get (D := (dC, dI)) (ci := 6) (v := .ref (ma 20)) (C := RX6) (T := TX6) (N := 44) hx hb hts kt_X6 hown hK hP 0 rfl rfl 20 (by decide) (kx_word hG kq_05_morder_0 rfl) (fun _ h9 => h9) rfl dX6_step_292 ?_
                              refine lv_iload_n hx hb dX6_step_295 rfl (lv_at hl 5 rfl) ?_
                              refine lv_iload hx hb dX6_step_296 (lv_at hl 0 rfl) ?_
                              refine ki_iast (F := upI (F 20) sd pa) hx hb hK hP hD hS 15 14 rfl rfl (by omega) (by omega) (by decide) dX6_step_298 (fun H locs hP hD hS => ?_)
                              have hP : va_P (dC, dI) kxCl (mW mo ma cs I (va_up (va_up (va_up (va_up (va_up (va_up (va_up (va_up (va_up F 20 (upI (F 20) sd pa)) 22 (upI (F 22) sd (-1))) 23 (upI (F 23) sd 0)) 24 (upI (F 24) sd 0)) 21 (upI (F 21) sd (vp_nar .boolean (iz 1)).toInt)) 22 (upI (upI (F 22) sd (-1)) sd 1)) 23 (upI (upI (F 23) sd 0) sd ((20 * p0) + pz))) 24 (upI (upI (F 24) sd 0) sd (en - pz))) 20 (upI (upI (F 20) sd pa) sd en))) H := hP
                              have hD : va_D A (mW mo ma cs I (va_up (va_up (va_up (va_up (va_up (va_up (va_up (va_up (va_up F 20 (upI (F 20) sd pa)) 22 (upI (F 22) sd (-1))) 23 (upI (F 23) sd 0)) 24 (upI (F 24) sd 0)) 21 (upI (F 21) sd (vp_nar .boolean (iz 1)).toInt)) 22 (upI (upI (F 22) sd (-1)) sd 1)) 23 (upI (upI (F 23) sd 0) sd ((20 * p0) + pz))) 24 (upI (upI (F 24) sd 0) sd (en - pz))) 20 (upI (upI (F 20) sd pa) sd en))) := hD
                              have e_131 : (va_up (va_up (va_up (va_up (va_up (va_up (va_up (va_up (va_up F 20 (upI (F 20) sd pa)) 22 (upI (F 22) sd (-1))) 23 (upI (F 23) sd 0)) 24 (upI (F 24) sd 0)) 21 (upI (F 21) sd (vp_nar .boolean (iz 1)).toInt)) 22 (upI (upI (F 22) sd (-1)) sd 1)) 23 (upI (upI (F 23) sd 0) sd ((20 * p0) + pz))) 24 (upI (upI (F 24) sd 0) sd (en - pz))) 20 (upI (upI (F 20) sd pa) sd en)) 20 sd = en := upI_self _ _ _
                              have e_132 : (va_up (va_up (va_up (va_up (va_up (va_up (va_up (va_up (va_up F 20 (upI (F 20) sd pa)) 22 (upI (F 22) sd (-1))) 23 (upI (F 23) sd 0)) 24 (upI (F 24) sd 0)) 21 (upI (F 21) sd (vp_nar .boolean (iz 1)).toInt)) 22 (upI (upI (F 22) sd (-1)) sd 1)) 23 (upI (upI (F 23) sd 0) sd ((20 * p0) + pz))) 24 (upI (upI (F 24) sd 0) sd (en - pz))) 20 (upI (upI (F 20) sd pa) sd en)) 22 sd = 1 := upI_self _ _ _
                              have e_133 : (va_up (va_up (va_up (va_up (va_up (va_up (va_up (va_up (va_up F 20 (upI (F 20) sd pa)) 22 (upI (F 22) sd (-1))) 23 (upI (F 23) sd 0)) 24 (upI (F 24) sd 0)) 21 (upI (F 21) sd (vp_nar .boolean (iz 1)).toInt)) 22 (upI (upI (F 22) sd (-1)) sd 1)) 23 (upI (upI (F 23) sd 0) sd ((20 * p0) + pz))) 24 (upI (upI (F 24) sd 0) sd (en - pz))) 20 (upI (upI (F 20) sd pa) sd en)) 23 sd = (20 * p0) + pz := upI_self _ _ _
                              have e_134 : (va_up (va_up (va_up (va_up (va_up (va_up (va_up (va_up (va_up F 20 (upI (F 20) sd pa)) 22 (upI (F 22) sd (-1))) 23 (upI (F 23) sd 0)) 24 (upI (F 24) sd 0)) 21 (upI (F 21) sd (vp_nar .boolean (iz 1)).toInt)) 22 (upI (upI (F 22) sd (-1)) sd 1)) 23 (upI (upI (F 23) sd 0) sd ((20 * p0) + pz))) 24 (upI (upI (F 24) sd 0) sd (en - pz))) 20 (upI (upI (F 20) sd pa) sd en)) 24 sd = en - pz := upI_self _ _ _
                              have e_135 : (va_up (va_up (va_up (va_up (va_up (va_up (va_up (va_up (va_up F 20 (upI (F 20) sd pa)) 22 (upI (F 22) sd (-1))) 23 (upI (F 23) sd 0)) 24 (upI (F 24) sd 0)) 21 (upI (F 21) sd (vp_nar .boolean (iz 1)).toInt)) 22 (upI (upI (F 22) sd (-1)) sd 1)) 23 (upI (upI (F 23) sd 0) sd ((20 * p0) + pz))) 24 (upI (upI (F 24) sd 0) sd (en - pz))) 20 (upI (upI (F 20) sd pa) sd en)) 21 sd = (vp_nar .boolean (iz 1)).toInt := upI_self _ _ _
                              rw [← hQe]
                              exact mk_ret hx hb hr hlocks hP hD hK hS dX6_step_299 (⟨rfl, (mB_f (mB_f (mB_f (mB_f (mB_f (mB_f (mB_f (mB_f (mB_f hB 20 sd (by omega) (by omega)) 22 sd (by omega) (by omega)) 23 sd (by omega) (by omega)) 24 sd (by omega) (by omega)) 21 sd (iz_lo _) (iz_hi _)) 22 sd (by omega) (by omega)) 23 sd (by omega) (by omega)) 24 sd (by omega) (by omega)) 20 sd (by omega) (by omega)), (mfr.upF (mfr.upF (mfr.upF (mfr.upF (mfr.upF (mfr.upF (mfr.upF (mfr.upF (mfr.upF mfr.rf (by decide) _) (by decide) _) (by decide) _) (by decide) _) (by decide) _) (by decide) _) (by decide) _) (by decide) _) (by decide) _), (mo1.up (mo1.up (mo1.up (mo1.up (mo1.up (mo1.up (mo1.up (mo1.up (mo1.up mo1.rf 20 _) 22 _) 23 _) 24 _) 21 _) 22 _) 23 _) 24 _) 20 _), by omega, by omega, by omega⟩)
                            · skip
                              refine lv_aload_n hx hb dX6_step_240 rfl (lv_at hl 4 rfl) ?_
                              refine va_get (D := (dC, dI)) (ci := 6) (v := .ref (ma 4)) (C := RX6) (T := TX6) (N := 44) hx hb hts kt_X6 hown hK hP 0 rfl rfl 4 (by decide) (kx_word hG kq_04_msmall_16 rfl) (fun _ h9 => h9) rfl dX6_step_241 ?_
                              refine lv_bipush (v := iz 20) hx hb dX6_step_244 (by decide) ?_
                              refine lv_iload_n hx hb dX6_step_246 rfl (lv_at hl 6 rfl) ?_
                              refine ki_imul hx hb dX6_step_247 ?_
                              refine lv_iload_n hx hb dX6_step_248 rfl (lv_at hl 3 rfl) ?_
                              refine ki_iadd hx hb dX6_step_249 ?_
                              refine ki_iald (F := F 4) hx hb hK hP 3 2 rfl rfl (by omega) (by omega) (by decide) dX6_step_250 ?_
                              have hbd_136 := hB.2 4 ((20 * p0) + pz)
                              refine lv_bipush (v := iz 48) hx hb dX6_step_251 (by decide) ?_
                              refine ki_icmp_ne (tgt := 262) hx hb dX6_step_253 (by decide) (by omega) (by omega) (by omega) (by omega) (fun c_137 => ?_) (fun c_137 => ?_)
                              · skip
                                refine lv_aload_n hx hb dX6_step_262 rfl (lv_at hl 4 rfl) ?_
                                refine va_get (D := (dC, dI)) (ci := 6) (v := .ref (ma 22)) (C := RX6) (T := TX6) (N := 44) hx hb hts kt_X6 hown hK hP 0 rfl rfl 22 (by decide) (kx_word hG kq_05_morder_2 rfl) (fun _ h9 => h9) rfl dX6_step_263 ?_
                                refine lv_iload_n hx hb dX6_step_266 rfl (lv_at hl 5 rfl) ?_
                                refine lv_iconst (v := iz 1) hx hb dX6_step_267 (by decide) ?_
                                refine ki_iast (F := upI (F 22) sd (-1)) hx hb hK hP hD hS 17 16 rfl rfl (by omega) (by omega) (by decide) dX6_step_268 (fun H locs hP hD hS => ?_)
                                have hP : va_P (dC, dI) kxCl (mW mo ma cs I (va_up (va_up (va_up (va_up (va_up (va_up F 20 (upI (F 20) sd pa)) 22 (upI (F 22) sd (-1))) 23 (upI (F 23) sd 0)) 24 (upI (F 24) sd 0)) 21 (upI (F 21) sd (vp_nar .boolean (iz 1)).toInt)) 22 (upI (upI (F 22) sd (-1)) sd 1))) H := hP
                                have hD : va_D A (mW mo ma cs I (va_up (va_up (va_up (va_up (va_up (va_up F 20 (upI (F 20) sd pa)) 22 (upI (F 22) sd (-1))) 23 (upI (F 23) sd 0)) 24 (upI (F 24) sd 0)) 21 (upI (F 21) sd (vp_nar .boolean (iz 1)).toInt)) 22 (upI (upI (F 22) sd (-1)) sd 1))) := hD
                                refine lv_aload_n hx hb dX6_step_269 rfl (lv_at hl 4 rfl) ?_
                                refine va_get (D := (dC, dI)) (ci := 6) (v := .ref (ma 23)) (C := RX6) (T := TX6) (N := 44) hx hb hts kt_X6 hown hK hP 0 rfl rfl 23 (by decide) (kx_word hG kq_05_morder_3 rfl) (fun _ h9 => h9) rfl dX6_step_270 ?_
                                refine lv_iload_n hx hb dX6_step_273 rfl (lv_at hl 5 rfl) ?_
                                refine lv_bipush (v := iz 20) hx hb dX6_step_274 (by decide) ?_
                                refine lv_iload_n hx hb dX6_step_276 rfl (lv_at hl 6 rfl) ?_
                                refine ki_imul hx hb dX6_step_277 ?_
                                refine lv_iload_n hx hb dX6_step_278 rfl (lv_at hl 3 rfl) ?_
                                refine ki_iadd hx hb dX6_step_279 ?_
                                refine ki_iast (F := upI (F 23) sd 0) hx hb hK hP hD hS 18 17 rfl rfl (by omega) (by omega) (by decide) dX6_step_280 (fun H locs hP hD hS => ?_)
                                have hP : va_P (dC, dI) kxCl (mW mo ma cs I (va_up (va_up (va_up (va_up (va_up (va_up (va_up F 20 (upI (F 20) sd pa)) 22 (upI (F 22) sd (-1))) 23 (upI (F 23) sd 0)) 24 (upI (F 24) sd 0)) 21 (upI (F 21) sd (vp_nar .boolean (iz 1)).toInt)) 22 (upI (upI (F 22) sd (-1)) sd 1)) 23 (upI (upI (F 23) sd 0) sd ((20 * p0) + pz)))) H := hP
                                have hD : va_D A (mW mo ma cs I (va_up (va_up (va_up (va_up (va_up (va_up (va_up F 20 (upI (F 20) sd pa)) 22 (upI (F 22) sd (-1))) 23 (upI (F 23) sd 0)) 24 (upI (F 24) sd 0)) 21 (upI (F 21) sd (vp_nar .boolean (iz 1)).toInt)) 22 (upI (upI (F 22) sd (-1)) sd 1)) 23 (upI (upI (F 23) sd 0) sd ((20 * p0) + pz)))) := hD
                                refine lv_aload_n hx hb dX6_step_281 rfl (lv_at hl 4 rfl) ?_
                                refine va_get (D := (dC, dI)) (ci := 6) (v := .ref (ma 24)) (C := RX6) (T := TX6) (N := 44) hx hb hts kt_X6 hown hK hP 0 rfl rfl 24 (by decide) (kx_word hG kq_05_morder_4 rfl) (fun _ h9 => h9) rfl dX6_step_282 ?_
                                refine lv_iload_n hx hb dX6_step_285 rfl (lv_at hl 5 rfl) ?_
                                refine lv_iload hx hb dX6_step_286 (lv_at hl 0 rfl) ?_
                                refine lv_iload_n hx hb dX6_step_288 rfl (lv_at hl 3 rfl) ?_
                                refine ki_isub hx hb dX6_step_289 ?_
                                refine ki_iast (F := upI (F 24) sd 0) hx hb hK hP hD hS 19 18 rfl rfl (by omega) (by omega) (by decide) dX6_step_290 (fun H locs hP hD hS => ?_)
                                have hP : va_P (dC, dI) kxCl (mW mo ma cs I (va_up (va_up (va_up (va_up (va_up (va_up (va_up (va_up F 20 (upI (F 20) sd pa)) 22 (upI (F 22) sd (-1))) 23 (upI (F 23) sd 0)) 24 (upI (F 24) sd 0)) 21 (upI (F 21) sd (vp_nar .boolean (iz 1)).toInt)) 22 (upI (upI (F 22) sd (-1)) sd 1)) 23 (upI (upI (F 23) sd 0) sd ((20 * p0) + pz))) 24 (upI (upI (F 24) sd 0) sd (en - pz)))) H := hP
                                have hD : va_D A (mW mo ma cs I (va_up (va_up (va_up (va_up (va_up (va_up (va_up (va_up F 20 (upI (F 20) sd pa)) 22 (upI (F 22) sd (-1))) 23 (upI (F 23) sd 0)) 24 (upI (F 24) sd 0)) 21 (upI (F 21) sd (vp_nar .boolean (iz 1)).toInt)) 22 (upI (upI (F 22) sd (-1)) sd 1)) 23 (upI (upI (F 23) sd 0) sd ((20 * p0) + pz))) 24 (upI (upI (F 24) sd 0) sd (en - pz)))) := hD
                                refine lv_aload_n hx hb dX6_step_291 rfl (lv_at hl 4 rfl) ?_
                                refine va_get (D := (dC, dI)) (ci := 6) (v := .ref (ma 20)) (C := RX6) (T := TX6) (N := 44) hx hb hts kt_X6 hown hK hP 0 rfl rfl 20 (by decide) (kx_word hG kq_05_morder_0 rfl) (fun _ h9 => h9) rfl dX6_step_292 ?_
                                refine lv_iload_n hx hb dX6_step_295 rfl (lv_at hl 5 rfl) ?_
                                refine lv_iload hx hb dX6_step_296 (lv_at hl 0 rfl) ?_
                                refine ki_iast (F := upI (F 20) sd pa) hx hb hK hP hD hS 15 14 rfl rfl (by omega) (by omega) (by decide) dX6_step_298 (fun H locs hP hD hS => ?_)
                                have hP : va_P (dC, dI) kxCl (mW mo ma cs I (va_up (va_up (va_up (va_up (va_up (va_up (va_up (va_up (va_up F 20 (upI (F 20) sd pa)) 22 (upI (F 22) sd (-1))) 23 (upI (F 23) sd 0)) 24 (upI (F 24) sd 0)) 21 (upI (F 21) sd (vp_nar .boolean (iz 1)).toInt)) 22 (upI (upI (F 22) sd (-1)) sd 1)) 23 (upI (upI (F 23) sd 0) sd ((20 * p0) + pz))) 24 (upI (upI (F 24) sd 0) sd (en - pz))) 20 (upI (upI (F 20) sd pa) sd en))) H := hP
                                have hD : va_D A (mW mo ma cs I (va_up (va_up (va_up (va_up (va_up (va_up (va_up (va_up (va_up F 20 (upI (F 20) sd pa)) 22 (upI (F 22) sd (-1))) 23 (upI (F 23) sd 0)) 24 (upI (F 24) sd 0)) 21 (upI (F 21) sd (vp_nar .boolean (iz 1)).toInt)) 22 (upI (upI (F 22) sd (-1)) sd 1)) 23 (upI (upI (F 23) sd 0) sd ((20 * p0) + pz))) 24 (upI (upI (F 24) sd 0) sd (en - pz))) 20 (upI (upI (F 20) sd pa) sd en))) := hD
                                have e_138 : (va_up (va_up (va_up (va_up (va_up (va_up (va_up (va_up (va_up F 20 (upI (F 20) sd pa)) 22 (upI (F 22) sd (-1))) 23 (upI (F 23) sd 0)) 24 (upI (F 24) sd 0)) 21 (upI (F 21) sd (vp_nar .boolean (iz 1)).toInt)) 22 (upI (upI (F 22) sd (-1)) sd 1)) 23 (upI (upI (F 23) sd 0) sd ((20 * p0) + pz))) 24 (upI (upI (F 24) sd 0) sd (en - pz))) 20 (upI (upI (F 20) sd pa) sd en)) 20 sd = en := upI_self _ _ _
                                have e_139 : (va_up (va_up (va_up (va_up (va_up (va_up (va_up (va_up (va_up F 20 (upI (F 20) sd pa)) 22 (upI (F 22) sd (-1))) 23 (upI (F 23) sd 0)) 24 (upI (F 24) sd 0)) 21 (upI (F 21) sd (vp_nar .boolean (iz 1)).toInt)) 22 (upI (upI (F 22) sd (-1)) sd 1)) 23 (upI (upI (F 23) sd 0) sd ((20 * p0) + pz))) 24 (upI (upI (F 24) sd 0) sd (en - pz))) 20 (upI (upI (F 20) sd pa) sd en)) 22 sd = 1 := upI_self _ _ _
                                have e_140 : (va_up (va_up (va_up (va_up (va_up (va_up (va_up (va_up (va_up F 20 (upI (F 20) sd pa)) 22 (upI (F 22) sd (-1))) 23 (upI (F 23) sd 0)) 24 (upI (F 24) sd 0)) 21 (upI (F 21) sd (vp_nar .boolean (iz 1)).toInt)) 22 (upI (upI (F 22) sd (-1)) sd 1)) 23 (upI (upI (F 23) sd 0) sd ((20 * p0) + pz))) 24 (upI (upI (F 24) sd 0) sd (en - pz))) 20 (upI (upI (F 20) sd pa) sd en)) 23 sd = (20 * p0) + pz := upI_self _ _ _
                                have e_141 : (va_up (va_up (va_up (va_up (va_up (va_up (va_up (va_up (va_up F 20 (upI (F 20) sd pa)) 22 (upI (F 22) sd (-1))) 23 (upI (F 23) sd 0)) 24 (upI (F 24) sd 0)) 21 (upI (F 21) sd (vp_nar .boolean (iz 1)).toInt)) 22 (upI (upI (F 22) sd (-1)) sd 1)) 23 (upI (upI (F 23) sd 0) sd ((20 * p0) + pz))) 24 (upI (upI (F 24) sd 0) sd (en - pz))) 20 (upI (upI (F 20) sd pa) sd en)) 24 sd = en - pz := upI_self _ _ _
                                have e_142 : (va_up (va_up (va_up (va_up (va_up (va_up (va_up (va_up (va_up F 20 (upI (F 20) sd pa)) 22 (upI (F 22) sd (-1))) 23 (upI (F 23) sd 0)) 24 (upI (F 24) sd 0)) 21 (upI (F 21) sd (vp_nar .boolean (iz 1)).toInt)) 22 (upI (upI (F 22) sd (-1)) sd 1)) 23 (upI (upI (F 23) sd 0) sd ((20 * p0) + pz))) 24 (upI (upI (F 24) sd 0) sd (en - pz))) 20 (upI (upI (F 20) sd pa) sd en)) 21 sd = (vp_nar .boolean (iz 1)).toInt := upI_self _ _ _
                                rw [← hQe]
                                exact mk_ret hx hb hr hlocks hP hD hK hS dX6_step_299 (⟨rfl, (mB_f (mB_f (mB_f (mB_f (mB_f (mB_f (mB_f (mB_f (mB_f hB 20 sd (by omega) (by omega)) 22 sd (by omega) (by omega)) 23 sd (by omega) (by omega)) 24 sd (by omega) (by omega)) 21 sd (iz_lo _) (iz_hi _)) 22 sd (by omega) (by omega)) 23 sd (by omega) (by omega)) 24 sd (by omega) (by omega)) 20 sd (by omega) (by omega)), (mfr.upF (mfr.upF (mfr.upF (mfr.upF (mfr.upF (mfr.upF (mfr.upF (mfr.upF (mfr.upF mfr.rf (by decide) _) (by decide) _) (by decide) _) (by decide) _) (by decide) _) (by decide) _) (by decide) _) (by decide) _) (by decide) _), (mo1.up (mo1.up (mo1.up (mo1.up (mo1.up (mo1.up (mo1.up (mo1.up (mo1.up mo1.rf 20 _) 22 _) 23 _) 24 _) 21 _) 22 _) 23 _) 24 _) 20 _), by omega, by omega, by omega⟩)
                              · skip
                                refine lv_iinc (v := iz (pz + 1)) (lv' := [(3, .int (iz (pz + 1))), (6, .int (iz en)), (5, .int (iz (F 4 ((20 * p0) + pa)))), (4, .int (iz ps)), (0, .ref mo), (1, .int (iz sd)), (2, .int (iz p0))]) hx hb dX6_step_256 hl (k := 3) rfl (iz_add pz 1) (by decide) rfl (fun ls hl => ?_)
                                refine lv_goto (tgt := 234) hx hb dX6_step_259 (by decide) ?_
                                exact ih234 (pz + 1) (by omega) (by omega) _ _ hP hD hS ls (lv_sub hl [1, 2, 3, 0, 4, 5, 6] rfl)
                        exact lp234 _ pa (by omega) (Nat.lt_succ_self _) _ _ hP hD hS ls (lv_sub hl [0, 1, 2, 3, 4, 5, 6] rfl)
                      · skip
                        refine lv_iload hx hb dX6_step_199 (lv_at hl 0 rfl) ?_
                        refine lv_aload_n hx hb dX6_step_201 rfl (lv_at hl 4 rfl) ?_
                        refine va_get (D := (dC, dI)) (ci := 6) (v := .ref (ma 5)) (C := RX6) (T := TX6) (N := 44) hx hb hts kt_X6 hown hK hP 0 rfl rfl 5 (by decide) (kx_word hG kq_04_msmall_15 rfl) (fun _ h9 => h9) rfl dX6_step_202 ?_
                        refine lv_iload_n hx hb dX6_step_205 rfl (lv_at hl 6 rfl) ?_
                        refine ki_iald (F := F 5) hx hb hK hP 4 3 rfl rfl (by omega) (by omega) (by decide) dX6_step_206 ?_
                        refine ki_icmp_ge (tgt := 234) hx hb dX6_step_207 (by decide) (by omega) (by omega) (by omega) (by omega) (fun c_143 => ?_) (fun c_143 => ?_)
                        · skip
                          have lp234 : ∀ (n : Nat) (pz : Int), ((pa ≤ pz ∧ pz ≤ en)) → (en - pz).toNat < n → ∀ (H : Heap) (locs : List Loc), va_P (dC, dI) kxCl (mW mo ma cs I (va_up (va_up (va_up (va_up (va_up F 20 (upI (F 20) sd pa)) 22 (upI (F 22) sd (-1))) 23 (upI (F 23) sd 0)) 24 (upI (F 24) sd 0)) 21 (upI (F 21) sd (vp_nar .boolean (iz 1)).toInt))) H → va_D A (mW mo ma cs I (va_up (va_up (va_up (va_up (va_up F 20 (upI (F 20) sd pa)) 22 (upI (F 22) sd (-1))) 23 (upI (F 23) sd 0)) 24 (upI (F 24) sd 0)) 21 (upI (F 21) sd (vp_nar .boolean (iz 1)).toInt))) → va_S A s.heap H locs → ∀ ls : Array Slot, lv_has ls 7 [(6, .int (iz en)), (5, .int (iz (F 4 ((20 * p0) + pa)))), (4, .int (iz ps)), (3, .int (iz pz)), (0, .ref mo), (1, .int (iz sd)), (2, .int (iz p0))] → W p l e (headSpec [.code yX6_step cX6_step 7 none] ({ frames := 1, cells := 0, slots := 0, locals := 21 })).room s m ([.ref mo, .int (iz sd), .int (iz p0)] : List Value).toArray below meth c H locs 0 0 QQ (F0 m 234 ls []) := by
                            intro n
                            induction n with
                            | zero => intro pz hinv hm; exact absurd hm (Nat.not_lt_zero _)
                            | succ n ih234 =>
                              intro pz hinv hm H locs hP hD hS ls hl
                              have hpz := hinv
                              refine lv_iload_n hx hb dX6_step_234 rfl (lv_at hl 3 rfl) ?_
                              refine lv_iload hx hb dX6_step_235 (lv_at hl 0 rfl) ?_
                              refine ki_icmp_ge (tgt := 262) hx hb dX6_step_237 (by decide) (by omega) (by omega) (by omega) (by omega) (fun c_144 => ?_) (fun c_144 => ?_)
                              · skip
                                refine lv_aload_n hx hb dX6_step_262 rfl (lv_at hl 4 rfl) ?_
                                refine va_get (D := (dC, dI)) (ci := 6) (v := .ref (ma 22)) (C := RX6) (T := TX6) (N := 44) hx hb hts kt_X6 hown hK hP 0 rfl rfl 22 (by decide) (kx_word hG kq_05_morder_2 rfl) (fun _ h9 => h9) rfl dX6_step_263 ?_
                                refine lv_iload_n hx hb dX6_step_266 rfl (lv_at hl 5 rfl) ?_
                                refine lv_iconst (v := iz 1) hx hb dX6_step_267 (by decide) ?_
                                refine ki_iast (F := upI (F 22) sd (-1)) hx hb hK hP hD hS 17 16 rfl rfl (by omega) (by omega) (by decide) dX6_step_268 (fun H locs hP hD hS => ?_)
                                have hP : va_P (dC, dI) kxCl (mW mo ma cs I (va_up (va_up (va_up (va_up (va_up (va_up F 20 (upI (F 20) sd pa)) 22 (upI (F 22) sd (-1))) 23 (upI (F 23) sd 0)) 24 (upI (F 24) sd 0)) 21 (upI (F 21) sd (vp_nar .boolean (iz 1)).toInt)) 22 (upI (upI (F 22) sd (-1)) sd 1))) H := hP
                                have hD : va_D A (mW mo ma cs I (va_up (va_up (va_up (va_up (va_up (va_up F 20 (upI (F 20) sd pa)) 22 (upI (F 22) sd (-1))) 23 (upI (F 23) sd 0)) 24 (upI (F 24) sd 0)) 21 (upI (F 21) sd (vp_nar .boolean (iz 1)).toInt)) 22 (upI (upI (F 22) sd (-1)) sd 1))) := hD
                                refine lv_aload_n hx hb dX6_step_269 rfl (lv_at hl 4 rfl) ?_
                                refine va_get (D := (dC, dI)) (ci := 6) (v := .ref (ma 23)) (C := RX6) (T := TX6) (N := 44) hx hb hts kt_X6 hown hK hP 0 rfl rfl 23 (by decide) (kx_word hG kq_05_morder_3 rfl) (fun _ h9 => h9) rfl dX6_step_270 ?_
                                refine lv_iload_n hx hb dX6_step_273 rfl (lv_at hl 5 rfl) ?_
                                refine lv_bipush (v := iz 20) hx hb dX6_step_274 (by decide) ?_
                                refine lv_iload_n hx hb dX6_step_276 rfl (lv_at hl 6 rfl) ?_
                                refine ki_imul hx hb dX6_step_277 ?_
                                refine lv_iload_n hx hb dX6_step_278 rfl (lv_at hl 3 rfl) ?_
                                refine ki_iadd hx hb dX6_step_279 ?_
                                refine ki_iast (F := upI (F 23) sd 0) hx hb hK hP hD hS 18 17 rfl rfl (by omega) (by omega) (by decide) dX6_step_280 (fun H locs hP hD hS => ?_)
                                have hP : va_P (dC, dI) kxCl (mW mo ma cs I (va_up (va_up (va_up (va_up (va_up (va_up (va_up F 20 (upI (F 20) sd pa)) 22 (upI (F 22) sd (-1))) 23 (upI (F 23) sd 0)) 24 (upI (F 24) sd 0)) 21 (upI (F 21) sd (vp_nar .boolean (iz 1)).toInt)) 22 (upI (upI (F 22) sd (-1)) sd 1)) 23 (upI (upI (F 23) sd 0) sd ((20 * p0) + pz)))) H := hP
                                have hD : va_D A (mW mo ma cs I (va_up (va_up (va_up (va_up (va_up (va_up (va_up F 20 (upI (F 20) sd pa)) 22 (upI (F 22) sd (-1))) 23 (upI (F 23) sd 0)) 24 (upI (F 24) sd 0)) 21 (upI (F 21) sd (vp_nar .boolean (iz 1)).toInt)) 22 (upI (upI (F 22) sd (-1)) sd 1)) 23 (upI (upI (F 23) sd 0) sd ((20 * p0) + pz)))) := hD
                                refine lv_aload_n hx hb dX6_step_281 rfl (lv_at hl 4 rfl) ?_
                                refine va_get (D := (dC, dI)) (ci := 6) (v := .ref (ma 24)) (C := RX6) (T := TX6) (N := 44) hx hb hts kt_X6 hown hK hP 0 rfl rfl 24 (by decide) (kx_word hG kq_05_morder_4 rfl) (fun _ h9 => h9) rfl dX6_step_282 ?_
                                refine lv_iload_n hx hb dX6_step_285 rfl (lv_at hl 5 rfl) ?_
                                refine lv_iload hx hb dX6_step_286 (lv_at hl 0 rfl) ?_
                                refine lv_iload_n hx hb dX6_step_288 rfl (lv_at hl 3 rfl) ?_
                                refine ki_isub hx hb dX6_step_289 ?_
                                refine ki_iast (F := upI (F 24) sd 0) hx hb hK hP hD hS 19 18 rfl rfl (by omega) (by omega) (by decide) dX6_step_290 (fun H locs hP hD hS => ?_)
                                have hP : va_P (dC, dI) kxCl (mW mo ma cs I (va_up (va_up (va_up (va_up (va_up (va_up (va_up (va_up F 20 (upI (F 20) sd pa)) 22 (upI (F 22) sd (-1))) 23 (upI (F 23) sd 0)) 24 (upI (F 24) sd 0)) 21 (upI (F 21) sd (vp_nar .boolean (iz 1)).toInt)) 22 (upI (upI (F 22) sd (-1)) sd 1)) 23 (upI (upI (F 23) sd 0) sd ((20 * p0) + pz))) 24 (upI (upI (F 24) sd 0) sd (en - pz)))) H := hP
                                have hD : va_D A (mW mo ma cs I (va_up (va_up (va_up (va_up (va_up (va_up (va_up (va_up F 20 (upI (F 20) sd pa)) 22 (upI (F 22) sd (-1))) 23 (upI (F 23) sd 0)) 24 (upI (F 24) sd 0)) 21 (upI (F 21) sd (vp_nar .boolean (iz 1)).toInt)) 22 (upI (upI (F 22) sd (-1)) sd 1)) 23 (upI (upI (F 23) sd 0) sd ((20 * p0) + pz))) 24 (upI (upI (F 24) sd 0) sd (en - pz)))) := hD
                                refine lv_aload_n hx hb dX6_step_291 rfl (lv_at hl 4 rfl) ?_
                                refine va_get (D := (dC, dI)) (ci := 6) (v := .ref (ma 20)) (C := RX6) (T := TX6) (N := 44) hx hb hts kt_X6 hown hK hP 0 rfl rfl 20 (by decide) (kx_word hG kq_05_morder_0 rfl) (fun _ h9 => h9) rfl dX6_step_292 ?_
                                refine lv_iload_n hx hb dX6_step_295 rfl (lv_at hl 5 rfl) ?_
                                refine lv_iload hx hb dX6_step_296 (lv_at hl 0 rfl) ?_
                                refine ki_iast (F := upI (F 20) sd pa) hx hb hK hP hD hS 15 14 rfl rfl (by omega) (by omega) (by decide) dX6_step_298 (fun H locs hP hD hS => ?_)
                                have hP : va_P (dC, dI) kxCl (mW mo ma cs I (va_up (va_up (va_up (va_up (va_up (va_up (va_up (va_up (va_up F 20 (upI (F 20) sd pa)) 22 (upI (F 22) sd (-1))) 23 (upI (F 23) sd 0)) 24 (upI (F 24) sd 0)) 21 (upI (F 21) sd (vp_nar .boolean (iz 1)).toInt)) 22 (upI (upI (F 22) sd (-1)) sd 1)) 23 (upI (upI (F 23) sd 0) sd ((20 * p0) + pz))) 24 (upI (upI (F 24) sd 0) sd (en - pz))) 20 (upI (upI (F 20) sd pa) sd en))) H := hP
                                have hD : va_D A (mW mo ma cs I (va_up (va_up (va_up (va_up (va_up (va_up (va_up (va_up (va_up F 20 (upI (F 20) sd pa)) 22 (upI (F 22) sd (-1))) 23 (upI (F 23) sd 0)) 24 (upI (F 24) sd 0)) 21 (upI (F 21) sd (vp_nar .boolean (iz 1)).toInt)) 22 (upI (upI (F 22) sd (-1)) sd 1)) 23 (upI (upI (F 23) sd 0) sd ((20 * p0) + pz))) 24 (upI (upI (F 24) sd 0) sd (en - pz))) 20 (upI (upI (F 20) sd pa) sd en))) := hD
                                have e_145 : (va_up (va_up (va_up (va_up (va_up (va_up (va_up (va_up (va_up F 20 (upI (F 20) sd pa)) 22 (upI (F 22) sd (-1))) 23 (upI (F 23) sd 0)) 24 (upI (F 24) sd 0)) 21 (upI (F 21) sd (vp_nar .boolean (iz 1)).toInt)) 22 (upI (upI (F 22) sd (-1)) sd 1)) 23 (upI (upI (F 23) sd 0) sd ((20 * p0) + pz))) 24 (upI (upI (F 24) sd 0) sd (en - pz))) 20 (upI (upI (F 20) sd pa) sd en)) 20 sd = en := upI_self _ _ _
                                have e_146 : (va_up (va_up (va_up (va_up (va_up (va_up (va_up (va_up (va_up F 20 (upI (F 20) sd pa)) 22 (upI (F 22) sd (-1))) 23 (upI (F 23) sd 0)) 24 (upI (F 24) sd 0)) 21 (upI (F 21) sd (vp_nar .boolean (iz 1)).toInt)) 22 (upI (upI (F 22) sd (-1)) sd 1)) 23 (upI (upI (F 23) sd 0) sd ((20 * p0) + pz))) 24 (upI (upI (F 24) sd 0) sd (en - pz))) 20 (upI (upI (F 20) sd pa) sd en)) 22 sd = 1 := upI_self _ _ _
                                have e_147 : (va_up (va_up (va_up (va_up (va_up (va_up (va_up (va_up (va_up F 20 (upI (F 20) sd pa)) 22 (upI (F 22) sd (-1))) 23 (upI (F 23) sd 0)) 24 (upI (F 24) sd 0)) 21 (upI (F 21) sd (vp_nar .boolean (iz 1)).toInt)) 22 (upI (upI (F 22) sd (-1)) sd 1)) 23 (upI (upI (F 23) sd 0) sd ((20 * p0) + pz))) 24 (upI (upI (F 24) sd 0) sd (en - pz))) 20 (upI (upI (F 20) sd pa) sd en)) 23 sd = (20 * p0) + pz := upI_self _ _ _
                                have e_148 : (va_up (va_up (va_up (va_up (va_up (va_up (va_up (va_up (va_up F 20 (upI (F 20) sd pa)) 22 (upI (F 22) sd (-1))) 23 (upI (F 23) sd 0)) 24 (upI (F 24) sd 0)) 21 (upI (F 21) sd (vp_nar .boolean (iz 1)).toInt)) 22 (upI (upI (F 22) sd (-1)) sd 1)) 23 (upI (upI (F 23) sd 0) sd ((20 * p0) + pz))) 24 (upI (upI (F 24) sd 0) sd (en - pz))) 20 (upI (upI (F 20) sd pa) sd en)) 24 sd = en - pz := upI_self _ _ _
                                have e_149 : (va_up (va_up (va_up (va_up (va_up (va_up (va_up (va_up (va_up F 20 (upI (F 20) sd pa)) 22 (upI (F 22) sd (-1))) 23 (upI (F 23) sd 0)) 24 (upI (F 24) sd 0)) 21 (upI (F 21) sd (vp_nar .boolean (iz 1)).toInt)) 22 (upI (upI (F 22) sd (-1)) sd 1)) 23 (upI (upI (F 23) sd 0) sd ((20 * p0) + pz))) 24 (upI (upI (F 24) sd 0) sd (en - pz))) 20 (upI (upI (F 20) sd pa) sd en)) 21 sd = (vp_nar .boolean (iz 1)).toInt := upI_self _ _ _
                                rw [← hQe]
                                exact mk_ret hx hb hr hlocks hP hD hK hS dX6_step_299 (⟨rfl, (mB_f (mB_f (mB_f (mB_f (mB_f (mB_f (mB_f (mB_f (mB_f hB 20 sd (by omega) (by omega)) 22 sd (by omega) (by omega)) 23 sd (by omega) (by omega)) 24 sd (by omega) (by omega)) 21 sd (iz_lo _) (iz_hi _)) 22 sd (by omega) (by omega)) 23 sd (by omega) (by omega)) 24 sd (by omega) (by omega)) 20 sd (by omega) (by omega)), (mfr.upF (mfr.upF (mfr.upF (mfr.upF (mfr.upF (mfr.upF (mfr.upF (mfr.upF (mfr.upF mfr.rf (by decide) _) (by decide) _) (by decide) _) (by decide) _) (by decide) _) (by decide) _) (by decide) _) (by decide) _) (by decide) _), (mo1.up (mo1.up (mo1.up (mo1.up (mo1.up (mo1.up (mo1.up (mo1.up (mo1.up mo1.rf 20 _) 22 _) 23 _) 24 _) 21 _) 22 _) 23 _) 24 _) 20 _), by omega, by omega, by omega⟩)
                              · skip
                                refine lv_aload_n hx hb dX6_step_240 rfl (lv_at hl 4 rfl) ?_
                                refine va_get (D := (dC, dI)) (ci := 6) (v := .ref (ma 4)) (C := RX6) (T := TX6) (N := 44) hx hb hts kt_X6 hown hK hP 0 rfl rfl 4 (by decide) (kx_word hG kq_04_msmall_16 rfl) (fun _ h9 => h9) rfl dX6_step_241 ?_
                                refine lv_bipush (v := iz 20) hx hb dX6_step_244 (by decide) ?_
                                refine lv_iload_n hx hb dX6_step_246 rfl (lv_at hl 6 rfl) ?_
                                refine ki_imul hx hb dX6_step_247 ?_
                                refine lv_iload_n hx hb dX6_step_248 rfl (lv_at hl 3 rfl) ?_
                                refine ki_iadd hx hb dX6_step_249 ?_
                                refine ki_iald (F := F 4) hx hb hK hP 3 2 rfl rfl (by omega) (by omega) (by decide) dX6_step_250 ?_
                                have hbd_150 := hB.2 4 ((20 * p0) + pz)
                                refine lv_bipush (v := iz 48) hx hb dX6_step_251 (by decide) ?_
                                refine ki_icmp_ne (tgt := 262) hx hb dX6_step_253 (by decide) (by omega) (by omega) (by omega) (by omega) (fun c_151 => ?_) (fun c_151 => ?_)
                                · skip
                                  refine lv_aload_n hx hb dX6_step_262 rfl (lv_at hl 4 rfl) ?_
                                  refine va_get (D := (dC, dI)) (ci := 6) (v := .ref (ma 22)) (C := RX6) (T := TX6) (N := 44) hx hb hts kt_X6 hown hK hP 0 rfl rfl 22 (by decide) (kx_word hG kq_05_morder_2 rfl) (fun _ h9 => h9) rfl dX6_step_263 ?_
                                  refine lv_iload_n hx hb dX6_step_266 rfl (lv_at hl 5 rfl) ?_
                                  refine lv_iconst (v := iz 1) hx hb dX6_step_267 (by decide) ?_
                                  refine ki_iast (F := upI (F 22) sd (-1)) hx hb hK hP hD hS 17 16 rfl rfl (by omega) (by omega) (by decide) dX6_step_268 (fun H locs hP hD hS => ?_)
                                  have hP : va_P (dC, dI) kxCl (mW mo ma cs I (va_up (va_up (va_up (va_up (va_up (va_up F 20 (upI (F 20) sd pa)) 22 (upI (F 22) sd (-1))) 23 (upI (F 23) sd 0)) 24 (upI (F 24) sd 0)) 21 (upI (F 21) sd (vp_nar .boolean (iz 1)).toInt)) 22 (upI (upI (F 22) sd (-1)) sd 1))) H := hP
                                  have hD : va_D A (mW mo ma cs I (va_up (va_up (va_up (va_up (va_up (va_up F 20 (upI (F 20) sd pa)) 22 (upI (F 22) sd (-1))) 23 (upI (F 23) sd 0)) 24 (upI (F 24) sd 0)) 21 (upI (F 21) sd (vp_nar .boolean (iz 1)).toInt)) 22 (upI (upI (F 22) sd (-1)) sd 1))) := hD
                                  refine lv_aload_n hx hb dX6_step_269 rfl (lv_at hl 4 rfl) ?_
                                  refine va_get (D := (dC, dI)) (ci := 6) (v := .ref (ma 23)) (C := RX6) (T := TX6) (N := 44) hx hb hts kt_X6 hown hK hP 0 rfl rfl 23 (by decide) (kx_word hG kq_05_morder_3 rfl) (fun _ h9 => h9) rfl dX6_step_270 ?_
                                  refine lv_iload_n hx hb dX6_step_273 rfl (lv_at hl 5 rfl) ?_
                                  refine lv_bipush (v := iz 20) hx hb dX6_step_274 (by decide) ?_
                                  refine lv_iload_n hx hb dX6_step_276 rfl (lv_at hl 6 rfl) ?_
                                  refine ki_imul hx hb dX6_step_277 ?_
                                  refine lv_iload_n hx hb dX6_step_278 rfl (lv_at hl 3 rfl) ?_
                                  refine ki_iadd hx hb dX6_step_279 ?_
                                  refine ki_iast (F := upI (F 23) sd 0) hx hb hK hP hD hS 18 17 rfl rfl (by omega) (by omega) (by decide) dX6_step_280 (fun H locs hP hD hS => ?_)
                                  have hP : va_P (dC, dI) kxCl (mW mo ma cs I (va_up (va_up (va_up (va_up (va_up (va_up (va_up F 20 (upI (F 20) sd pa)) 22 (upI (F 22) sd (-1))) 23 (upI (F 23) sd 0)) 24 (upI (F 24) sd 0)) 21 (upI (F 21) sd (vp_nar .boolean (iz 1)).toInt)) 22 (upI (upI (F 22) sd (-1)) sd 1)) 23 (upI (upI (F 23) sd 0) sd ((20 * p0) + pz)))) H := hP
                                  have hD : va_D A (mW mo ma cs I (va_up (va_up (va_up (va_up (va_up (va_up (va_up F 20 (upI (F 20) sd pa)) 22 (upI (F 22) sd (-1))) 23 (upI (F 23) sd 0)) 24 (upI (F 24) sd 0)) 21 (upI (F 21) sd (vp_nar .boolean (iz 1)).toInt)) 22 (upI (upI (F 22) sd (-1)) sd 1)) 23 (upI (upI (F 23) sd 0) sd ((20 * p0) + pz)))) := hD
                                  refine lv_aload_n hx hb dX6_step_281 rfl (lv_at hl 4 rfl) ?_
                                  refine va_get (D := (dC, dI)) (ci := 6) (v := .ref (ma 24)) (C := RX6) (T := TX6) (N := 44) hx hb hts kt_X6 hown hK hP 0 rfl rfl 24 (by decide) (kx_word hG kq_05_morder_4 rfl) (fun _ h9 => h9) rfl dX6_step_282 ?_
                                  refine lv_iload_n hx hb dX6_step_285 rfl (lv_at hl 5 rfl) ?_
                                  refine lv_iload hx hb dX6_step_286 (lv_at hl 0 rfl) ?_
                                  refine lv_iload_n hx hb dX6_step_288 rfl (lv_at hl 3 rfl) ?_
                                  refine ki_isub hx hb dX6_step_289 ?_
                                  refine ki_iast (F := upI (F 24) sd 0) hx hb hK hP hD hS 19 18 rfl rfl (by omega) (by omega) (by decide) dX6_step_290 (fun H locs hP hD hS => ?_)
                                  have hP : va_P (dC, dI) kxCl (mW mo ma cs I (va_up (va_up (va_up (va_up (va_up (va_up (va_up (va_up F 20 (upI (F 20) sd pa)) 22 (upI (F 22) sd (-1))) 23 (upI (F 23) sd 0)) 24 (upI (F 24) sd 0)) 21 (upI (F 21) sd (vp_nar .boolean (iz 1)).toInt)) 22 (upI (upI (F 22) sd (-1)) sd 1)) 23 (upI (upI (F 23) sd 0) sd ((20 * p0) + pz))) 24 (upI (upI (F 24) sd 0) sd (en - pz)))) H := hP
                                  have hD : va_D A (mW mo ma cs I (va_up (va_up (va_up (va_up (va_up (va_up (va_up (va_up F 20 (upI (F 20) sd pa)) 22 (upI (F 22) sd (-1))) 23 (upI (F 23) sd 0)) 24 (upI (F 24) sd 0)) 21 (upI (F 21) sd (vp_nar .boolean (iz 1)).toInt)) 22 (upI (upI (F 22) sd (-1)) sd 1)) 23 (upI (upI (F 23) sd 0) sd ((20 * p0) + pz))) 24 (upI (upI (F 24) sd 0) sd (en - pz)))) := hD
                                  refine lv_aload_n hx hb dX6_step_291 rfl (lv_at hl 4 rfl) ?_
                                  refine va_get (D := (dC, dI)) (ci := 6) (v := .ref (ma 20)) (C := RX6) (T := TX6) (N := 44) hx hb hts kt_X6 hown hK hP 0 rfl rfl 20 (by decide) (kx_word hG kq_05_morder_0 rfl) (fun _ h9 => h9) rfl dX6_step_292 ?_
                                  refine lv_iload_n hx hb dX6_step_295 rfl (lv_at hl 5 rfl) ?_
                                  refine lv_iload hx hb dX6_step_296 (lv_at hl 0 rfl) ?_
                                  refine ki_iast (F := upI (F 20) sd pa) hx hb hK hP hD hS 15 14 rfl rfl (by omega) (by omega) (by decide) dX6_step_298 (fun H locs hP hD hS => ?_)
                                  have hP : va_P (dC, dI) kxCl (mW mo ma cs I (va_up (va_up (va_up (va_up (va_up (va_up (va_up (va_up (va_up F 20 (upI (F 20) sd pa)) 22 (upI (F 22) sd (-1))) 23 (upI (F 23) sd 0)) 24 (upI (F 24) sd 0)) 21 (upI (F 21) sd (vp_nar .boolean (iz 1)).toInt)) 22 (upI (upI (F 22) sd (-1)) sd 1)) 23 (upI (upI (F 23) sd 0) sd ((20 * p0) + pz))) 24 (upI (upI (F 24) sd 0) sd (en - pz))) 20 (upI (upI (F 20) sd pa) sd en))) H := hP
                                  have hD : va_D A (mW mo ma cs I (va_up (va_up (va_up (va_up (va_up (va_up (va_up (va_up (va_up F 20 (upI (F 20) sd pa)) 22 (upI (F 22) sd (-1))) 23 (upI (F 23) sd 0)) 24 (upI (F 24) sd 0)) 21 (upI (F 21) sd (vp_nar .boolean (iz 1)).toInt)) 22 (upI (upI (F 22) sd (-1)) sd 1)) 23 (upI (upI (F 23) sd 0) sd ((20 * p0) + pz))) 24 (upI (upI (F 24) sd 0) sd (en - pz))) 20 (upI (upI (F 20) sd pa) sd en))) := hD
                                  have e_152 : (va_up (va_up (va_up (va_up (va_up (va_up (va_up (va_up (va_up F 20 (upI (F 20) sd pa)) 22 (upI (F 22) sd (-1))) 23 (upI (F 23) sd 0)) 24 (upI (F 24) sd 0)) 21 (upI (F 21) sd (vp_nar .boolean (iz 1)).toInt)) 22 (upI (upI (F 22) sd (-1)) sd 1)) 23 (upI (upI (F 23) sd 0) sd ((20 * p0) + pz))) 24 (upI (upI (F 24) sd 0) sd (en - pz))) 20 (upI (upI (F 20) sd pa) sd en)) 20 sd = en := upI_self _ _ _
                                  have e_153 : (va_up (va_up (va_up (va_up (va_up (va_up (va_up (va_up (va_up F 20 (upI (F 20) sd pa)) 22 (upI (F 22) sd (-1))) 23 (upI (F 23) sd 0)) 24 (upI (F 24) sd 0)) 21 (upI (F 21) sd (vp_nar .boolean (iz 1)).toInt)) 22 (upI (upI (F 22) sd (-1)) sd 1)) 23 (upI (upI (F 23) sd 0) sd ((20 * p0) + pz))) 24 (upI (upI (F 24) sd 0) sd (en - pz))) 20 (upI (upI (F 20) sd pa) sd en)) 22 sd = 1 := upI_self _ _ _
                                  have e_154 : (va_up (va_up (va_up (va_up (va_up (va_up (va_up (va_up (va_up F 20 (upI (F 20) sd pa)) 22 (upI (F 22) sd (-1))) 23 (upI (F 23) sd 0)) 24 (upI (F 24) sd 0)) 21 (upI (F 21) sd (vp_nar .boolean (iz 1)).toInt)) 22 (upI (upI (F 22) sd (-1)) sd 1)) 23 (upI (upI (F 23) sd 0) sd ((20 * p0) + pz))) 24 (upI (upI (F 24) sd 0) sd (en - pz))) 20 (upI (upI (F 20) sd pa) sd en)) 23 sd = (20 * p0) + pz := upI_self _ _ _
                                  have e_155 : (va_up (va_up (va_up (va_up (va_up (va_up (va_up (va_up (va_up F 20 (upI (F 20) sd pa)) 22 (upI (F 22) sd (-1))) 23 (upI (F 23) sd 0)) 24 (upI (F 24) sd 0)) 21 (upI (F 21) sd (vp_nar .boolean (iz 1)).toInt)) 22 (upI (upI (F 22) sd (-1)) sd 1)) 23 (upI (upI (F 23) sd 0) sd ((20 * p0) + pz))) 24 (upI (upI (F 24) sd 0) sd (en - pz))) 20 (upI (upI (F 20) sd pa) sd en)) 24 sd = en - pz := upI_self _ _ _
                                  have e_156 : (va_up (va_up (va_up (va_up (va_up (va_up (va_up (va_up (va_up F 20 (upI (F 20) sd pa)) 22 (upI (F 22) sd (-1))) 23 (upI (F 23) sd 0)) 24 (upI (F 24) sd 0)) 21 (upI (F 21) sd (vp_nar .boolean (iz 1)).toInt)) 22 (upI (upI (F 22) sd (-1)) sd 1)) 23 (upI (upI (F 23) sd 0) sd ((20 * p0) + pz))) 24 (upI (upI (F 24) sd 0) sd (en - pz))) 20 (upI (upI (F 20) sd pa) sd en)) 21 sd = (vp_nar .boolean (iz 1)).toInt := upI_self _ _ _
                                  rw [← hQe]
                                  exact mk_ret hx hb hr hlocks hP hD hK hS dX6_step_299 (⟨rfl, (mB_f (mB_f (mB_f (mB_f (mB_f (mB_f (mB_f (mB_f (mB_f hB 20 sd (by omega) (by omega)) 22 sd (by omega) (by omega)) 23 sd (by omega) (by omega)) 24 sd (by omega) (by omega)) 21 sd (iz_lo _) (iz_hi _)) 22 sd (by omega) (by omega)) 23 sd (by omega) (by omega)) 24 sd (by omega) (by omega)) 20 sd (by omega) (by omega)), (mfr.upF (mfr.upF (mfr.upF (mfr.upF (mfr.upF (mfr.upF (mfr.upF (mfr.upF (mfr.upF mfr.rf (by decide) _) (by decide) _) (by decide) _) (by decide) _) (by decide) _) (by decide) _) (by decide) _) (by decide) _) (by decide) _), (mo1.up (mo1.up (mo1.up (mo1.up (mo1.up (mo1.up (mo1.up (mo1.up (mo1.up mo1.rf 20 _) 22 _) 23 _) 24 _) 21 _) 22 _) 23 _) 24 _) 20 _), by omega, by omega, by omega⟩)
                                · skip
                                  refine lv_iinc (v := iz (pz + 1)) (lv' := [(3, .int (iz (pz + 1))), (6, .int (iz en)), (5, .int (iz (F 4 ((20 * p0) + pa)))), (4, .int (iz ps)), (0, .ref mo), (1, .int (iz sd)), (2, .int (iz p0))]) hx hb dX6_step_256 hl (k := 3) rfl (iz_add pz 1) (by decide) rfl (fun ls hl => ?_)
                                  refine lv_goto (tgt := 234) hx hb dX6_step_259 (by decide) ?_
                                  exact ih234 (pz + 1) (by omega) (by omega) _ _ hP hD hS ls (lv_sub hl [1, 2, 3, 0, 4, 5, 6] rfl)
                          exact lp234 _ pa (by omega) (Nat.lt_succ_self _) _ _ hP hD hS ls (lv_sub hl [0, 1, 2, 3, 4, 5, 6] rfl)
                        · skip
                          refine lv_aload_n hx hb dX6_step_210 rfl (lv_at hl 4 rfl) ?_
                          refine va_get (D := (dC, dI)) (ci := 6) (v := .ref (ma 4)) (C := RX6) (T := TX6) (N := 44) hx hb hts kt_X6 hown hK hP 0 rfl rfl 4 (by decide) (kx_word hG kq_04_msmall_16 rfl) (fun _ h9 => h9) rfl dX6_step_211 ?_
                          refine lv_bipush (v := iz 20) hx hb dX6_step_214 (by decide) ?_
                          refine lv_iload_n hx hb dX6_step_216 rfl (lv_at hl 6 rfl) ?_
                          refine ki_imul hx hb dX6_step_217 ?_
                          refine lv_iload hx hb dX6_step_218 (lv_at hl 0 rfl) ?_
                          refine ki_iadd hx hb dX6_step_220 ?_
                          refine ki_iald (F := F 4) hx hb hK hP 3 2 rfl rfl (by omega) (by omega) (by decide) dX6_step_221 ?_
                          have hbd_157 := hB.2 4 ((20 * p0) + en)
                          refine mk_calls (As := [.int (iz (F 4 ((20 * p0) + en)))]) (rest := []) ⟨hx, hb, hml, hown, hts⟩ (k_isNumber l dC dI (F 4 ((20 * p0) + en)) H.size (by omega) (by omega)) (va_cwS 1 hts (kx_gS kq_05_morder_8 kq_05_morder_9 kq_04_msmall_6 kq_05_morder_10 rfl) rfl rfl rfl (by decide +kernel) ⟨Nat.le_of_ble_eq_true rfl, Nat.le_of_ble_eq_true rfl⟩) hP hD hK hG hZ hS hA rfl hl.1 rfl (Nat.le_of_ble_eq_true rfl) dX6_step_222 ⟨Nat.le_of_ble_eq_true rfl, Nat.le_of_ble_eq_true rfl⟩ (fun z_158 H locs hq_159 hP hS => ?_)
                          try dsimp only at hq_159
                          refine ki_if_eq (tgt := 234) hx hb dX6_step_225 (by decide) (by omega) (by omega) (fun c_160 => ?_) (fun c_160 => ?_)
                          · skip
                            have lp234 : ∀ (n : Nat) (pz : Int), ((pa ≤ pz ∧ pz ≤ en)) → (en - pz).toNat < n → ∀ (H : Heap) (locs : List Loc), va_P (dC, dI) kxCl (mW mo ma cs I (va_up (va_up (va_up (va_up (va_up F 20 (upI (F 20) sd pa)) 22 (upI (F 22) sd (-1))) 23 (upI (F 23) sd 0)) 24 (upI (F 24) sd 0)) 21 (upI (F 21) sd (vp_nar .boolean (iz 1)).toInt))) H → va_D A (mW mo ma cs I (va_up (va_up (va_up (va_up (va_up F 20 (upI (F 20) sd pa)) 22 (upI (F 22) sd (-1))) 23 (upI (F 23) sd 0)) 24 (upI (F 24) sd 0)) 21 (upI (F 21) sd (vp_nar .boolean (iz 1)).toInt))) → va_S A s.heap H locs → ∀ ls : Array Slot, lv_has ls 7 [(6, .int (iz en)), (5, .int (iz (F 4 ((20 * p0) + pa)))), (4, .int (iz ps)), (3, .int (iz pz)), (0, .ref mo), (1, .int (iz sd)), (2, .int (iz p0))] → W p l e (headSpec [.code yX6_step cX6_step 7 none] ({ frames := 1, cells := 0, slots := 0, locals := 21 })).room s m ([.ref mo, .int (iz sd), .int (iz p0)] : List Value).toArray below meth c H locs 0 0 QQ (F0 m 234 ls []) := by
                              intro n
                              induction n with
                              | zero => intro pz hinv hm; exact absurd hm (Nat.not_lt_zero _)
                              | succ n ih234 =>
                                intro pz hinv hm H locs hP hD hS ls hl
                                have hpz := hinv
                                refine lv_iload_n hx hb dX6_step_234 rfl (lv_at hl 3 rfl) ?_
                                refine lv_iload hx hb dX6_step_235 (lv_at hl 0 rfl) ?_
                                refine ki_icmp_ge (tgt := 262) hx hb dX6_step_237 (by decide) (by omega) (by omega) (by omega) (by omega) (fun c_161 => ?_) (fun c_161 => ?_)
                                · skip
                                  refine lv_aload_n hx hb dX6_step_262 rfl (lv_at hl 4 rfl) ?_
                                  refine va_get (D := (dC, dI)) (ci := 6) (v := .ref (ma 22)) (C := RX6) (T := TX6) (N := 44) hx hb hts kt_X6 hown hK hP 0 rfl rfl 22 (by decide) (kx_word hG kq_05_morder_2 rfl) (fun _ h9 => h9) rfl dX6_step_263 ?_
                                  refine lv_iload_n hx hb dX6_step_266 rfl (lv_at hl 5 rfl) ?_
                                  refine lv_iconst (v := iz 1) hx hb dX6_step_267 (by decide) ?_
                                  refine ki_iast (F := upI (F 22) sd (-1)) hx hb hK hP hD hS 17 16 rfl rfl (by omega) (by omega) (by decide) dX6_step_268 (fun H locs hP hD hS => ?_)
                                  have hP : va_P (dC, dI) kxCl (mW mo ma cs I (va_up (va_up (va_up (va_up (va_up (va_up F 20 (upI (F 20) sd pa)) 22 (upI (F 22) sd (-1))) 23 (upI (F 23) sd 0)) 24 (upI (F 24) sd 0)) 21 (upI (F 21) sd (vp_nar .boolean (iz 1)).toInt)) 22 (upI (upI (F 22) sd (-1)) sd 1))) H := hP
                                  have hD : va_D A (mW mo ma cs I (va_up (va_up (va_up (va_up (va_up (va_up F 20 (upI (F 20) sd pa)) 22 (upI (F 22) sd (-1))) 23 (upI (F 23) sd 0)) 24 (upI (F 24) sd 0)) 21 (upI (F 21) sd (vp_nar .boolean (iz 1)).toInt)) 22 (upI (upI (F 22) sd (-1)) sd 1))) := hD
                                  refine lv_aload_n hx hb dX6_step_269 rfl (lv_at hl 4 rfl) ?_
                                  refine va_get (D := (dC, dI)) (ci := 6) (v := .ref (ma 23)) (C := RX6) (T := TX6) (N := 44) hx hb hts kt_X6 hown hK hP 0 rfl rfl 23 (by decide) (kx_word hG kq_05_morder_3 rfl) (fun _ h9 => h9) rfl dX6_step_270 ?_
                                  refine lv_iload_n hx hb dX6_step_273 rfl (lv_at hl 5 rfl) ?_
                                  refine lv_bipush (v := iz 20) hx hb dX6_step_274 (by decide) ?_
                                  refine lv_iload_n hx hb dX6_step_276 rfl (lv_at hl 6 rfl) ?_
                                  refine ki_imul hx hb dX6_step_277 ?_
                                  refine lv_iload_n hx hb dX6_step_278 rfl (lv_at hl 3 rfl) ?_
                                  refine ki_iadd hx hb dX6_step_279 ?_
                                  refine ki_iast (F := upI (F 23) sd 0) hx hb hK hP hD hS 18 17 rfl rfl (by omega) (by omega) (by decide) dX6_step_280 (fun H locs hP hD hS => ?_)
                                  have hP : va_P (dC, dI) kxCl (mW mo ma cs I (va_up (va_up (va_up (va_up (va_up (va_up (va_up F 20 (upI (F 20) sd pa)) 22 (upI (F 22) sd (-1))) 23 (upI (F 23) sd 0)) 24 (upI (F 24) sd 0)) 21 (upI (F 21) sd (vp_nar .boolean (iz 1)).toInt)) 22 (upI (upI (F 22) sd (-1)) sd 1)) 23 (upI (upI (F 23) sd 0) sd ((20 * p0) + pz)))) H := hP
                                  have hD : va_D A (mW mo ma cs I (va_up (va_up (va_up (va_up (va_up (va_up (va_up F 20 (upI (F 20) sd pa)) 22 (upI (F 22) sd (-1))) 23 (upI (F 23) sd 0)) 24 (upI (F 24) sd 0)) 21 (upI (F 21) sd (vp_nar .boolean (iz 1)).toInt)) 22 (upI (upI (F 22) sd (-1)) sd 1)) 23 (upI (upI (F 23) sd 0) sd ((20 * p0) + pz)))) := hD
                                  refine lv_aload_n hx hb dX6_step_281 rfl (lv_at hl 4 rfl) ?_
                                  refine va_get (D := (dC, dI)) (ci := 6) (v := .ref (ma 24)) (C := RX6) (T := TX6) (N := 44) hx hb hts kt_X6 hown hK hP 0 rfl rfl 24 (by decide) (kx_word hG kq_05_morder_4 rfl) (fun _ h9 => h9) rfl dX6_step_282 ?_
                                  refine lv_iload_n hx hb dX6_step_285 rfl (lv_at hl 5 rfl) ?_
                                  refine lv_iload hx hb dX6_step_286 (lv_at hl 0 rfl) ?_
                                  refine lv_iload_n hx hb dX6_step_288 rfl (lv_at hl 3 rfl) ?_
                                  refine ki_isub hx hb dX6_step_289 ?_
                                  refine ki_iast (F := upI (F 24) sd 0) hx hb hK hP hD hS 19 18 rfl rfl (by omega) (by omega) (by decide) dX6_step_290 (fun H locs hP hD hS => ?_)
                                  have hP : va_P (dC, dI) kxCl (mW mo ma cs I (va_up (va_up (va_up (va_up (va_up (va_up (va_up (va_up F 20 (upI (F 20) sd pa)) 22 (upI (F 22) sd (-1))) 23 (upI (F 23) sd 0)) 24 (upI (F 24) sd 0)) 21 (upI (F 21) sd (vp_nar .boolean (iz 1)).toInt)) 22 (upI (upI (F 22) sd (-1)) sd 1)) 23 (upI (upI (F 23) sd 0) sd ((20 * p0) + pz))) 24 (upI (upI (F 24) sd 0) sd (en - pz)))) H := hP
                                  have hD : va_D A (mW mo ma cs I (va_up (va_up (va_up (va_up (va_up (va_up (va_up (va_up F 20 (upI (F 20) sd pa)) 22 (upI (F 22) sd (-1))) 23 (upI (F 23) sd 0)) 24 (upI (F 24) sd 0)) 21 (upI (F 21) sd (vp_nar .boolean (iz 1)).toInt)) 22 (upI (upI (F 22) sd (-1)) sd 1)) 23 (upI (upI (F 23) sd 0) sd ((20 * p0) + pz))) 24 (upI (upI (F 24) sd 0) sd (en - pz)))) := hD
                                  refine lv_aload_n hx hb dX6_step_291 rfl (lv_at hl 4 rfl) ?_
                                  refine va_get (D := (dC, dI)) (ci := 6) (v := .ref (ma 20)) (C := RX6) (T := TX6) (N := 44) hx hb hts kt_X6 hown hK hP 0 rfl rfl 20 (by decide) (kx_word hG kq_05_morder_0 rfl) (fun _ h9 => h9) rfl dX6_step_292 ?_
                                  refine lv_iload_n hx hb dX6_step_295 rfl (lv_at hl 5 rfl) ?_
                                  refine lv_iload hx hb dX6_step_296 (lv_at hl 0 rfl) ?_
                                  refine ki_iast (F := upI (F 20) sd pa) hx hb hK hP hD hS 15 14 rfl rfl (by omega) (by omega) (by decide) dX6_step_298 (fun H locs hP hD hS => ?_)
                                  have hP : va_P (dC, dI) kxCl (mW mo ma cs I (va_up (va_up (va_up (va_up (va_up (va_up (va_up (va_up (va_up F 20 (upI (F 20) sd pa)) 22 (upI (F 22) sd (-1))) 23 (upI (F 23) sd 0)) 24 (upI (F 24) sd 0)) 21 (upI (F 21) sd (vp_nar .boolean (iz 1)).toInt)) 22 (upI (upI (F 22) sd (-1)) sd 1)) 23 (upI (upI (F 23) sd 0) sd ((20 * p0) + pz))) 24 (upI (upI (F 24) sd 0) sd (en - pz))) 20 (upI (upI (F 20) sd pa) sd en))) H := hP
                                  have hD : va_D A (mW mo ma cs I (va_up (va_up (va_up (va_up (va_up (va_up (va_up (va_up (va_up F 20 (upI (F 20) sd pa)) 22 (upI (F 22) sd (-1))) 23 (upI (F 23) sd 0)) 24 (upI (F 24) sd 0)) 21 (upI (F 21) sd (vp_nar .boolean (iz 1)).toInt)) 22 (upI (upI (F 22) sd (-1)) sd 1)) 23 (upI (upI (F 23) sd 0) sd ((20 * p0) + pz))) 24 (upI (upI (F 24) sd 0) sd (en - pz))) 20 (upI (upI (F 20) sd pa) sd en))) := hD
                                  have e_162 : (va_up (va_up (va_up (va_up (va_up (va_up (va_up (va_up (va_up F 20 (upI (F 20) sd pa)) 22 (upI (F 22) sd (-1))) 23 (upI (F 23) sd 0)) 24 (upI (F 24) sd 0)) 21 (upI (F 21) sd (vp_nar .boolean (iz 1)).toInt)) 22 (upI (upI (F 22) sd (-1)) sd 1)) 23 (upI (upI (F 23) sd 0) sd ((20 * p0) + pz))) 24 (upI (upI (F 24) sd 0) sd (en - pz))) 20 (upI (upI (F 20) sd pa) sd en)) 20 sd = en := upI_self _ _ _
                                  have e_163 : (va_up (va_up (va_up (va_up (va_up (va_up (va_up (va_up (va_up F 20 (upI (F 20) sd pa)) 22 (upI (F 22) sd (-1))) 23 (upI (F 23) sd 0)) 24 (upI (F 24) sd 0)) 21 (upI (F 21) sd (vp_nar .boolean (iz 1)).toInt)) 22 (upI (upI (F 22) sd (-1)) sd 1)) 23 (upI (upI (F 23) sd 0) sd ((20 * p0) + pz))) 24 (upI (upI (F 24) sd 0) sd (en - pz))) 20 (upI (upI (F 20) sd pa) sd en)) 22 sd = 1 := upI_self _ _ _
                                  have e_164 : (va_up (va_up (va_up (va_up (va_up (va_up (va_up (va_up (va_up F 20 (upI (F 20) sd pa)) 22 (upI (F 22) sd (-1))) 23 (upI (F 23) sd 0)) 24 (upI (F 24) sd 0)) 21 (upI (F 21) sd (vp_nar .boolean (iz 1)).toInt)) 22 (upI (upI (F 22) sd (-1)) sd 1)) 23 (upI (upI (F 23) sd 0) sd ((20 * p0) + pz))) 24 (upI (upI (F 24) sd 0) sd (en - pz))) 20 (upI (upI (F 20) sd pa) sd en)) 23 sd = (20 * p0) + pz := upI_self _ _ _
                                  have e_165 : (va_up (va_up (va_up (va_up (va_up (va_up (va_up (va_up (va_up F 20 (upI (F 20) sd pa)) 22 (upI (F 22) sd (-1))) 23 (upI (F 23) sd 0)) 24 (upI (F 24) sd 0)) 21 (upI (F 21) sd (vp_nar .boolean (iz 1)).toInt)) 22 (upI (upI (F 22) sd (-1)) sd 1)) 23 (upI (upI (F 23) sd 0) sd ((20 * p0) + pz))) 24 (upI (upI (F 24) sd 0) sd (en - pz))) 20 (upI (upI (F 20) sd pa) sd en)) 24 sd = en - pz := upI_self _ _ _
                                  have e_166 : (va_up (va_up (va_up (va_up (va_up (va_up (va_up (va_up (va_up F 20 (upI (F 20) sd pa)) 22 (upI (F 22) sd (-1))) 23 (upI (F 23) sd 0)) 24 (upI (F 24) sd 0)) 21 (upI (F 21) sd (vp_nar .boolean (iz 1)).toInt)) 22 (upI (upI (F 22) sd (-1)) sd 1)) 23 (upI (upI (F 23) sd 0) sd ((20 * p0) + pz))) 24 (upI (upI (F 24) sd 0) sd (en - pz))) 20 (upI (upI (F 20) sd pa) sd en)) 21 sd = (vp_nar .boolean (iz 1)).toInt := upI_self _ _ _
                                  rw [← hQe]
                                  exact mk_ret hx hb hr hlocks hP hD hK hS dX6_step_299 (⟨rfl, (mB_f (mB_f (mB_f (mB_f (mB_f (mB_f (mB_f (mB_f (mB_f hB 20 sd (by omega) (by omega)) 22 sd (by omega) (by omega)) 23 sd (by omega) (by omega)) 24 sd (by omega) (by omega)) 21 sd (iz_lo _) (iz_hi _)) 22 sd (by omega) (by omega)) 23 sd (by omega) (by omega)) 24 sd (by omega) (by omega)) 20 sd (by omega) (by omega)), (mfr.upF (mfr.upF (mfr.upF (mfr.upF (mfr.upF (mfr.upF (mfr.upF (mfr.upF (mfr.upF mfr.rf (by decide) _) (by decide) _) (by decide) _) (by decide) _) (by decide) _) (by decide) _) (by decide) _) (by decide) _) (by decide) _), (mo1.up (mo1.up (mo1.up (mo1.up (mo1.up (mo1.up (mo1.up (mo1.up (mo1.up mo1.rf 20 _) 22 _) 23 _) 24 _) 21 _) 22 _) 23 _) 24 _) 20 _), by omega, by omega, by omega⟩)
                                · skip
                                  refine lv_aload_n hx hb dX6_step_240 rfl (lv_at hl 4 rfl) ?_
                                  refine va_get (D := (dC, dI)) (ci := 6) (v := .ref (ma 4)) (C := RX6) (T := TX6) (N := 44) hx hb hts kt_X6 hown hK hP 0 rfl rfl 4 (by decide) (kx_word hG kq_04_msmall_16 rfl) (fun _ h9 => h9) rfl dX6_step_241 ?_
                                  refine lv_bipush (v := iz 20) hx hb dX6_step_244 (by decide) ?_
                                  refine lv_iload_n hx hb dX6_step_246 rfl (lv_at hl 6 rfl) ?_
                                  refine ki_imul hx hb dX6_step_247 ?_
                                  refine lv_iload_n hx hb dX6_step_248 rfl (lv_at hl 3 rfl) ?_
                                  refine ki_iadd hx hb dX6_step_249 ?_
                                  refine ki_iald (F := F 4) hx hb hK hP 3 2 rfl rfl (by omega) (by omega) (by decide) dX6_step_250 ?_
                                  have hbd_167 := hB.2 4 ((20 * p0) + pz)
                                  refine lv_bipush (v := iz 48) hx hb dX6_step_251 (by decide) ?_
                                  refine ki_icmp_ne (tgt := 262) hx hb dX6_step_253 (by decide) (by omega) (by omega) (by omega) (by omega) (fun c_168 => ?_) (fun c_168 => ?_)
                                  · skip
                                    refine lv_aload_n hx hb dX6_step_262 rfl (lv_at hl 4 rfl) ?_
                                    refine va_get (D := (dC, dI)) (ci := 6) (v := .ref (ma 22)) (C := RX6) (T := TX6) (N := 44) hx hb hts kt_X6 hown hK hP 0 rfl rfl 22 (by decide) (kx_word hG kq_05_morder_2 rfl) (fun _ h9 => h9) rfl dX6_step_263 ?_
                                    refine lv_iload_n hx hb dX6_step_266 rfl (lv_at hl 5 rfl) ?_
                                    refine lv_iconst (v := iz 1) hx hb dX6_step_267 (by decide) ?_
                                    refine ki_iast (F := upI (F 22) sd (-1)) hx hb hK hP hD hS 17 16 rfl rfl (by omega) (by omega) (by decide) dX6_step_268 (fun H locs hP hD hS => ?_)
                                    have hP : va_P (dC, dI) kxCl (mW mo ma cs I (va_up (va_up (va_up (va_up (va_up (va_up F 20 (upI (F 20) sd pa)) 22 (upI (F 22) sd (-1))) 23 (upI (F 23) sd 0)) 24 (upI (F 24) sd 0)) 21 (upI (F 21) sd (vp_nar .boolean (iz 1)).toInt)) 22 (upI (upI (F 22) sd (-1)) sd 1))) H := hP
                                    have hD : va_D A (mW mo ma cs I (va_up (va_up (va_up (va_up (va_up (va_up F 20 (upI (F 20) sd pa)) 22 (upI (F 22) sd (-1))) 23 (upI (F 23) sd 0)) 24 (upI (F 24) sd 0)) 21 (upI (F 21) sd (vp_nar .boolean (iz 1)).toInt)) 22 (upI (upI (F 22) sd (-1)) sd 1))) := hD
                                    refine lv_aload_n hx hb dX6_step_269 rfl (lv_at hl 4 rfl) ?_
                                    refine va_get (D := (dC, dI)) (ci := 6) (v := .ref (ma 23)) (C := RX6) (T := TX6) (N := 44) hx hb hts kt_X6 hown hK hP 0 rfl rfl 23 (by decide) (kx_word hG kq_05_morder_3 rfl) (fun _ h9 => h9) rfl dX6_step_270 ?_
                                    refine lv_iload_n hx hb dX6_step_273 rfl (lv_at hl 5 rfl) ?_
                                    refine lv_bipush (v := iz 20) hx hb dX6_step_274 (by decide) ?_
                                    refine lv_iload_n hx hb dX6_step_276 rfl (lv_at hl 6 rfl) ?_
                                    refine ki_imul hx hb dX6_step_277 ?_
                                    refine lv_iload_n hx hb dX6_step_278 rfl (lv_at hl 3 rfl) ?_
                                    refine ki_iadd hx hb dX6_step_279 ?_
                                    refine ki_iast (F := upI (F 23) sd 0) hx hb hK hP hD hS 18 17 rfl rfl (by omega) (by omega) (by decide) dX6_step_280 (fun H locs hP hD hS => ?_)
                                    have hP : va_P (dC, dI) kxCl (mW mo ma cs I (va_up (va_up (va_up (va_up (va_up (va_up (va_up F 20 (upI (F 20) sd pa)) 22 (upI (F 22) sd (-1))) 23 (upI (F 23) sd 0)) 24 (upI (F 24) sd 0)) 21 (upI (F 21) sd (vp_nar .boolean (iz 1)).toInt)) 22 (upI (upI (F 22) sd (-1)) sd 1)) 23 (upI (upI (F 23) sd 0) sd ((20 * p0) + pz)))) H := hP
                                    have hD : va_D A (mW mo ma cs I (va_up (va_up (va_up (va_up (va_up (va_up (va_up F 20 (upI (F 20) sd pa)) 22 (upI (F 22) sd (-1))) 23 (upI (F 23) sd 0)) 24 (upI (F 24) sd 0)) 21 (upI (F 21) sd (vp_nar .boolean (iz 1)).toInt)) 22 (upI (upI (F 22) sd (-1)) sd 1)) 23 (upI (upI (F 23) sd 0) sd ((20 * p0) + pz)))) := hD
                                    refine lv_aload_n hx hb dX6_step_281 rfl (lv_at hl 4 rfl) ?_
                                    refine va_get (D := (dC, dI)) (ci := 6) (v := .ref (ma 24)) (C := RX6) (T := TX6) (N := 44) hx hb hts kt_X6 hown hK hP 0 rfl rfl 24 (by decide) (kx_word hG kq_05_morder_4 rfl) (fun _ h9 => h9) rfl dX6_step_282 ?_
                                    refine lv_iload_n hx hb dX6_step_285 rfl (lv_at hl 5 rfl) ?_
                                    refine lv_iload hx hb dX6_step_286 (lv_at hl 0 rfl) ?_
                                    refine lv_iload_n hx hb dX6_step_288 rfl (lv_at hl 3 rfl) ?_
                                    refine ki_isub hx hb dX6_step_289 ?_
                                    refine ki_iast (F := upI (F 24) sd 0) hx hb hK hP hD hS 19 18 rfl rfl (by omega) (by omega) (by decide) dX6_step_290 (fun H locs hP hD hS => ?_)
                                    have hP : va_P (dC, dI) kxCl (mW mo ma cs I (va_up (va_up (va_up (va_up (va_up (va_up (va_up (va_up F 20 (upI (F 20) sd pa)) 22 (upI (F 22) sd (-1))) 23 (upI (F 23) sd 0)) 24 (upI (F 24) sd 0)) 21 (upI (F 21) sd (vp_nar .boolean (iz 1)).toInt)) 22 (upI (upI (F 22) sd (-1)) sd 1)) 23 (upI (upI (F 23) sd 0) sd ((20 * p0) + pz))) 24 (upI (upI (F 24) sd 0) sd (en - pz)))) H := hP
                                    have hD : va_D A (mW mo ma cs I (va_up (va_up (va_up (va_up (va_up (va_up (va_up (va_up F 20 (upI (F 20) sd pa)) 22 (upI (F 22) sd (-1))) 23 (upI (F 23) sd 0)) 24 (upI (F 24) sd 0)) 21 (upI (F 21) sd (vp_nar .boolean (iz 1)).toInt)) 22 (upI (upI (F 22) sd (-1)) sd 1)) 23 (upI (upI (F 23) sd 0) sd ((20 * p0) + pz))) 24 (upI (upI (F 24) sd 0) sd (en - pz)))) := hD
                                    refine lv_aload_n hx hb dX6_step_291 rfl (lv_at hl 4 rfl) ?_
                                    refine va_get (D := (dC, dI)) (ci := 6) (v := .ref (ma 20)) (C := RX6) (T := TX6) (N := 44) hx hb hts kt_X6 hown hK hP 0 rfl rfl 20 (by decide) (kx_word hG kq_05_morder_0 rfl) (fun _ h9 => h9) rfl dX6_step_292 ?_
                                    refine lv_iload_n hx hb dX6_step_295 rfl (lv_at hl 5 rfl) ?_
                                    refine lv_iload hx hb dX6_step_296 (lv_at hl 0 rfl) ?_
                                    refine ki_iast (F := upI (F 20) sd pa) hx hb hK hP hD hS 15 14 rfl rfl (by omega) (by omega) (by decide) dX6_step_298 (fun H locs hP hD hS => ?_)
                                    have hP : va_P (dC, dI) kxCl (mW mo ma cs I (va_up (va_up (va_up (va_up (va_up (va_up (va_up (va_up (va_up F 20 (upI (F 20) sd pa)) 22 (upI (F 22) sd (-1))) 23 (upI (F 23) sd 0)) 24 (upI (F 24) sd 0)) 21 (upI (F 21) sd (vp_nar .boolean (iz 1)).toInt)) 22 (upI (upI (F 22) sd (-1)) sd 1)) 23 (upI (upI (F 23) sd 0) sd ((20 * p0) + pz))) 24 (upI (upI (F 24) sd 0) sd (en - pz))) 20 (upI (upI (F 20) sd pa) sd en))) H := hP
                                    have hD : va_D A (mW mo ma cs I (va_up (va_up (va_up (va_up (va_up (va_up (va_up (va_up (va_up F 20 (upI (F 20) sd pa)) 22 (upI (F 22) sd (-1))) 23 (upI (F 23) sd 0)) 24 (upI (F 24) sd 0)) 21 (upI (F 21) sd (vp_nar .boolean (iz 1)).toInt)) 22 (upI (upI (F 22) sd (-1)) sd 1)) 23 (upI (upI (F 23) sd 0) sd ((20 * p0) + pz))) 24 (upI (upI (F 24) sd 0) sd (en - pz))) 20 (upI (upI (F 20) sd pa) sd en))) := hD
                                    have e_169 : (va_up (va_up (va_up (va_up (va_up (va_up (va_up (va_up (va_up F 20 (upI (F 20) sd pa)) 22 (upI (F 22) sd (-1))) 23 (upI (F 23) sd 0)) 24 (upI (F 24) sd 0)) 21 (upI (F 21) sd (vp_nar .boolean (iz 1)).toInt)) 22 (upI (upI (F 22) sd (-1)) sd 1)) 23 (upI (upI (F 23) sd 0) sd ((20 * p0) + pz))) 24 (upI (upI (F 24) sd 0) sd (en - pz))) 20 (upI (upI (F 20) sd pa) sd en)) 20 sd = en := upI_self _ _ _
                                    have e_170 : (va_up (va_up (va_up (va_up (va_up (va_up (va_up (va_up (va_up F 20 (upI (F 20) sd pa)) 22 (upI (F 22) sd (-1))) 23 (upI (F 23) sd 0)) 24 (upI (F 24) sd 0)) 21 (upI (F 21) sd (vp_nar .boolean (iz 1)).toInt)) 22 (upI (upI (F 22) sd (-1)) sd 1)) 23 (upI (upI (F 23) sd 0) sd ((20 * p0) + pz))) 24 (upI (upI (F 24) sd 0) sd (en - pz))) 20 (upI (upI (F 20) sd pa) sd en)) 22 sd = 1 := upI_self _ _ _
                                    have e_171 : (va_up (va_up (va_up (va_up (va_up (va_up (va_up (va_up (va_up F 20 (upI (F 20) sd pa)) 22 (upI (F 22) sd (-1))) 23 (upI (F 23) sd 0)) 24 (upI (F 24) sd 0)) 21 (upI (F 21) sd (vp_nar .boolean (iz 1)).toInt)) 22 (upI (upI (F 22) sd (-1)) sd 1)) 23 (upI (upI (F 23) sd 0) sd ((20 * p0) + pz))) 24 (upI (upI (F 24) sd 0) sd (en - pz))) 20 (upI (upI (F 20) sd pa) sd en)) 23 sd = (20 * p0) + pz := upI_self _ _ _
                                    have e_172 : (va_up (va_up (va_up (va_up (va_up (va_up (va_up (va_up (va_up F 20 (upI (F 20) sd pa)) 22 (upI (F 22) sd (-1))) 23 (upI (F 23) sd 0)) 24 (upI (F 24) sd 0)) 21 (upI (F 21) sd (vp_nar .boolean (iz 1)).toInt)) 22 (upI (upI (F 22) sd (-1)) sd 1)) 23 (upI (upI (F 23) sd 0) sd ((20 * p0) + pz))) 24 (upI (upI (F 24) sd 0) sd (en - pz))) 20 (upI (upI (F 20) sd pa) sd en)) 24 sd = en - pz := upI_self _ _ _
                                    have e_173 : (va_up (va_up (va_up (va_up (va_up (va_up (va_up (va_up (va_up F 20 (upI (F 20) sd pa)) 22 (upI (F 22) sd (-1))) 23 (upI (F 23) sd 0)) 24 (upI (F 24) sd 0)) 21 (upI (F 21) sd (vp_nar .boolean (iz 1)).toInt)) 22 (upI (upI (F 22) sd (-1)) sd 1)) 23 (upI (upI (F 23) sd 0) sd ((20 * p0) + pz))) 24 (upI (upI (F 24) sd 0) sd (en - pz))) 20 (upI (upI (F 20) sd pa) sd en)) 21 sd = (vp_nar .boolean (iz 1)).toInt := upI_self _ _ _
                                    rw [← hQe]
                                    exact mk_ret hx hb hr hlocks hP hD hK hS dX6_step_299 (⟨rfl, (mB_f (mB_f (mB_f (mB_f (mB_f (mB_f (mB_f (mB_f (mB_f hB 20 sd (by omega) (by omega)) 22 sd (by omega) (by omega)) 23 sd (by omega) (by omega)) 24 sd (by omega) (by omega)) 21 sd (iz_lo _) (iz_hi _)) 22 sd (by omega) (by omega)) 23 sd (by omega) (by omega)) 24 sd (by omega) (by omega)) 20 sd (by omega) (by omega)), (mfr.upF (mfr.upF (mfr.upF (mfr.upF (mfr.upF (mfr.upF (mfr.upF (mfr.upF (mfr.upF mfr.rf (by decide) _) (by decide) _) (by decide) _) (by decide) _) (by decide) _) (by decide) _) (by decide) _) (by decide) _) (by decide) _), (mo1.up (mo1.up (mo1.up (mo1.up (mo1.up (mo1.up (mo1.up (mo1.up (mo1.up mo1.rf 20 _) 22 _) 23 _) 24 _) 21 _) 22 _) 23 _) 24 _) 20 _), by omega, by omega, by omega⟩)
                                  · skip
                                    refine lv_iinc (v := iz (pz + 1)) (lv' := [(3, .int (iz (pz + 1))), (6, .int (iz en)), (5, .int (iz (F 4 ((20 * p0) + pa)))), (4, .int (iz ps)), (0, .ref mo), (1, .int (iz sd)), (2, .int (iz p0))]) hx hb dX6_step_256 hl (k := 3) rfl (iz_add pz 1) (by decide) rfl (fun ls hl => ?_)
                                    refine lv_goto (tgt := 234) hx hb dX6_step_259 (by decide) ?_
                                    exact ih234 (pz + 1) (by omega) (by omega) _ _ hP hD hS ls (lv_sub hl [1, 2, 3, 0, 4, 5, 6] rfl)
                            exact lp234 _ pa (by omega) (Nat.lt_succ_self _) _ _ hP hD hS ls (lv_sub hl [0, 1, 2, 3, 4, 5, 6] rfl)
                          · skip
                            refine lv_iinc (v := iz (en + 1)) (lv' := [(6, .int (iz (en + 1))), (5, .int (iz (F 4 ((20 * p0) + pa)))), (4, .int (iz ps)), (3, .int (iz pa)), (0, .ref mo), (1, .int (iz sd)), (2, .int (iz p0))]) hx hb dX6_step_228 hl (k := 0) rfl (iz_add en 1) (by decide) rfl (fun ls hl => ?_)
                            refine lv_goto (tgt := 192) hx hb dX6_step_231 (by decide) ?_
                            exact ih192 (en + 1) (by omega) (by omega) _ _ hP hD hS ls (lv_sub hl [0, 1, 2, 3, 4, 5, 6] rfl)
                  exact lp192 _ (pa + 1) (by omega) (Nat.lt_succ_self _) _ _ hP hD hS ls (lv_sub hl [0, 1, 2, 3, 4, 5, 6] rfl)
                · skip
                  refine lv_aload_n hx hb dX6_step_159 rfl (lv_at hl 3 rfl) ?_
                  refine va_get (D := (dC, dI)) (ci := 6) (v := .ref (ma 22)) (C := RX6) (T := TX6) (N := 44) hx hb hts kt_X6 hown hK hP 0 rfl rfl 22 (by decide) (kx_word hG kq_05_morder_2 rfl) (fun _ h9 => h9) rfl dX6_step_160 ?_
                  refine lv_iload_n hx hb dX6_step_163 rfl (lv_at hl 4 rfl) ?_
                  refine lv_iconst (v := iz 2) hx hb dX6_step_164 (by decide) ?_
                  refine ki_iast (F := upI (F 22) sd (-1)) hx hb hK hP hD hS 17 16 rfl rfl (by omega) (by omega) (by decide) dX6_step_165 (fun H locs hP hD hS => ?_)
                  have hP : va_P (dC, dI) kxCl (mW mo ma cs I (va_up (va_up (va_up (va_up (va_up (va_up F 20 (upI (F 20) sd pa)) 22 (upI (F 22) sd (-1))) 23 (upI (F 23) sd 0)) 24 (upI (F 24) sd 0)) 21 (upI (F 21) sd (vp_nar .boolean (iz 1)).toInt)) 22 (upI (upI (F 22) sd (-1)) sd 2))) H := hP
                  have hD : va_D A (mW mo ma cs I (va_up (va_up (va_up (va_up (va_up (va_up F 20 (upI (F 20) sd pa)) 22 (upI (F 22) sd (-1))) 23 (upI (F 23) sd 0)) 24 (upI (F 24) sd 0)) 21 (upI (F 21) sd (vp_nar .boolean (iz 1)).toInt)) 22 (upI (upI (F 22) sd (-1)) sd 2))) := hD
                  refine lv_aload_n hx hb dX6_step_166 rfl (lv_at hl 3 rfl) ?_
                  refine va_get (D := (dC, dI)) (ci := 6) (v := .ref (ma 23)) (C := RX6) (T := TX6) (N := 44) hx hb hts kt_X6 hown hK hP 0 rfl rfl 23 (by decide) (kx_word hG kq_05_morder_3 rfl) (fun _ h9 => h9) rfl dX6_step_167 ?_
                  refine lv_iload_n hx hb dX6_step_170 rfl (lv_at hl 4 rfl) ?_
                  refine lv_iload hx hb dX6_step_171 (lv_at hl 0 rfl) ?_
                  refine mk_calls (As := [.int (iz (F 4 ((20 * p0) + pa)))]) (rest := [.int (iz sd), .ref (ma 23)]) ⟨hx, hb, hml, hown, hts⟩ (k_letterOf l dC dI (F 4 ((20 * p0) + pa)) H.size (by omega) (by omega)) (va_cwS 1 hts (kx_gS kq_05_morder_5 kq_05_morder_6 kq_04_msmall_6 kq_05_morder_7 rfl) rfl rfl rfl (by decide +kernel) ⟨Nat.le_of_ble_eq_true rfl, Nat.le_of_ble_eq_true rfl⟩) hP hD hK hG hZ hS hA rfl hl.1 rfl (Nat.le_of_ble_eq_true rfl) dX6_step_173 ⟨Nat.le_of_ble_eq_true rfl, Nat.le_of_ble_eq_true rfl⟩ (fun z_174 H locs hq_175 hP hS => ?_)
                  try dsimp only at hq_175
                  refine ki_iast (F := upI (F 23) sd 0) hx hb hK hP hD hS 18 17 rfl rfl (by omega) (by omega) (by decide) dX6_step_176 (fun H locs hP hD hS => ?_)
                  have hP : va_P (dC, dI) kxCl (mW mo ma cs I (va_up (va_up (va_up (va_up (va_up (va_up (va_up F 20 (upI (F 20) sd pa)) 22 (upI (F 22) sd (-1))) 23 (upI (F 23) sd 0)) 24 (upI (F 24) sd 0)) 21 (upI (F 21) sd (vp_nar .boolean (iz 1)).toInt)) 22 (upI (upI (F 22) sd (-1)) sd 2)) 23 (upI (upI (F 23) sd 0) sd z_174))) H := hP
                  have hD : va_D A (mW mo ma cs I (va_up (va_up (va_up (va_up (va_up (va_up (va_up F 20 (upI (F 20) sd pa)) 22 (upI (F 22) sd (-1))) 23 (upI (F 23) sd 0)) 24 (upI (F 24) sd 0)) 21 (upI (F 21) sd (vp_nar .boolean (iz 1)).toInt)) 22 (upI (upI (F 22) sd (-1)) sd 2)) 23 (upI (upI (F 23) sd 0) sd z_174))) := hD
                  refine lv_aload_n hx hb dX6_step_177 rfl (lv_at hl 3 rfl) ?_
                  refine va_get (D := (dC, dI)) (ci := 6) (v := .ref (ma 20)) (C := RX6) (T := TX6) (N := 44) hx hb hts kt_X6 hown hK hP 0 rfl rfl 20 (by decide) (kx_word hG kq_05_morder_0 rfl) (fun _ h9 => h9) rfl dX6_step_178 ?_
                  refine lv_iload_n hx hb dX6_step_181 rfl (lv_at hl 4 rfl) ?_
                  refine lv_iload_n hx hb dX6_step_182 rfl (lv_at hl 2 rfl) ?_
                  refine lv_iconst (v := iz 1) hx hb dX6_step_183 (by decide) ?_
                  refine ki_iadd hx hb dX6_step_184 ?_
                  refine ki_iast (F := upI (F 20) sd pa) hx hb hK hP hD hS 15 14 rfl rfl (by omega) (by omega) (by decide) dX6_step_185 (fun H locs hP hD hS => ?_)
                  have hP : va_P (dC, dI) kxCl (mW mo ma cs I (va_up (va_up (va_up (va_up (va_up (va_up (va_up (va_up F 20 (upI (F 20) sd pa)) 22 (upI (F 22) sd (-1))) 23 (upI (F 23) sd 0)) 24 (upI (F 24) sd 0)) 21 (upI (F 21) sd (vp_nar .boolean (iz 1)).toInt)) 22 (upI (upI (F 22) sd (-1)) sd 2)) 23 (upI (upI (F 23) sd 0) sd z_174)) 20 (upI (upI (F 20) sd pa) sd (pa + 1)))) H := hP
                  have hD : va_D A (mW mo ma cs I (va_up (va_up (va_up (va_up (va_up (va_up (va_up (va_up F 20 (upI (F 20) sd pa)) 22 (upI (F 22) sd (-1))) 23 (upI (F 23) sd 0)) 24 (upI (F 24) sd 0)) 21 (upI (F 21) sd (vp_nar .boolean (iz 1)).toInt)) 22 (upI (upI (F 22) sd (-1)) sd 2)) 23 (upI (upI (F 23) sd 0) sd z_174)) 20 (upI (upI (F 20) sd pa) sd (pa + 1)))) := hD
                  have e_176 : (va_up (va_up (va_up (va_up (va_up (va_up (va_up (va_up F 20 (upI (F 20) sd pa)) 22 (upI (F 22) sd (-1))) 23 (upI (F 23) sd 0)) 24 (upI (F 24) sd 0)) 21 (upI (F 21) sd (vp_nar .boolean (iz 1)).toInt)) 22 (upI (upI (F 22) sd (-1)) sd 2)) 23 (upI (upI (F 23) sd 0) sd z_174)) 20 (upI (upI (F 20) sd pa) sd (pa + 1))) 20 sd = pa + 1 := upI_self _ _ _
                  have e_177 : (va_up (va_up (va_up (va_up (va_up (va_up (va_up (va_up F 20 (upI (F 20) sd pa)) 22 (upI (F 22) sd (-1))) 23 (upI (F 23) sd 0)) 24 (upI (F 24) sd 0)) 21 (upI (F 21) sd (vp_nar .boolean (iz 1)).toInt)) 22 (upI (upI (F 22) sd (-1)) sd 2)) 23 (upI (upI (F 23) sd 0) sd z_174)) 20 (upI (upI (F 20) sd pa) sd (pa + 1))) 22 sd = 2 := upI_self _ _ _
                  have e_178 : (va_up (va_up (va_up (va_up (va_up (va_up (va_up (va_up F 20 (upI (F 20) sd pa)) 22 (upI (F 22) sd (-1))) 23 (upI (F 23) sd 0)) 24 (upI (F 24) sd 0)) 21 (upI (F 21) sd (vp_nar .boolean (iz 1)).toInt)) 22 (upI (upI (F 22) sd (-1)) sd 2)) 23 (upI (upI (F 23) sd 0) sd z_174)) 20 (upI (upI (F 20) sd pa) sd (pa + 1))) 23 sd = z_174 := upI_self _ _ _
                  have e_179 : (va_up (va_up (va_up (va_up (va_up (va_up (va_up (va_up F 20 (upI (F 20) sd pa)) 22 (upI (F 22) sd (-1))) 23 (upI (F 23) sd 0)) 24 (upI (F 24) sd 0)) 21 (upI (F 21) sd (vp_nar .boolean (iz 1)).toInt)) 22 (upI (upI (F 22) sd (-1)) sd 2)) 23 (upI (upI (F 23) sd 0) sd z_174)) 20 (upI (upI (F 20) sd pa) sd (pa + 1))) 24 sd = 0 := upI_self _ _ _
                  have e_180 : (va_up (va_up (va_up (va_up (va_up (va_up (va_up (va_up F 20 (upI (F 20) sd pa)) 22 (upI (F 22) sd (-1))) 23 (upI (F 23) sd 0)) 24 (upI (F 24) sd 0)) 21 (upI (F 21) sd (vp_nar .boolean (iz 1)).toInt)) 22 (upI (upI (F 22) sd (-1)) sd 2)) 23 (upI (upI (F 23) sd 0) sd z_174)) 20 (upI (upI (F 20) sd pa) sd (pa + 1))) 21 sd = (vp_nar .boolean (iz 1)).toInt := upI_self _ _ _
                  rw [← hQe]
                  exact mk_ret hx hb hr hlocks hP hD hK hS dX6_step_186 (⟨rfl, (mB_f (mB_f (mB_f (mB_f (mB_f (mB_f (mB_f (mB_f hB 20 sd (by omega) (by omega)) 22 sd (by omega) (by omega)) 23 sd (by omega) (by omega)) 24 sd (by omega) (by omega)) 21 sd (iz_lo _) (iz_hi _)) 22 sd (by omega) (by omega)) 23 sd (by omega) (by omega)) 20 sd (by omega) (by omega)), (mfr.upF (mfr.upF (mfr.upF (mfr.upF (mfr.upF (mfr.upF (mfr.upF (mfr.upF mfr.rf (by decide) _) (by decide) _) (by decide) _) (by decide) _) (by decide) _) (by decide) _) (by decide) _) (by decide) _), (mo1.up (mo1.up (mo1.up (mo1.up (mo1.up (mo1.up (mo1.up (mo1.up mo1.rf 20 _) 22 _) 23 _) 24 _) 21 _) 22 _) 23 _) 20 _), by omega, by omega, by omega⟩)
              · skip
                refine lv_aload_n hx hb dX6_step_123 rfl (lv_at hl 2 rfl) ?_
                refine va_get (D := (dC, dI)) (ci := 6) (v := .ref (ma 22)) (C := RX6) (T := TX6) (N := 44) hx hb hts kt_X6 hown hK hP 0 rfl rfl 22 (by decide) (kx_word hG kq_05_morder_2 rfl) (fun _ h9 => h9) rfl dX6_step_124 ?_
                refine lv_iload_n hx hb dX6_step_127 rfl (lv_at hl 3 rfl) ?_
                refine lv_iconst (v := iz 0) hx hb dX6_step_128 (by decide) ?_
                refine ki_iast (F := upI (F 22) sd (-1)) hx hb hK hP hD hS 17 16 rfl rfl (by omega) (by omega) (by decide) dX6_step_129 (fun H locs hP hD hS => ?_)
                have hP : va_P (dC, dI) kxCl (mW mo ma cs I (va_up (va_up (va_up (va_up (va_up F 20 (upI (F 20) sd pa)) 22 (upI (F 22) sd (-1))) 23 (upI (F 23) sd 0)) 24 (upI (F 24) sd 0)) 22 (upI (upI (F 22) sd (-1)) sd 0))) H := hP
                have hD : va_D A (mW mo ma cs I (va_up (va_up (va_up (va_up (va_up F 20 (upI (F 20) sd pa)) 22 (upI (F 22) sd (-1))) 23 (upI (F 23) sd 0)) 24 (upI (F 24) sd 0)) 22 (upI (upI (F 22) sd (-1)) sd 0))) := hD
                have e_181 : (va_up (va_up (va_up (va_up (va_up F 20 (upI (F 20) sd pa)) 22 (upI (F 22) sd (-1))) 23 (upI (F 23) sd 0)) 24 (upI (F 24) sd 0)) 22 (upI (upI (F 22) sd (-1)) sd 0)) 20 sd = pa := upI_self _ _ _
                have e_182 : (va_up (va_up (va_up (va_up (va_up F 20 (upI (F 20) sd pa)) 22 (upI (F 22) sd (-1))) 23 (upI (F 23) sd 0)) 24 (upI (F 24) sd 0)) 22 (upI (upI (F 22) sd (-1)) sd 0)) 22 sd = 0 := upI_self _ _ _
                have e_183 : (va_up (va_up (va_up (va_up (va_up F 20 (upI (F 20) sd pa)) 22 (upI (F 22) sd (-1))) 23 (upI (F 23) sd 0)) 24 (upI (F 24) sd 0)) 22 (upI (upI (F 22) sd (-1)) sd 0)) 23 sd = 0 := upI_self _ _ _
                have e_184 : (va_up (va_up (va_up (va_up (va_up F 20 (upI (F 20) sd pa)) 22 (upI (F 22) sd (-1))) 23 (upI (F 23) sd 0)) 24 (upI (F 24) sd 0)) 22 (upI (upI (F 22) sd (-1)) sd 0)) 24 sd = 0 := upI_self _ _ _
                rw [← hQe]
                exact mk_ret hx hb hr hlocks hP hD hK hS dX6_step_130 (⟨rfl, (mB_f (mB_f (mB_f (mB_f (mB_f hB 20 sd (by omega) (by omega)) 22 sd (by omega) (by omega)) 23 sd (by omega) (by omega)) 24 sd (by omega) (by omega)) 22 sd (by omega) (by omega)), (mfr.upF (mfr.upF (mfr.upF (mfr.upF (mfr.upF mfr.rf (by decide) _) (by decide) _) (by decide) _) (by decide) _) (by decide) _), (mo1.up (mo1.up (mo1.up (mo1.up (mo1.up mo1.rf 20 _) 22 _) 23 _) 24 _) 22 _), by omega, by omega, by omega⟩)
        · skip
          have e_185 : (va_up (va_up (va_up (va_up F 20 (upI (F 20) sd pa)) 22 (upI (F 22) sd (-1))) 23 (upI (F 23) sd 0)) 24 (upI (F 24) sd 0)) 20 sd = pa := upI_self _ _ _
          have e_186 : (va_up (va_up (va_up (va_up F 20 (upI (F 20) sd pa)) 22 (upI (F 22) sd (-1))) 23 (upI (F 23) sd 0)) 24 (upI (F 24) sd 0)) 22 sd = (-1) := upI_self _ _ _
          have e_187 : (va_up (va_up (va_up (va_up F 20 (upI (F 20) sd pa)) 22 (upI (F 22) sd (-1))) 23 (upI (F 23) sd 0)) 24 (upI (F 24) sd 0)) 23 sd = 0 := upI_self _ _ _
          have e_188 : (va_up (va_up (va_up (va_up F 20 (upI (F 20) sd pa)) 22 (upI (F 22) sd (-1))) 23 (upI (F 23) sd 0)) 24 (upI (F 24) sd 0)) 24 sd = 0 := upI_self _ _ _
          rw [← hQe]
          exact mk_ret hx hb hr hlocks hP hD hK hS dX6_step_101 (⟨rfl, (mB_f (mB_f (mB_f (mB_f hB 20 sd (by omega) (by omega)) 22 sd (by omega) (by omega)) 23 sd (by omega) (by omega)) 24 sd (by omega) (by omega)), (mfr.upF (mfr.upF (mfr.upF (mfr.upF mfr.rf (by decide) _) (by decide) _) (by decide) _) (by decide) _), (mo1.up (mo1.up (mo1.up (mo1.up mo1.rf 20 _) 22 _) 23 _) 24 _), by omega, by omega, by omega⟩)
      · skip
        refine lv_aload_n hx hb dX6_step_20 rfl (lv_at hl 2 rfl) ?_
        refine va_get (D := (dC, dI)) (ci := 6) (v := .ref (ma 4)) (C := RX6) (T := TX6) (N := 44) hx hb hts kt_X6 hown hK hP 0 rfl rfl 4 (by decide) (kx_word hG kq_04_msmall_16 rfl) (fun _ h9 => h9) rfl dX6_step_21 ?_
        refine lv_bipush (v := iz 20) hx hb dX6_step_24 (by decide) ?_
        refine lv_iload_n hx hb dX6_step_26 rfl (lv_at hl 4 rfl) ?_
        refine ki_imul hx hb dX6_step_27 ?_
        refine lv_iload_n hx hb dX6_step_28 rfl (lv_at hl 1 rfl) ?_
        refine ki_iadd hx hb dX6_step_29 ?_
        refine ki_iald (F := F 4) hx hb hK hP 3 2 rfl rfl (by omega) (by omega) (by decide) dX6_step_30 ?_
        have hbd_189 := hB.2 4 ((20 * p0) + pa)
        refine mk_calls (As := [.int (iz (F 4 ((20 * p0) + pa)))]) (rest := []) ⟨hx, hb, hml, hown, hts⟩ (k_letterOf l dC dI (F 4 ((20 * p0) + pa)) H.size (by omega) (by omega)) (va_cwS 1 hts (kx_gS kq_05_morder_5 kq_05_morder_6 kq_04_msmall_6 kq_05_morder_7 rfl) rfl rfl rfl (by decide +kernel) ⟨Nat.le_of_ble_eq_true rfl, Nat.le_of_ble_eq_true rfl⟩) hP hD hK hG hZ hS hA rfl hl.1 rfl (Nat.le_of_ble_eq_true rfl) dX6_step_31 ⟨Nat.le_of_ble_eq_true rfl, Nat.le_of_ble_eq_true rfl⟩ (fun z_190 H locs hq_191 hP hS => ?_)
        try dsimp only at hq_191
        refine ki_if_ne (tgt := 63) hx hb dX6_step_34 (by decide) (by omega) (by omega) (fun c_192 => ?_) (fun c_192 => ?_)
        · skip
          refine lv_aload_n hx hb dX6_step_63 rfl (lv_at hl 2 rfl) ?_
          refine va_get (D := (dC, dI)) (ci := 6) (v := .ref (ma 20)) (C := RX6) (T := TX6) (N := 44) hx hb hts kt_X6 hown hK hP 0 rfl rfl 20 (by decide) (kx_word hG kq_05_morder_0 rfl) (fun _ h9 => h9) rfl dX6_step_64 ?_
          refine lv_iload_n hx hb dX6_step_67 rfl (lv_at hl 3 rfl) ?_
          refine lv_iload_n hx hb dX6_step_68 rfl (lv_at hl 1 rfl) ?_
          refine ki_iast (F := F 20) hx hb hK hP hD hS 15 14 rfl rfl (by omega) (by omega) (by decide) dX6_step_69 (fun H locs hP hD hS => ?_)
          have hP : va_P (dC, dI) kxCl (mW mo ma cs I (va_up F 20 (upI (F 20) sd pa))) H := hP
          have hD : va_D A (mW mo ma cs I (va_up F 20 (upI (F 20) sd pa))) := hD
          refine lv_aload_n hx hb dX6_step_70 rfl (lv_at hl 2 rfl) ?_
          refine va_get (D := (dC, dI)) (ci := 6) (v := .ref (ma 22)) (C := RX6) (T := TX6) (N := 44) hx hb hts kt_X6 hown hK hP 0 rfl rfl 22 (by decide) (kx_word hG kq_05_morder_2 rfl) (fun _ h9 => h9) rfl dX6_step_71 ?_
          refine lv_iload_n hx hb dX6_step_74 rfl (lv_at hl 3 rfl) ?_
          refine lv_iconst (v := iz (-1)) hx hb dX6_step_75 (by decide) ?_
          refine ki_iast (F := F 22) hx hb hK hP hD hS 17 16 rfl rfl (by omega) (by omega) (by decide) dX6_step_76 (fun H locs hP hD hS => ?_)
          have hP : va_P (dC, dI) kxCl (mW mo ma cs I (va_up (va_up F 20 (upI (F 20) sd pa)) 22 (upI (F 22) sd (-1)))) H := hP
          have hD : va_D A (mW mo ma cs I (va_up (va_up F 20 (upI (F 20) sd pa)) 22 (upI (F 22) sd (-1)))) := hD
          refine lv_aload_n hx hb dX6_step_77 rfl (lv_at hl 2 rfl) ?_
          refine va_get (D := (dC, dI)) (ci := 6) (v := .ref (ma 23)) (C := RX6) (T := TX6) (N := 44) hx hb hts kt_X6 hown hK hP 0 rfl rfl 23 (by decide) (kx_word hG kq_05_morder_3 rfl) (fun _ h9 => h9) rfl dX6_step_78 ?_
          refine lv_iload_n hx hb dX6_step_81 rfl (lv_at hl 3 rfl) ?_
          refine lv_iconst (v := iz 0) hx hb dX6_step_82 (by decide) ?_
          refine ki_iast (F := F 23) hx hb hK hP hD hS 18 17 rfl rfl (by omega) (by omega) (by decide) dX6_step_83 (fun H locs hP hD hS => ?_)
          have hP : va_P (dC, dI) kxCl (mW mo ma cs I (va_up (va_up (va_up F 20 (upI (F 20) sd pa)) 22 (upI (F 22) sd (-1))) 23 (upI (F 23) sd 0))) H := hP
          have hD : va_D A (mW mo ma cs I (va_up (va_up (va_up F 20 (upI (F 20) sd pa)) 22 (upI (F 22) sd (-1))) 23 (upI (F 23) sd 0))) := hD
          refine lv_aload_n hx hb dX6_step_84 rfl (lv_at hl 2 rfl) ?_
          refine va_get (D := (dC, dI)) (ci := 6) (v := .ref (ma 24)) (C := RX6) (T := TX6) (N := 44) hx hb hts kt_X6 hown hK hP 0 rfl rfl 24 (by decide) (kx_word hG kq_05_morder_4 rfl) (fun _ h9 => h9) rfl dX6_step_85 ?_
          refine lv_iload_n hx hb dX6_step_88 rfl (lv_at hl 3 rfl) ?_
          refine lv_iconst (v := iz 0) hx hb dX6_step_89 (by decide) ?_
          refine ki_iast (F := F 24) hx hb hK hP hD hS 19 18 rfl rfl (by omega) (by omega) (by decide) dX6_step_90 (fun H locs hP hD hS => ?_)
          have hP : va_P (dC, dI) kxCl (mW mo ma cs I (va_up (va_up (va_up (va_up F 20 (upI (F 20) sd pa)) 22 (upI (F 22) sd (-1))) 23 (upI (F 23) sd 0)) 24 (upI (F 24) sd 0))) H := hP
          have hD : va_D A (mW mo ma cs I (va_up (va_up (va_up (va_up F 20 (upI (F 20) sd pa)) 22 (upI (F 22) sd (-1))) 23 (upI (F 23) sd 0)) 24 (upI (F 24) sd 0))) := hD
          refine lv_iload_n hx hb dX6_step_91 rfl (lv_at hl 1 rfl) ?_
          refine lv_aload_n hx hb dX6_step_92 rfl (lv_at hl 2 rfl) ?_
          refine va_get (D := (dC, dI)) (ci := 6) (v := .ref (ma 5)) (C := RX6) (T := TX6) (N := 44) hx hb hts kt_X6 hown hK hP 0 rfl rfl 5 (by decide) (kx_word hG kq_04_msmall_15 rfl) (fun _ h9 => h9) rfl dX6_step_93 ?_
          refine lv_iload_n hx hb dX6_step_96 rfl (lv_at hl 4 rfl) ?_
          refine ki_iald (F := F 5) hx hb hK hP 4 3 rfl rfl (by omega) (by omega) (by decide) dX6_step_97 ?_
          refine ki_icmp_ne (tgt := 102) hx hb dX6_step_98 (by decide) (by omega) (by omega) (by omega) (by omega) (fun c_193 => ?_) (fun c_193 => ?_)
          · skip
            refine lv_iload hx hb dX6_step_102 (lv_at hl 0 rfl) ?_
            refine ki_if_eq (tgt := 131) hx hb dX6_step_104 (by decide) (by omega) (by omega) (fun c_194 => ?_) (fun c_194 => ?_)
            · skip
              refine lv_aload_n hx hb dX6_step_131 rfl (lv_at hl 2 rfl) ?_
              refine va_get (D := (dC, dI)) (ci := 6) (v := .ref (ma 21)) (C := RX6) (T := TX6) (N := 44) hx hb hts kt_X6 hown hK hP 0 rfl rfl 21 (by decide) (kx_word hG kq_05_morder_1 rfl) (fun _ h9 => h9) rfl dX6_step_132 ?_
              refine lv_iload_n hx hb dX6_step_135 rfl (lv_at hl 3 rfl) ?_
              refine lv_iconst (v := iz 1) hx hb dX6_step_136 (by decide) ?_
              refine ki_zast (F := F 21) hx hb hK hP hD hS 16 15 rfl rfl (by omega) (by omega) (by decide) dX6_step_137 (fun H locs hP hD hS => ?_)
              have hP : va_P (dC, dI) kxCl (mW mo ma cs I (va_up (va_up (va_up (va_up (va_up F 20 (upI (F 20) sd pa)) 22 (upI (F 22) sd (-1))) 23 (upI (F 23) sd 0)) 24 (upI (F 24) sd 0)) 21 (upI (F 21) sd (vp_nar .boolean (iz 1)).toInt))) H := hP
              have hD : va_D A (mW mo ma cs I (va_up (va_up (va_up (va_up (va_up F 20 (upI (F 20) sd pa)) 22 (upI (F 22) sd (-1))) 23 (upI (F 23) sd 0)) 24 (upI (F 24) sd 0)) 21 (upI (F 21) sd (vp_nar .boolean (iz 1)).toInt))) := hD
              refine lv_aload_n hx hb dX6_step_138 rfl (lv_at hl 2 rfl) ?_
              refine va_get (D := (dC, dI)) (ci := 6) (v := .ref (ma 4)) (C := RX6) (T := TX6) (N := 44) hx hb hts kt_X6 hown hK hP 0 rfl rfl 4 (by decide) (kx_word hG kq_04_msmall_16 rfl) (fun _ h9 => h9) rfl dX6_step_139 ?_
              refine lv_bipush (v := iz 20) hx hb dX6_step_142 (by decide) ?_
              refine lv_iload_n hx hb dX6_step_144 rfl (lv_at hl 4 rfl) ?_
              refine ki_imul hx hb dX6_step_145 ?_
              refine lv_iload_n hx hb dX6_step_146 rfl (lv_at hl 1 rfl) ?_
              refine ki_iadd hx hb dX6_step_147 ?_
              refine ki_iald (F := F 4) hx hb hK hP 3 2 rfl rfl (by omega) (by omega) (by decide) dX6_step_148 ?_
              refine lv_istore (lv' := [(5, .int (iz (F 4 ((20 * p0) + pa)))), (4, .int (iz ps)), (3, .int (iz pa)), (0, .ref mo), (1, .int (iz sd)), (2, .int (iz p0))]) hx hb dX6_step_149 hl (by decide) rfl (fun ls hl => ?_)
              refine lv_iload hx hb dX6_step_151 (lv_at hl 0 rfl) ?_
              refine mk_calls (As := [.int (iz (F 4 ((20 * p0) + pa)))]) (rest := []) ⟨hx, hb, hml, hown, hts⟩ (k_letterOf l dC dI (F 4 ((20 * p0) + pa)) H.size (by omega) (by omega)) (va_cwS 1 hts (kx_gS kq_05_morder_5 kq_05_morder_6 kq_04_msmall_6 kq_05_morder_7 rfl) rfl rfl rfl (by decide +kernel) ⟨Nat.le_of_ble_eq_true rfl, Nat.le_of_ble_eq_true rfl⟩) hP hD hK hG hZ hS hA rfl hl.1 rfl (Nat.le_of_ble_eq_true rfl) dX6_step_153 ⟨Nat.le_of_ble_eq_true rfl, Nat.le_of_ble_eq_true rfl⟩ (fun z_195 H locs hq_196 hP hS => ?_)
              try dsimp only at hq_196
              refine ki_if_le (tgt := 187) hx hb dX6_step_156 (by decide) (by omega) (by omega) (fun c_197 => ?_) (fun c_197 => ?_)
              · skip
                refine lv_iload_n hx hb dX6_step_187 rfl (lv_at hl 2 rfl) ?_
                refine lv_iconst (v := iz 1) hx hb dX6_step_188 (by decide) ?_
                refine ki_iadd hx hb dX6_step_189 ?_
                refine lv_istore (lv' := [(6, .int (iz (pa + 1))), (5, .int (iz (F 4 ((20 * p0) + pa)))), (4, .int (iz ps)), (3, .int (iz pa)), (0, .ref mo), (1, .int (iz sd)), (2, .int (iz p0))]) hx hb dX6_step_190 hl (by decide) rfl (fun ls hl => ?_)
                have lp192 : ∀ (n : Nat) (en : Int), ((pa + 1 ≤ en ∧ en ≤ F 5 p0)) → (F 5 p0 - en).toNat < n → ∀ (H : Heap) (locs : List Loc), va_P (dC, dI) kxCl (mW mo ma cs I (va_up (va_up (va_up (va_up (va_up F 20 (upI (F 20) sd pa)) 22 (upI (F 22) sd (-1))) 23 (upI (F 23) sd 0)) 24 (upI (F 24) sd 0)) 21 (upI (F 21) sd (vp_nar .boolean (iz 1)).toInt))) H → va_D A (mW mo ma cs I (va_up (va_up (va_up (va_up (va_up F 20 (upI (F 20) sd pa)) 22 (upI (F 22) sd (-1))) 23 (upI (F 23) sd 0)) 24 (upI (F 24) sd 0)) 21 (upI (F 21) sd (vp_nar .boolean (iz 1)).toInt))) → va_S A s.heap H locs → ∀ ls : Array Slot, lv_has ls 7 [(6, .int (iz en)), (5, .int (iz (F 4 ((20 * p0) + pa)))), (4, .int (iz ps)), (3, .int (iz pa)), (0, .ref mo), (1, .int (iz sd)), (2, .int (iz p0))] → W p l e (headSpec [.code yX6_step cX6_step 7 none] ({ frames := 1, cells := 0, slots := 0, locals := 21 })).room s m ([.ref mo, .int (iz sd), .int (iz p0)] : List Value).toArray below meth c H locs 0 0 QQ (F0 m 192 ls []) := by
                  intro n
                  induction n with
                  | zero => intro en hinv hm; exact absurd hm (Nat.not_lt_zero _)
                  | succ n ih192 =>
                    intro en hinv hm H locs hP hD hS ls hl
                    have hen := hinv
                    refine lv_aload_n hx hb dX6_step_192 rfl (lv_at hl 4 rfl) ?_
                    refine va_get (D := (dC, dI)) (ci := 6) (v := .int (iz (I 14))) (C := RX6) (T := TX6) (N := 44) hx hb hts kt_X6 hown hK hP 0 rfl rfl 14 (by decide) (kx_word hG kq_04_msmall_17 rfl) (fun _ h9 => h9) rfl dX6_step_193 ?_
                    have hbd_198 := hB.1 14
                    refine ki_if_eq (tgt := 234) hx hb dX6_step_196 (by decide) (by omega) (by omega) (fun c_199 => ?_) (fun c_199 => ?_)
                    · skip
                      have lp234 : ∀ (n : Nat) (pz : Int), ((pa ≤ pz ∧ pz ≤ en)) → (en - pz).toNat < n → ∀ (H : Heap) (locs : List Loc), va_P (dC, dI) kxCl (mW mo ma cs I (va_up (va_up (va_up (va_up (va_up F 20 (upI (F 20) sd pa)) 22 (upI (F 22) sd (-1))) 23 (upI (F 23) sd 0)) 24 (upI (F 24) sd 0)) 21 (upI (F 21) sd (vp_nar .boolean (iz 1)).toInt))) H → va_D A (mW mo ma cs I (va_up (va_up (va_up (va_up (va_up F 20 (upI (F 20) sd pa)) 22 (upI (F 22) sd (-1))) 23 (upI (F 23) sd 0)) 24 (upI (F 24) sd 0)) 21 (upI (F 21) sd (vp_nar .boolean (iz 1)).toInt))) → va_S A s.heap H locs → ∀ ls : Array Slot, lv_has ls 7 [(6, .int (iz en)), (5, .int (iz (F 4 ((20 * p0) + pa)))), (4, .int (iz ps)), (3, .int (iz pz)), (0, .ref mo), (1, .int (iz sd)), (2, .int (iz p0))] → W p l e (headSpec [.code yX6_step cX6_step 7 none] ({ frames := 1, cells := 0, slots := 0, locals := 21 })).room s m ([.ref mo, .int (iz sd), .int (iz p0)] : List Value).toArray below meth c H locs 0 0 QQ (F0 m 234 ls []) := by
                        intro n
                        induction n with
                        | zero => intro pz hinv hm; exact absurd hm (Nat.not_lt_zero _)
                        | succ n ih234 =>
                          intro pz hinv hm H locs hP hD hS ls hl
                          have hpz := hinv
                          refine lv_iload_n hx hb dX6_step_234 rfl (lv_at hl 3 rfl) ?_
                          refine lv_iload hx hb dX6_step_235 (lv_at hl 0 rfl) ?_
                          refine ki_icmp_ge (tgt := 262) hx hb dX6_step_237 (by decide) (by omega) (by omega) (by omega) (by omega) (fun c_200 => ?_) (fun c_200 => ?_)
                          · skip
                            refine lv_aload_n hx hb dX6_step_262 rfl (lv_at hl 4 rfl) ?_
                            refine va_get (D := (dC, dI)) (ci := 6) (v := .ref (ma 22)) (C := RX6) (T := TX6) (N := 44) hx hb hts kt_X6 hown hK hP 0 rfl rfl 22 (by decide) (kx_word hG kq_05_morder_2 rfl) (fun _ h9 => h9) rfl dX6_step_263 ?_
                            refine lv_iload_n hx hb dX6_step_266 rfl (lv_at hl 5 rfl) ?_
                            refine lv_iconst (v := iz 1) hx hb dX6_step_267 (by decide) ?_
                            refine ki_iast (F := upI (F 22) sd (-1)) hx hb hK hP hD hS 17 16 rfl rfl (by omega) (by omega) (by decide) dX6_step_268 (fun H locs hP hD hS => ?_)
                            have hP : va_P (dC, dI) kxCl (mW mo ma cs I (va_up (va_up (va_up (va_up (va_up (va_up F 20 (upI (F 20) sd pa)) 22 (upI (F 22) sd (-1))) 23 (upI (F 23) sd 0)) 24 (upI (F 24) sd 0)) 21 (upI (F 21) sd (vp_nar .boolean (iz 1)).toInt)) 22 (upI (upI (F 22) sd (-1)) sd 1))) H := hP
                            have hD : va_D A (mW mo ma cs I (va_up (va_up (va_up (va_up (va_up (va_up F 20 (upI (F 20) sd pa)) 22 (upI (F 22) sd (-1))) 23 (upI (F 23) sd 0)) 24 (upI (F 24) sd 0)) 21 (upI (F 21) sd (vp_nar .boolean (iz 1)).toInt)) 22 (upI (upI (F 22) sd (-1)) sd 1))) := hD
                            refine lv_aload_n hx hb dX6_step_269 rfl (lv_at hl 4 rfl) ?_
                            refine va_get (D := (dC, dI)) (ci := 6) (v := .ref (ma 23)) (C := RX6) (T := TX6) (N := 44) hx hb hts kt_X6 hown hK hP 0 rfl rfl 23 (by decide) (kx_word hG kq_05_morder_3 rfl) (fun _ h9 => h9) rfl dX6_step_270 ?_
                            refine lv_iload_n hx hb dX6_step_273 rfl (lv_at hl 5 rfl) ?_
                            refine lv_bipush (v := iz 20) hx hb dX6_step_274 (by decide) ?_
                            refine lv_iload_n hx hb dX6_step_276 rfl (lv_at hl 6 rfl) ?_
                            refine ki_imul hx hb dX6_step_277 ?_
                            refine lv_iload_n hx hb dX6_step_278 rfl (lv_at hl 3 rfl) ?_
                            refine ki_iadd hx hb dX6_step_279 ?_
                            refine ki_iast (F := upI (F 23) sd 0) hx hb hK hP hD hS 18 17 rfl rfl (by omega) (by omega) (by decide) dX6_step_280 (fun H locs hP hD hS => ?_)
                            have hP : va_P (dC, dI) kxCl (mW mo ma cs I (va_up (va_up (va_up (va_up (va_up (va_up (va_up F 20 (upI (F 20) sd pa)) 22 (upI (F 22) sd (-1))) 23 (upI (F 23) sd 0)) 24 (upI (F 24) sd 0)) 21 (upI (F 21) sd (vp_nar .boolean (iz 1)).toInt)) 22 (upI (upI (F 22) sd (-1)) sd 1)) 23 (upI (upI (F 23) sd 0) sd ((20 * p0) + pz)))) H := hP
                            have hD : va_D A (mW mo ma cs I (va_up (va_up (va_up (va_up (va_up (va_up (va_up F 20 (upI (F 20) sd pa)) 22 (upI (F 22) sd (-1))) 23 (upI (F 23) sd 0)) 24 (upI (F 24) sd 0)) 21 (upI (F 21) sd (vp_nar .boolean (iz 1)).toInt)) 22 (upI (upI (F 22) sd (-1)) sd 1)) 23 (upI (upI (F 23) sd 0) sd ((20 * p0) + pz)))) := hD
                            refine lv_aload_n hx hb dX6_step_281 rfl (lv_at hl 4 rfl) ?_
                            refine va_get (D := (dC, dI)) (ci := 6) (v := .ref (ma 24)) (C := RX6) (T := TX6) (N := 44) hx hb hts kt_X6 hown hK hP 0 rfl rfl 24 (by decide) (kx_word hG kq_05_morder_4 rfl) (fun _ h9 => h9) rfl dX6_step_282 ?_
                            refine lv_iload_n hx hb dX6_step_285 rfl (lv_at hl 5 rfl) ?_
                            refine lv_iload hx hb dX6_step_286 (lv_at hl 0 rfl) ?_
                            refine lv_iload_n hx hb dX6_step_288 rfl (lv_at hl 3 rfl) ?_
                            refine ki_isub hx hb dX6_step_289 ?_
                            refine ki_iast (F := upI (F 24) sd 0) hx hb hK hP hD hS 19 18 rfl rfl (by omega) (by omega) (by decide) dX6_step_290 (fun H locs hP hD hS => ?_)
                            have hP : va_P (dC, dI) kxCl (mW mo ma cs I (va_up (va_up (va_up (va_up (va_up (va_up (va_up (va_up F 20 (upI (F 20) sd pa)) 22 (upI (F 22) sd (-1))) 23 (upI (F 23) sd 0)) 24 (upI (F 24) sd 0)) 21 (upI (F 21) sd (vp_nar .boolean (iz 1)).toInt)) 22 (upI (upI (F 22) sd (-1)) sd 1)) 23 (upI (upI (F 23) sd 0) sd ((20 * p0) + pz))) 24 (upI (upI (F 24) sd 0) sd (en - pz)))) H := hP
                            have hD : va_D A (mW mo ma cs I (va_up (va_up (va_up (va_up (va_up (va_up (va_up (va_up F 20 (upI (F 20) sd pa)) 22 (upI (F 22) sd (-1))) 23 (upI (F 23) sd 0)) 24 (upI (F 24) sd 0)) 21 (upI (F 21) sd (vp_nar .boolean (iz 1)).toInt)) 22 (upI (upI (F 22) sd (-1)) sd 1)) 23 (upI (upI (F 23) sd 0) sd ((20 * p0) + pz))) 24 (upI (upI (F 24) sd 0) sd (en - pz)))) := hD
                            refine lv_aload_n hx hb dX6_step_291 rfl (lv_at hl 4 rfl) ?_
                            refine va_get (D := (dC, dI)) (ci := 6) (v := .ref (ma 20)) (C := RX6) (T := TX6) (N := 44) hx hb hts kt_X6 hown hK hP 0 rfl rfl 20 (by decide) (kx_word hG kq_05_morder_0 rfl) (fun _ h9 => h9) rfl dX6_step_292 ?_
                            refine lv_iload_n hx hb dX6_step_295 rfl (lv_at hl 5 rfl) ?_
                            refine lv_iload hx hb dX6_step_296 (lv_at hl 0 rfl) ?_
                            refine ki_iast (F := upI (F 20) sd pa) hx hb hK hP hD hS 15 14 rfl rfl (by omega) (by omega) (by decide) dX6_step_298 (fun H locs hP hD hS => ?_)
                            have hP : va_P (dC, dI) kxCl (mW mo ma cs I (va_up (va_up (va_up (va_up (va_up (va_up (va_up (va_up (va_up F 20 (upI (F 20) sd pa)) 22 (upI (F 22) sd (-1))) 23 (upI (F 23) sd 0)) 24 (upI (F 24) sd 0)) 21 (upI (F 21) sd (vp_nar .boolean (iz 1)).toInt)) 22 (upI (upI (F 22) sd (-1)) sd 1)) 23 (upI (upI (F 23) sd 0) sd ((20 * p0) + pz))) 24 (upI (upI (F 24) sd 0) sd (en - pz))) 20 (upI (upI (F 20) sd pa) sd en))) H := hP
                            have hD : va_D A (mW mo ma cs I (va_up (va_up (va_up (va_up (va_up (va_up (va_up (va_up (va_up F 20 (upI (F 20) sd pa)) 22 (upI (F 22) sd (-1))) 23 (upI (F 23) sd 0)) 24 (upI (F 24) sd 0)) 21 (upI (F 21) sd (vp_nar .boolean (iz 1)).toInt)) 22 (upI (upI (F 22) sd (-1)) sd 1)) 23 (upI (upI (F 23) sd 0) sd ((20 * p0) + pz))) 24 (upI (upI (F 24) sd 0) sd (en - pz))) 20 (upI (upI (F 20) sd pa) sd en))) := hD
                            have e_201 : (va_up (va_up (va_up (va_up (va_up (va_up (va_up (va_up (va_up F 20 (upI (F 20) sd pa)) 22 (upI (F 22) sd (-1))) 23 (upI (F 23) sd 0)) 24 (upI (F 24) sd 0)) 21 (upI (F 21) sd (vp_nar .boolean (iz 1)).toInt)) 22 (upI (upI (F 22) sd (-1)) sd 1)) 23 (upI (upI (F 23) sd 0) sd ((20 * p0) + pz))) 24 (upI (upI (F 24) sd 0) sd (en - pz))) 20 (upI (upI (F 20) sd pa) sd en)) 20 sd = en := upI_self _ _ _
                            have e_202 : (va_up (va_up (va_up (va_up (va_up (va_up (va_up (va_up (va_up F 20 (upI (F 20) sd pa)) 22 (upI (F 22) sd (-1))) 23 (upI (F 23) sd 0)) 24 (upI (F 24) sd 0)) 21 (upI (F 21) sd (vp_nar .boolean (iz 1)).toInt)) 22 (upI (upI (F 22) sd (-1)) sd 1)) 23 (upI (upI (F 23) sd 0) sd ((20 * p0) + pz))) 24 (upI (upI (F 24) sd 0) sd (en - pz))) 20 (upI (upI (F 20) sd pa) sd en)) 22 sd = 1 := upI_self _ _ _
                            have e_203 : (va_up (va_up (va_up (va_up (va_up (va_up (va_up (va_up (va_up F 20 (upI (F 20) sd pa)) 22 (upI (F 22) sd (-1))) 23 (upI (F 23) sd 0)) 24 (upI (F 24) sd 0)) 21 (upI (F 21) sd (vp_nar .boolean (iz 1)).toInt)) 22 (upI (upI (F 22) sd (-1)) sd 1)) 23 (upI (upI (F 23) sd 0) sd ((20 * p0) + pz))) 24 (upI (upI (F 24) sd 0) sd (en - pz))) 20 (upI (upI (F 20) sd pa) sd en)) 23 sd = (20 * p0) + pz := upI_self _ _ _
                            have e_204 : (va_up (va_up (va_up (va_up (va_up (va_up (va_up (va_up (va_up F 20 (upI (F 20) sd pa)) 22 (upI (F 22) sd (-1))) 23 (upI (F 23) sd 0)) 24 (upI (F 24) sd 0)) 21 (upI (F 21) sd (vp_nar .boolean (iz 1)).toInt)) 22 (upI (upI (F 22) sd (-1)) sd 1)) 23 (upI (upI (F 23) sd 0) sd ((20 * p0) + pz))) 24 (upI (upI (F 24) sd 0) sd (en - pz))) 20 (upI (upI (F 20) sd pa) sd en)) 24 sd = en - pz := upI_self _ _ _
                            have e_205 : (va_up (va_up (va_up (va_up (va_up (va_up (va_up (va_up (va_up F 20 (upI (F 20) sd pa)) 22 (upI (F 22) sd (-1))) 23 (upI (F 23) sd 0)) 24 (upI (F 24) sd 0)) 21 (upI (F 21) sd (vp_nar .boolean (iz 1)).toInt)) 22 (upI (upI (F 22) sd (-1)) sd 1)) 23 (upI (upI (F 23) sd 0) sd ((20 * p0) + pz))) 24 (upI (upI (F 24) sd 0) sd (en - pz))) 20 (upI (upI (F 20) sd pa) sd en)) 21 sd = (vp_nar .boolean (iz 1)).toInt := upI_self _ _ _
                            rw [← hQe]
                            exact mk_ret hx hb hr hlocks hP hD hK hS dX6_step_299 (⟨rfl, (mB_f (mB_f (mB_f (mB_f (mB_f (mB_f (mB_f (mB_f (mB_f hB 20 sd (by omega) (by omega)) 22 sd (by omega) (by omega)) 23 sd (by omega) (by omega)) 24 sd (by omega) (by omega)) 21 sd (iz_lo _) (iz_hi _)) 22 sd (by omega) (by omega)) 23 sd (by omega) (by omega)) 24 sd (by omega) (by omega)) 20 sd (by omega) (by omega)), (mfr.upF (mfr.upF (mfr.upF (mfr.upF (mfr.upF (mfr.upF (mfr.upF (mfr.upF (mfr.upF mfr.rf (by decide) _) (by decide) _) (by decide) _) (by decide) _) (by decide) _) (by decide) _) (by decide) _) (by decide) _) (by decide) _), (mo1.up (mo1.up (mo1.up (mo1.up (mo1.up (mo1.up (mo1.up (mo1.up (mo1.up mo1.rf 20 _) 22 _) 23 _) 24 _) 21 _) 22 _) 23 _) 24 _) 20 _), by omega, by omega, by omega⟩)
                          · skip
                            refine lv_aload_n hx hb dX6_step_240 rfl (lv_at hl 4 rfl) ?_
                            refine va_get (D := (dC, dI)) (ci := 6) (v := .ref (ma 4)) (C := RX6) (T := TX6) (N := 44) hx hb hts kt_X6 hown hK hP 0 rfl rfl 4 (by decide) (kx_word hG kq_04_msmall_16 rfl) (fun _ h9 => h9) rfl dX6_step_241 ?_
                            refine lv_bipush (v := iz 20) hx hb dX6_step_244 (by decide) ?_
                            refine lv_iload_n hx hb dX6_step_246 rfl (lv_at hl 6 rfl) ?_
                            refine ki_imul hx hb dX6_step_247 ?_
                            refine lv_iload_n hx hb dX6_step_248 rfl (lv_at hl 3 rfl) ?_
                            refine ki_iadd hx hb dX6_step_249 ?_
                            refine ki_iald (F := F 4) hx hb hK hP 3 2 rfl rfl (by omega) (by omega) (by decide) dX6_step_250 ?_
                            have hbd_206 := hB.2 4 ((20 * p0) + pz)
                            refine lv_bipush (v := iz 48) hx hb dX6_step_251 (by decide) ?_
                            refine ki_icmp_ne (tgt := 262) hx hb dX6_step_253 (by decide) (by omega) (by omega) (by omega) (by omega) (fun c_207 => ?_) (fun c_207 => ?_)
                            · skip
                              refine lv_aload_n hx hb dX6_step_262 rfl (lv_at hl 4 rfl) ?_
                              refine va_get (D := (dC, dI)) (ci := 6) (v := .ref (ma 22)) (C := RX6) (T := TX6) (N := 44) hx hb hts kt_X6 hown hK hP 0 rfl rfl 22 (by decide) (kx_word hG kq_05_morder_2 rfl) (fun _ h9 => h9) rfl dX6_step_263 ?_
                              refine lv_iload_n hx hb dX6_step_266 rfl (lv_at hl 5 rfl) ?_
                              refine lv_iconst (v := iz 1) hx hb dX6_step_267 (by decide) ?_
                              refine ki_iast (F := upI (F 22) sd (-1)) hx hb hK hP hD hS 17 16 rfl rfl (by omega) (by omega) (by decide) dX6_step_268 (fun H locs hP hD hS => ?_)
                              have hP : va_P (dC, dI) kxCl (mW mo ma cs I (va_up (va_up (va_up (va_up (va_up (va_up F 20 (upI (F 20) sd pa)) 22 (upI (F 22) sd (-1))) 23 (upI (F 23) sd 0)) 24 (upI (F 24) sd 0)) 21 (upI (F 21) sd (vp_nar .boolean (iz 1)).toInt)) 22 (upI (upI (F 22) sd (-1)) sd 1))) H := hP
                              have hD : va_D A (mW mo ma cs I (va_up (va_up (va_up (va_up (va_up (va_up F 20 (upI (F 20) sd pa)) 22 (upI (F 22) sd (-1))) 23 (upI (F 23) sd 0)) 24 (upI (F 24) sd 0)) 21 (upI (F 21) sd (vp_nar .boolean (iz 1)).toInt)) 22 (upI (upI (F 22) sd (-1)) sd 1))) := hD
                              refine lv_aload_n hx hb dX6_step_269 rfl (lv_at hl 4 rfl) ?_
                              refine va_get (D := (dC, dI)) (ci := 6) (v := .ref (ma 23)) (C := RX6) (T := TX6) (N := 44) hx hb hts kt_X6 hown hK hP 0 rfl rfl 23 (by decide) (kx_word hG kq_05_morder_3 rfl) (fun _ h9 => h9) rfl dX6_step_270 ?_
                              refine lv_iload_n hx hb dX6_step_273 rfl (lv_at hl 5 rfl) ?_
                              refine lv_bipush (v := iz 20) hx hb dX6_step_274 (by decide) ?_
                              refine lv_iload_n hx hb dX6_step_276 rfl (lv_at hl 6 rfl) ?_
                              refine ki_imul hx hb dX6_step_277 ?_
                              refine lv_iload_n hx hb dX6_step_278 rfl (lv_at hl 3 rfl) ?_
                              refine ki_iadd hx hb dX6_step_279 ?_
                              refine ki_iast (F := upI (F 23) sd 0) hx hb hK hP hD hS 18 17 rfl rfl (by omega) (by omega) (by decide) dX6_step_280 (fun H locs hP hD hS => ?_)
                              have hP : va_P (dC, dI) kxCl (mW mo ma cs I (va_up (va_up (va_up (va_up (va_up (va_up (va_up F 20 (upI (F 20) sd pa)) 22 (upI (F 22) sd (-1))) 23 (upI (F 23) sd 0)) 24 (upI (F 24) sd 0)) 21 (upI (F 21) sd (vp_nar .boolean (iz 1)).toInt)) 22 (upI (upI (F 22) sd (-1)) sd 1)) 23 (upI (upI (F 23) sd 0) sd ((20 * p0) + pz)))) H := hP
                              have hD : va_D A (mW mo ma cs I (va_up (va_up (va_up (va_up (va_up (va_up (va_up F 20 (upI (F 20) sd pa)) 22 (upI (F 22) sd (-1))) 23 (upI (F 23) sd 0)) 24 (upI (F 24) sd 0)) 21 (upI (F 21) sd (vp_nar .boolean (iz 1)).toInt)) 22 (upI (upI (F 22) sd (-1)) sd 1)) 23 (upI (upI (F 23) sd 0) sd ((20 * p0) + pz)))) := hD
                              refine lv_aload_n hx hb dX6_step_281 rfl (lv_at hl 4 rfl) ?_
                              refine va_get (D := (dC, dI)) (ci := 6) (v := .ref (ma 24)) (C := RX6) (T := TX6) (N := 44) hx hb hts kt_X6 hown hK hP 0 rfl rfl 24 (by decide) (kx_word hG kq_05_morder_4 rfl) (fun _ h9 => h9) rfl dX6_step_282 ?_
                              refine lv_iload_n hx hb dX6_step_285 rfl (lv_at hl 5 rfl) ?_
                              refine lv_iload hx hb dX6_step_286 (lv_at hl 0 rfl) ?_
                              refine lv_iload_n hx hb dX6_step_288 rfl (lv_at hl 3 rfl) ?_
                              refine ki_isub hx hb dX6_step_289 ?_
                              refine ki_iast (F := upI (F 24) sd 0) hx hb hK hP hD hS 19 18 rfl rfl (by omega) (by omega) (by decide) dX6_step_290 (fun H locs hP hD hS => ?_)
                              have hP : va_P (dC, dI) kxCl (mW mo ma cs I (va_up (va_up (va_up (va_up (va_up (va_up (va_up (va_up F 20 (upI (F 20) sd pa)) 22 (upI (F 22) sd (-1))) 23 (upI (F 23) sd 0)) 24 (upI (F 24) sd 0)) 21 (upI (F 21) sd (vp_nar .boolean (iz 1)).toInt)) 22 (upI (upI (F 22) sd (-1)) sd 1)) 23 (upI (upI (F 23) sd 0) sd ((20 * p0) + pz))) 24 (upI (upI (F 24) sd 0) sd (en - pz)))) H := hP
                              have hD : va_D A (mW mo ma cs I (va_up (va_up (va_up (va_up (va_up (va_up (va_up (va_up F 20 (upI (F 20) sd pa)) 22 (upI (F 22) sd (-1))) 23 (upI (F 23) sd 0)) 24 (upI (F 24) sd 0)) 21 (upI (F 21) sd (vp_nar .boolean (iz 1)).toInt)) 22 (upI (upI (F 22) sd (-1)) sd 1)) 23 (upI (upI (F 23) sd 0) sd ((20 * p0) + pz))) 24 (upI (upI (F 24) sd 0) sd (en - pz)))) := hD
                              refine lv_aload_n hx hb dX6_step_291 rfl (lv_at hl 4 rfl) ?_
                              refine va_get (D := (dC, dI)) (ci := 6) (v := .ref (ma 20)) (C := RX6) (T := TX6) (N := 44) hx hb hts kt_X6 hown hK hP 0 rfl rfl 20 (by decide) (kx_word hG kq_05_morder_0 rfl) (fun _ h9 => h9) rfl dX6_step_292 ?_
                              refine lv_iload_n hx hb dX6_step_295 rfl (lv_at hl 5 rfl) ?_
                              refine lv_iload hx hb dX6_step_296 (lv_at hl 0 rfl) ?_
                              refine ki_iast (F := upI (F 20) sd pa) hx hb hK hP hD hS 15 14 rfl rfl (by omega) (by omega) (by decide) dX6_step_298 (fun H locs hP hD hS => ?_)
                              have hP : va_P (dC, dI) kxCl (mW mo ma cs I (va_up (va_up (va_up (va_up (va_up (va_up (va_up (va_up (va_up F 20 (upI (F 20) sd pa)) 22 (upI (F 22) sd (-1))) 23 (upI (F 23) sd 0)) 24 (upI (F 24) sd 0)) 21 (upI (F 21) sd (vp_nar .boolean (iz 1)).toInt)) 22 (upI (upI (F 22) sd (-1)) sd 1)) 23 (upI (upI (F 23) sd 0) sd ((20 * p0) + pz))) 24 (upI (upI (F 24) sd 0) sd (en - pz))) 20 (upI (upI (F 20) sd pa) sd en))) H := hP
                              have hD : va_D A (mW mo ma cs I (va_up (va_up (va_up (va_up (va_up (va_up (va_up (va_up (va_up F 20 (upI (F 20) sd pa)) 22 (upI (F 22) sd (-1))) 23 (upI (F 23) sd 0)) 24 (upI (F 24) sd 0)) 21 (upI (F 21) sd (vp_nar .boolean (iz 1)).toInt)) 22 (upI (upI (F 22) sd (-1)) sd 1)) 23 (upI (upI (F 23) sd 0) sd ((20 * p0) + pz))) 24 (upI (upI (F 24) sd 0) sd (en - pz))) 20 (upI (upI (F 20) sd pa) sd en))) := hD
                              have e_208 : (va_up (va_up (va_up (va_up (va_up (va_up (va_up (va_up (va_up F 20 (upI (F 20) sd pa)) 22 (upI (F 22) sd (-1))) 23 (upI (F 23) sd 0)) 24 (upI (F 24) sd 0)) 21 (upI (F 21) sd (vp_nar .boolean (iz 1)).toInt)) 22 (upI (upI (F 22) sd (-1)) sd 1)) 23 (upI (upI (F 23) sd 0) sd ((20 * p0) + pz))) 24 (upI (upI (F 24) sd 0) sd (en - pz))) 20 (upI (upI (F 20) sd pa) sd en)) 20 sd = en := upI_self _ _ _
                              have e_209 : (va_up (va_up (va_up (va_up (va_up (va_up (va_up (va_up (va_up F 20 (upI (F 20) sd pa)) 22 (upI (F 22) sd (-1))) 23 (upI (F 23) sd 0)) 24 (upI (F 24) sd 0)) 21 (upI (F 21) sd (vp_nar .boolean (iz 1)).toInt)) 22 (upI (upI (F 22) sd (-1)) sd 1)) 23 (upI (upI (F 23) sd 0) sd ((20 * p0) + pz))) 24 (upI (upI (F 24) sd 0) sd (en - pz))) 20 (upI (upI (F 20) sd pa) sd en)) 22 sd = 1 := upI_self _ _ _
                              have e_210 : (va_up (va_up (va_up (va_up (va_up (va_up (va_up (va_up (va_up F 20 (upI (F 20) sd pa)) 22 (upI (F 22) sd (-1))) 23 (upI (F 23) sd 0)) 24 (upI (F 24) sd 0)) 21 (upI (F 21) sd (vp_nar .boolean (iz 1)).toInt)) 22 (upI (upI (F 22) sd (-1)) sd 1)) 23 (upI (upI (F 23) sd 0) sd ((20 * p0) + pz))) 24 (upI (upI (F 24) sd 0) sd (en - pz))) 20 (upI (upI (F 20) sd pa) sd en)) 23 sd = (20 * p0) + pz := upI_self _ _ _
                              have e_211 : (va_up (va_up (va_up (va_up (va_up (va_up (va_up (va_up (va_up F 20 (upI (F 20) sd pa)) 22 (upI (F 22) sd (-1))) 23 (upI (F 23) sd 0)) 24 (upI (F 24) sd 0)) 21 (upI (F 21) sd (vp_nar .boolean (iz 1)).toInt)) 22 (upI (upI (F 22) sd (-1)) sd 1)) 23 (upI (upI (F 23) sd 0) sd ((20 * p0) + pz))) 24 (upI (upI (F 24) sd 0) sd (en - pz))) 20 (upI (upI (F 20) sd pa) sd en)) 24 sd = en - pz := upI_self _ _ _
                              have e_212 : (va_up (va_up (va_up (va_up (va_up (va_up (va_up (va_up (va_up F 20 (upI (F 20) sd pa)) 22 (upI (F 22) sd (-1))) 23 (upI (F 23) sd 0)) 24 (upI (F 24) sd 0)) 21 (upI (F 21) sd (vp_nar .boolean (iz 1)).toInt)) 22 (upI (upI (F 22) sd (-1)) sd 1)) 23 (upI (upI (F 23) sd 0) sd ((20 * p0) + pz))) 24 (upI (upI (F 24) sd 0) sd (en - pz))) 20 (upI (upI (F 20) sd pa) sd en)) 21 sd = (vp_nar .boolean (iz 1)).toInt := upI_self _ _ _
                              rw [← hQe]
                              exact mk_ret hx hb hr hlocks hP hD hK hS dX6_step_299 (⟨rfl, (mB_f (mB_f (mB_f (mB_f (mB_f (mB_f (mB_f (mB_f (mB_f hB 20 sd (by omega) (by omega)) 22 sd (by omega) (by omega)) 23 sd (by omega) (by omega)) 24 sd (by omega) (by omega)) 21 sd (iz_lo _) (iz_hi _)) 22 sd (by omega) (by omega)) 23 sd (by omega) (by omega)) 24 sd (by omega) (by omega)) 20 sd (by omega) (by omega)), (mfr.upF (mfr.upF (mfr.upF (mfr.upF (mfr.upF (mfr.upF (mfr.upF (mfr.upF (mfr.upF mfr.rf (by decide) _) (by decide) _) (by decide) _) (by decide) _) (by decide) _) (by decide) _) (by decide) _) (by decide) _) (by decide) _), (mo1.up (mo1.up (mo1.up (mo1.up (mo1.up (mo1.up (mo1.up (mo1.up (mo1.up mo1.rf 20 _) 22 _) 23 _) 24 _) 21 _) 22 _) 23 _) 24 _) 20 _), by omega, by omega, by omega⟩)
                            · skip
                              refine lv_iinc (v := iz (pz + 1)) (lv' := [(3, .int (iz (pz + 1))), (6, .int (iz en)), (5, .int (iz (F 4 ((20 * p0) + pa)))), (4, .int (iz ps)), (0, .ref mo), (1, .int (iz sd)), (2, .int (iz p0))]) hx hb dX6_step_256 hl (k := 3) rfl (iz_add pz 1) (by decide) rfl (fun ls hl => ?_)
                              refine lv_goto (tgt := 234) hx hb dX6_step_259 (by decide) ?_
                              exact ih234 (pz + 1) (by omega) (by omega) _ _ hP hD hS ls (lv_sub hl [1, 2, 3, 0, 4, 5, 6] rfl)
                      exact lp234 _ pa (by omega) (Nat.lt_succ_self _) _ _ hP hD hS ls (lv_sub hl [0, 1, 2, 3, 4, 5, 6] rfl)
                    · skip
                      refine lv_iload hx hb dX6_step_199 (lv_at hl 0 rfl) ?_
                      refine lv_aload_n hx hb dX6_step_201 rfl (lv_at hl 4 rfl) ?_
                      refine va_get (D := (dC, dI)) (ci := 6) (v := .ref (ma 5)) (C := RX6) (T := TX6) (N := 44) hx hb hts kt_X6 hown hK hP 0 rfl rfl 5 (by decide) (kx_word hG kq_04_msmall_15 rfl) (fun _ h9 => h9) rfl dX6_step_202 ?_
                      refine lv_iload_n hx hb dX6_step_205 rfl (lv_at hl 6 rfl) ?_
                      refine ki_iald (F := F 5) hx hb hK hP 4 3 rfl rfl (by omega) (by omega) (by decide) dX6_step_206 ?_
                      refine ki_icmp_ge (tgt := 234) hx hb dX6_step_207 (by decide) (by omega) (by omega) (by omega) (by omega) (fun c_213 => ?_) (fun c_213 => ?_)
                      · skip
                        have lp234 : ∀ (n : Nat) (pz : Int), ((pa ≤ pz ∧ pz ≤ en)) → (en - pz).toNat < n → ∀ (H : Heap) (locs : List Loc), va_P (dC, dI) kxCl (mW mo ma cs I (va_up (va_up (va_up (va_up (va_up F 20 (upI (F 20) sd pa)) 22 (upI (F 22) sd (-1))) 23 (upI (F 23) sd 0)) 24 (upI (F 24) sd 0)) 21 (upI (F 21) sd (vp_nar .boolean (iz 1)).toInt))) H → va_D A (mW mo ma cs I (va_up (va_up (va_up (va_up (va_up F 20 (upI (F 20) sd pa)) 22 (upI (F 22) sd (-1))) 23 (upI (F 23) sd 0)) 24 (upI (F 24) sd 0)) 21 (upI (F 21) sd (vp_nar .boolean (iz 1)).toInt))) → va_S A s.heap H locs → ∀ ls : Array Slot, lv_has ls 7 [(6, .int (iz en)), (5, .int (iz (F 4 ((20 * p0) + pa)))), (4, .int (iz ps)), (3, .int (iz pz)), (0, .ref mo), (1, .int (iz sd)), (2, .int (iz p0))] → W p l e (headSpec [.code yX6_step cX6_step 7 none] ({ frames := 1, cells := 0, slots := 0, locals := 21 })).room s m ([.ref mo, .int (iz sd), .int (iz p0)] : List Value).toArray below meth c H locs 0 0 QQ (F0 m 234 ls []) := by
                          intro n
                          induction n with
                          | zero => intro pz hinv hm; exact absurd hm (Nat.not_lt_zero _)
                          | succ n ih234 =>
                            intro pz hinv hm H locs hP hD hS ls hl
                            have hpz := hinv
                            refine lv_iload_n hx hb dX6_step_234 rfl (lv_at hl 3 rfl) ?_
                            refine lv_iload hx hb dX6_step_235 (lv_at hl 0 rfl) ?_
                            refine ki_icmp_ge (tgt := 262) hx hb dX6_step_237 (by decide) (by omega) (by omega) (by omega) (by omega) (fun c_214 => ?_) (fun c_214 => ?_)
                            · skip
                              refine lv_aload_n hx hb dX6_step_262 rfl (lv_at hl 4 rfl) ?_
                              refine va_get (D := (dC, dI)) (ci := 6) (v := .ref (ma 22)) (C := RX6) (T := TX6) (N := 44) hx hb hts kt_X6 hown hK hP 0 rfl rfl 22 (by decide) (kx_word hG kq_05_morder_2 rfl) (fun _ h9 => h9) rfl dX6_step_263 ?_
                              refine lv_iload_n hx hb dX6_step_266 rfl (lv_at hl 5 rfl) ?_
                              refine lv_iconst (v := iz 1) hx hb dX6_step_267 (by decide) ?_
                              refine ki_iast (F := upI (F 22) sd (-1)) hx hb hK hP hD hS 17 16 rfl rfl (by omega) (by omega) (by decide) dX6_step_268 (fun H locs hP hD hS => ?_)
                              have hP : va_P (dC, dI) kxCl (mW mo ma cs I (va_up (va_up (va_up (va_up (va_up (va_up F 20 (upI (F 20) sd pa)) 22 (upI (F 22) sd (-1))) 23 (upI (F 23) sd 0)) 24 (upI (F 24) sd 0)) 21 (upI (F 21) sd (vp_nar .boolean (iz 1)).toInt)) 22 (upI (upI (F 22) sd (-1)) sd 1))) H := hP
                              have hD : va_D A (mW mo ma cs I (va_up (va_up (va_up (va_up (va_up (va_up F 20 (upI (F 20) sd pa)) 22 (upI (F 22) sd (-1))) 23 (upI (F 23) sd 0)) 24 (upI (F 24) sd 0)) 21 (upI (F 21) sd (vp_nar .boolean (iz 1)).toInt)) 22 (upI (upI (F 22) sd (-1)) sd 1))) := hD
                              refine lv_aload_n hx hb dX6_step_269 rfl (lv_at hl 4 rfl) ?_
                              refine va_get (D := (dC, dI)) (ci := 6) (v := .ref (ma 23)) (C := RX6) (T := TX6) (N := 44) hx hb hts kt_X6 hown hK hP 0 rfl rfl 23 (by decide) (kx_word hG kq_05_morder_3 rfl) (fun _ h9 => h9) rfl dX6_step_270 ?_
                              refine lv_iload_n hx hb dX6_step_273 rfl (lv_at hl 5 rfl) ?_
                              refine lv_bipush (v := iz 20) hx hb dX6_step_274 (by decide) ?_
                              refine lv_iload_n hx hb dX6_step_276 rfl (lv_at hl 6 rfl) ?_
                              refine ki_imul hx hb dX6_step_277 ?_
                              refine lv_iload_n hx hb dX6_step_278 rfl (lv_at hl 3 rfl) ?_
                              refine ki_iadd hx hb dX6_step_279 ?_
                              refine ki_iast (F := upI (F 23) sd 0) hx hb hK hP hD hS 18 17 rfl rfl (by omega) (by omega) (by decide) dX6_step_280 (fun H locs hP hD hS => ?_)
                              have hP : va_P (dC, dI) kxCl (mW mo ma cs I (va_up (va_up (va_up (va_up (va_up (va_up (va_up F 20 (upI (F 20) sd pa)) 22 (upI (F 22) sd (-1))) 23 (upI (F 23) sd 0)) 24 (upI (F 24) sd 0)) 21 (upI (F 21) sd (vp_nar .boolean (iz 1)).toInt)) 22 (upI (upI (F 22) sd (-1)) sd 1)) 23 (upI (upI (F 23) sd 0) sd ((20 * p0) + pz)))) H := hP
                              have hD : va_D A (mW mo ma cs I (va_up (va_up (va_up (va_up (va_up (va_up (va_up F 20 (upI (F 20) sd pa)) 22 (upI (F 22) sd (-1))) 23 (upI (F 23) sd 0)) 24 (upI (F 24) sd 0)) 21 (upI (F 21) sd (vp_nar .boolean (iz 1)).toInt)) 22 (upI (upI (F 22) sd (-1)) sd 1)) 23 (upI (upI (F 23) sd 0) sd ((20 * p0) + pz)))) := hD
                              refine lv_aload_n hx hb dX6_step_281 rfl (lv_at hl 4 rfl) ?_
                              refine va_get (D := (dC, dI)) (ci := 6) (v := .ref (ma 24)) (C := RX6) (T := TX6) (N := 44) hx hb hts kt_X6 hown hK hP 0 rfl rfl 24 (by decide) (kx_word hG kq_05_morder_4 rfl) (fun _ h9 => h9) rfl dX6_step_282 ?_
                              refine lv_iload_n hx hb dX6_step_285 rfl (lv_at hl 5 rfl) ?_
                              refine lv_iload hx hb dX6_step_286 (lv_at hl 0 rfl) ?_
                              refine lv_iload_n hx hb dX6_step_288 rfl (lv_at hl 3 rfl) ?_
                              refine ki_isub hx hb dX6_step_289 ?_
                              refine ki_iast (F := upI (F 24) sd 0) hx hb hK hP hD hS 19 18 rfl rfl (by omega) (by omega) (by decide) dX6_step_290 (fun H locs hP hD hS => ?_)
                              have hP : va_P (dC, dI) kxCl (mW mo ma cs I (va_up (va_up (va_up (va_up (va_up (va_up (va_up (va_up F 20 (upI (F 20) sd pa)) 22 (upI (F 22) sd (-1))) 23 (upI (F 23) sd 0)) 24 (upI (F 24) sd 0)) 21 (upI (F 21) sd (vp_nar .boolean (iz 1)).toInt)) 22 (upI (upI (F 22) sd (-1)) sd 1)) 23 (upI (upI (F 23) sd 0) sd ((20 * p0) + pz))) 24 (upI (upI (F 24) sd 0) sd (en - pz)))) H := hP
                              have hD : va_D A (mW mo ma cs I (va_up (va_up (va_up (va_up (va_up (va_up (va_up (va_up F 20 (upI (F 20) sd pa)) 22 (upI (F 22) sd (-1))) 23 (upI (F 23) sd 0)) 24 (upI (F 24) sd 0)) 21 (upI (F 21) sd (vp_nar .boolean (iz 1)).toInt)) 22 (upI (upI (F 22) sd (-1)) sd 1)) 23 (upI (upI (F 23) sd 0) sd ((20 * p0) + pz))) 24 (upI (upI (F 24) sd 0) sd (en - pz)))) := hD
                              refine lv_aload_n hx hb dX6_step_291 rfl (lv_at hl 4 rfl) ?_
                              refine va_get (D := (dC, dI)) (ci := 6) (v := .ref (ma 20)) (C := RX6) (T := TX6) (N := 44) hx hb hts kt_X6 hown hK hP 0 rfl rfl 20 (by decide) (kx_word hG kq_05_morder_0 rfl) (fun _ h9 => h9) rfl dX6_step_292 ?_
                              refine lv_iload_n hx hb dX6_step_295 rfl (lv_at hl 5 rfl) ?_
                              refine lv_iload hx hb dX6_step_296 (lv_at hl 0 rfl) ?_
                              refine ki_iast (F := upI (F 20) sd pa) hx hb hK hP hD hS 15 14 rfl rfl (by omega) (by omega) (by decide) dX6_step_298 (fun H locs hP hD hS => ?_)
                              have hP : va_P (dC, dI) kxCl (mW mo ma cs I (va_up (va_up (va_up (va_up (va_up (va_up (va_up (va_up (va_up F 20 (upI (F 20) sd pa)) 22 (upI (F 22) sd (-1))) 23 (upI (F 23) sd 0)) 24 (upI (F 24) sd 0)) 21 (upI (F 21) sd (vp_nar .boolean (iz 1)).toInt)) 22 (upI (upI (F 22) sd (-1)) sd 1)) 23 (upI (upI (F 23) sd 0) sd ((20 * p0) + pz))) 24 (upI (upI (F 24) sd 0) sd (en - pz))) 20 (upI (upI (F 20) sd pa) sd en))) H := hP
                              have hD : va_D A (mW mo ma cs I (va_up (va_up (va_up (va_up (va_up (va_up (va_up (va_up (va_up F 20 (upI (F 20) sd pa)) 22 (upI (F 22) sd (-1))) 23 (upI (F 23) sd 0)) 24 (upI (F 24) sd 0)) 21 (upI (F 21) sd (vp_nar .boolean (iz 1)).toInt)) 22 (upI (upI (F 22) sd (-1)) sd 1)) 23 (upI (upI (F 23) sd 0) sd ((20 * p0) + pz))) 24 (upI (upI (F 24) sd 0) sd (en - pz))) 20 (upI (upI (F 20) sd pa) sd en))) := hD
                              have e_215 : (va_up (va_up (va_up (va_up (va_up (va_up (va_up (va_up (va_up F 20 (upI (F 20) sd pa)) 22 (upI (F 22) sd (-1))) 23 (upI (F 23) sd 0)) 24 (upI (F 24) sd 0)) 21 (upI (F 21) sd (vp_nar .boolean (iz 1)).toInt)) 22 (upI (upI (F 22) sd (-1)) sd 1)) 23 (upI (upI (F 23) sd 0) sd ((20 * p0) + pz))) 24 (upI (upI (F 24) sd 0) sd (en - pz))) 20 (upI (upI (F 20) sd pa) sd en)) 20 sd = en := upI_self _ _ _
                              have e_216 : (va_up (va_up (va_up (va_up (va_up (va_up (va_up (va_up (va_up F 20 (upI (F 20) sd pa)) 22 (upI (F 22) sd (-1))) 23 (upI (F 23) sd 0)) 24 (upI (F 24) sd 0)) 21 (upI (F 21) sd (vp_nar .boolean (iz 1)).toInt)) 22 (upI (upI (F 22) sd (-1)) sd 1)) 23 (upI (upI (F 23) sd 0) sd ((20 * p0) + pz))) 24 (upI (upI (F 24) sd 0) sd (en - pz))) 20 (upI (upI (F 20) sd pa) sd en)) 22 sd = 1 := upI_self _ _ _
                              have e_217 : (va_up (va_up (va_up (va_up (va_up (va_up (va_up (va_up (va_up F 20 (upI (F 20) sd pa)) 22 (upI (F 22) sd (-1))) 23 (upI (F 23) sd 0)) 24 (upI (F 24) sd 0)) 21 (upI (F 21) sd (vp_nar .boolean (iz 1)).toInt)) 22 (upI (upI (F 22) sd (-1)) sd 1)) 23 (upI (upI (F 23) sd 0) sd ((20 * p0) + pz))) 24 (upI (upI (F 24) sd 0) sd (en - pz))) 20 (upI (upI (F 20) sd pa) sd en)) 23 sd = (20 * p0) + pz := upI_self _ _ _
                              have e_218 : (va_up (va_up (va_up (va_up (va_up (va_up (va_up (va_up (va_up F 20 (upI (F 20) sd pa)) 22 (upI (F 22) sd (-1))) 23 (upI (F 23) sd 0)) 24 (upI (F 24) sd 0)) 21 (upI (F 21) sd (vp_nar .boolean (iz 1)).toInt)) 22 (upI (upI (F 22) sd (-1)) sd 1)) 23 (upI (upI (F 23) sd 0) sd ((20 * p0) + pz))) 24 (upI (upI (F 24) sd 0) sd (en - pz))) 20 (upI (upI (F 20) sd pa) sd en)) 24 sd = en - pz := upI_self _ _ _
                              have e_219 : (va_up (va_up (va_up (va_up (va_up (va_up (va_up (va_up (va_up F 20 (upI (F 20) sd pa)) 22 (upI (F 22) sd (-1))) 23 (upI (F 23) sd 0)) 24 (upI (F 24) sd 0)) 21 (upI (F 21) sd (vp_nar .boolean (iz 1)).toInt)) 22 (upI (upI (F 22) sd (-1)) sd 1)) 23 (upI (upI (F 23) sd 0) sd ((20 * p0) + pz))) 24 (upI (upI (F 24) sd 0) sd (en - pz))) 20 (upI (upI (F 20) sd pa) sd en)) 21 sd = (vp_nar .boolean (iz 1)).toInt := upI_self _ _ _
                              rw [← hQe]
                              exact mk_ret hx hb hr hlocks hP hD hK hS dX6_step_299 (⟨rfl, (mB_f (mB_f (mB_f (mB_f (mB_f (mB_f (mB_f (mB_f (mB_f hB 20 sd (by omega) (by omega)) 22 sd (by omega) (by omega)) 23 sd (by omega) (by omega)) 24 sd (by omega) (by omega)) 21 sd (iz_lo _) (iz_hi _)) 22 sd (by omega) (by omega)) 23 sd (by omega) (by omega)) 24 sd (by omega) (by omega)) 20 sd (by omega) (by omega)), (mfr.upF (mfr.upF (mfr.upF (mfr.upF (mfr.upF (mfr.upF (mfr.upF (mfr.upF (mfr.upF mfr.rf (by decide) _) (by decide) _) (by decide) _) (by decide) _) (by decide) _) (by decide) _) (by decide) _) (by decide) _) (by decide) _), (mo1.up (mo1.up (mo1.up (mo1.up (mo1.up (mo1.up (mo1.up (mo1.up (mo1.up mo1.rf 20 _) 22 _) 23 _) 24 _) 21 _) 22 _) 23 _) 24 _) 20 _), by omega, by omega, by omega⟩)
                            · skip
                              refine lv_aload_n hx hb dX6_step_240 rfl (lv_at hl 4 rfl) ?_
                              refine va_get (D := (dC, dI)) (ci := 6) (v := .ref (ma 4)) (C := RX6) (T := TX6) (N := 44) hx hb hts kt_X6 hown hK hP 0 rfl rfl 4 (by decide) (kx_word hG kq_04_msmall_16 rfl) (fun _ h9 => h9) rfl dX6_step_241 ?_
                              refine lv_bipush (v := iz 20) hx hb dX6_step_244 (by decide) ?_
                              refine lv_iload_n hx hb dX6_step_246 rfl (lv_at hl 6 rfl) ?_
                              refine ki_imul hx hb dX6_step_247 ?_
                              refine lv_iload_n hx hb dX6_step_248 rfl (lv_at hl 3 rfl) ?_
                              refine ki_iadd hx hb dX6_step_249 ?_
                              refine ki_iald (F := F 4) hx hb hK hP 3 2 rfl rfl (by omega) (by omega) (by decide) dX6_step_250 ?_
                              have hbd_220 := hB.2 4 ((20 * p0) + pz)
                              refine lv_bipush (v := iz 48) hx hb dX6_step_251 (by decide) ?_
                              refine ki_icmp_ne (tgt := 262) hx hb dX6_step_253 (by decide) (by omega) (by omega) (by omega) (by omega) (fun c_221 => ?_) (fun c_221 => ?_)
                              · skip
                                refine lv_aload_n hx hb dX6_step_262 rfl (lv_at hl 4 rfl) ?_
                                refine va_get (D := (dC, dI)) (ci := 6) (v := .ref (ma 22)) (C := RX6) (T := TX6) (N := 44) hx hb hts kt_X6 hown hK hP 0 rfl rfl 22 (by decide) (kx_word hG kq_05_morder_2 rfl) (fun _ h9 => h9) rfl dX6_step_263 ?_
                                refine lv_iload_n hx hb dX6_step_266 rfl (lv_at hl 5 rfl) ?_
                                refine lv_iconst (v := iz 1) hx hb dX6_step_267 (by decide) ?_
                                refine ki_iast (F := upI (F 22) sd (-1)) hx hb hK hP hD hS 17 16 rfl rfl (by omega) (by omega) (by decide) dX6_step_268 (fun H locs hP hD hS => ?_)
                                have hP : va_P (dC, dI) kxCl (mW mo ma cs I (va_up (va_up (va_up (va_up (va_up (va_up F 20 (upI (F 20) sd pa)) 22 (upI (F 22) sd (-1))) 23 (upI (F 23) sd 0)) 24 (upI (F 24) sd 0)) 21 (upI (F 21) sd (vp_nar .boolean (iz 1)).toInt)) 22 (upI (upI (F 22) sd (-1)) sd 1))) H := hP
                                have hD : va_D A (mW mo ma cs I (va_up (va_up (va_up (va_up (va_up (va_up F 20 (upI (F 20) sd pa)) 22 (upI (F 22) sd (-1))) 23 (upI (F 23) sd 0)) 24 (upI (F 24) sd 0)) 21 (upI (F 21) sd (vp_nar .boolean (iz 1)).toInt)) 22 (upI (upI (F 22) sd (-1)) sd 1))) := hD
                                refine lv_aload_n hx hb dX6_step_269 rfl (lv_at hl 4 rfl) ?_
                                refine va_get (D := (dC, dI)) (ci := 6) (v := .ref (ma 23)) (C := RX6) (T := TX6) (N := 44) hx hb hts kt_X6 hown hK hP 0 rfl rfl 23 (by decide) (kx_word hG kq_05_morder_3 rfl) (fun _ h9 => h9) rfl dX6_step_270 ?_
                                refine lv_iload_n hx hb dX6_step_273 rfl (lv_at hl 5 rfl) ?_
                                refine lv_bipush (v := iz 20) hx hb dX6_step_274 (by decide) ?_
                                refine lv_iload_n hx hb dX6_step_276 rfl (lv_at hl 6 rfl) ?_
                                refine ki_imul hx hb dX6_step_277 ?_
                                refine lv_iload_n hx hb dX6_step_278 rfl (lv_at hl 3 rfl) ?_
                                refine ki_iadd hx hb dX6_step_279 ?_
                                refine ki_iast (F := upI (F 23) sd 0) hx hb hK hP hD hS 18 17 rfl rfl (by omega) (by omega) (by decide) dX6_step_280 (fun H locs hP hD hS => ?_)
                                have hP : va_P (dC, dI) kxCl (mW mo ma cs I (va_up (va_up (va_up (va_up (va_up (va_up (va_up F 20 (upI (F 20) sd pa)) 22 (upI (F 22) sd (-1))) 23 (upI (F 23) sd 0)) 24 (upI (F 24) sd 0)) 21 (upI (F 21) sd (vp_nar .boolean (iz 1)).toInt)) 22 (upI (upI (F 22) sd (-1)) sd 1)) 23 (upI (upI (F 23) sd 0) sd ((20 * p0) + pz)))) H := hP
                                have hD : va_D A (mW mo ma cs I (va_up (va_up (va_up (va_up (va_up (va_up (va_up F 20 (upI (F 20) sd pa)) 22 (upI (F 22) sd (-1))) 23 (upI (F 23) sd 0)) 24 (upI (F 24) sd 0)) 21 (upI (F 21) sd (vp_nar .boolean (iz 1)).toInt)) 22 (upI (upI (F 22) sd (-1)) sd 1)) 23 (upI (upI (F 23) sd 0) sd ((20 * p0) + pz)))) := hD
                                refine lv_aload_n hx hb dX6_step_281 rfl (lv_at hl 4 rfl) ?_
                                refine va_get (D := (dC, dI)) (ci := 6) (v := .ref (ma 24)) (C := RX6) (T := TX6) (N := 44) hx hb hts kt_X6 hown hK hP 0 rfl rfl 24 (by decide) (kx_word hG kq_05_morder_4 rfl) (fun _ h9 => h9) rfl dX6_step_282 ?_
                                refine lv_iload_n hx hb dX6_step_285 rfl (lv_at hl 5 rfl) ?_
                                refine lv_iload hx hb dX6_step_286 (lv_at hl 0 rfl) ?_
                                refine lv_iload_n hx hb dX6_step_288 rfl (lv_at hl 3 rfl) ?_
                                refine ki_isub hx hb dX6_step_289 ?_
                                refine ki_iast (F := upI (F 24) sd 0) hx hb hK hP hD hS 19 18 rfl rfl (by omega) (by omega) (by decide) dX6_step_290 (fun H locs hP hD hS => ?_)
                                have hP : va_P (dC, dI) kxCl (mW mo ma cs I (va_up (va_up (va_up (va_up (va_up (va_up (va_up (va_up F 20 (upI (F 20) sd pa)) 22 (upI (F 22) sd (-1))) 23 (upI (F 23) sd 0)) 24 (upI (F 24) sd 0)) 21 (upI (F 21) sd (vp_nar .boolean (iz 1)).toInt)) 22 (upI (upI (F 22) sd (-1)) sd 1)) 23 (upI (upI (F 23) sd 0) sd ((20 * p0) + pz))) 24 (upI (upI (F 24) sd 0) sd (en - pz)))) H := hP
                                have hD : va_D A (mW mo ma cs I (va_up (va_up (va_up (va_up (va_up (va_up (va_up (va_up F 20 (upI (F 20) sd pa)) 22 (upI (F 22) sd (-1))) 23 (upI (F 23) sd 0)) 24 (upI (F 24) sd 0)) 21 (upI (F 21) sd (vp_nar .boolean (iz 1)).toInt)) 22 (upI (upI (F 22) sd (-1)) sd 1)) 23 (upI (upI (F 23) sd 0) sd ((20 * p0) + pz))) 24 (upI (upI (F 24) sd 0) sd (en - pz)))) := hD
                                refine lv_aload_n hx hb dX6_step_291 rfl (lv_at hl 4 rfl) ?_
                                refine va_get (D := (dC, dI)) (ci := 6) (v := .ref (ma 20)) (C := RX6) (T := TX6) (N := 44) hx hb hts kt_X6 hown hK hP 0 rfl rfl 20 (by decide) (kx_word hG kq_05_morder_0 rfl) (fun _ h9 => h9) rfl dX6_step_292 ?_
                                refine lv_iload_n hx hb dX6_step_295 rfl (lv_at hl 5 rfl) ?_
                                refine lv_iload hx hb dX6_step_296 (lv_at hl 0 rfl) ?_
                                refine ki_iast (F := upI (F 20) sd pa) hx hb hK hP hD hS 15 14 rfl rfl (by omega) (by omega) (by decide) dX6_step_298 (fun H locs hP hD hS => ?_)
                                have hP : va_P (dC, dI) kxCl (mW mo ma cs I (va_up (va_up (va_up (va_up (va_up (va_up (va_up (va_up (va_up F 20 (upI (F 20) sd pa)) 22 (upI (F 22) sd (-1))) 23 (upI (F 23) sd 0)) 24 (upI (F 24) sd 0)) 21 (upI (F 21) sd (vp_nar .boolean (iz 1)).toInt)) 22 (upI (upI (F 22) sd (-1)) sd 1)) 23 (upI (upI (F 23) sd 0) sd ((20 * p0) + pz))) 24 (upI (upI (F 24) sd 0) sd (en - pz))) 20 (upI (upI (F 20) sd pa) sd en))) H := hP
                                have hD : va_D A (mW mo ma cs I (va_up (va_up (va_up (va_up (va_up (va_up (va_up (va_up (va_up F 20 (upI (F 20) sd pa)) 22 (upI (F 22) sd (-1))) 23 (upI (F 23) sd 0)) 24 (upI (F 24) sd 0)) 21 (upI (F 21) sd (vp_nar .boolean (iz 1)).toInt)) 22 (upI (upI (F 22) sd (-1)) sd 1)) 23 (upI (upI (F 23) sd 0) sd ((20 * p0) + pz))) 24 (upI (upI (F 24) sd 0) sd (en - pz))) 20 (upI (upI (F 20) sd pa) sd en))) := hD
                                have e_222 : (va_up (va_up (va_up (va_up (va_up (va_up (va_up (va_up (va_up F 20 (upI (F 20) sd pa)) 22 (upI (F 22) sd (-1))) 23 (upI (F 23) sd 0)) 24 (upI (F 24) sd 0)) 21 (upI (F 21) sd (vp_nar .boolean (iz 1)).toInt)) 22 (upI (upI (F 22) sd (-1)) sd 1)) 23 (upI (upI (F 23) sd 0) sd ((20 * p0) + pz))) 24 (upI (upI (F 24) sd 0) sd (en - pz))) 20 (upI (upI (F 20) sd pa) sd en)) 20 sd = en := upI_self _ _ _
                                have e_223 : (va_up (va_up (va_up (va_up (va_up (va_up (va_up (va_up (va_up F 20 (upI (F 20) sd pa)) 22 (upI (F 22) sd (-1))) 23 (upI (F 23) sd 0)) 24 (upI (F 24) sd 0)) 21 (upI (F 21) sd (vp_nar .boolean (iz 1)).toInt)) 22 (upI (upI (F 22) sd (-1)) sd 1)) 23 (upI (upI (F 23) sd 0) sd ((20 * p0) + pz))) 24 (upI (upI (F 24) sd 0) sd (en - pz))) 20 (upI (upI (F 20) sd pa) sd en)) 22 sd = 1 := upI_self _ _ _
                                have e_224 : (va_up (va_up (va_up (va_up (va_up (va_up (va_up (va_up (va_up F 20 (upI (F 20) sd pa)) 22 (upI (F 22) sd (-1))) 23 (upI (F 23) sd 0)) 24 (upI (F 24) sd 0)) 21 (upI (F 21) sd (vp_nar .boolean (iz 1)).toInt)) 22 (upI (upI (F 22) sd (-1)) sd 1)) 23 (upI (upI (F 23) sd 0) sd ((20 * p0) + pz))) 24 (upI (upI (F 24) sd 0) sd (en - pz))) 20 (upI (upI (F 20) sd pa) sd en)) 23 sd = (20 * p0) + pz := upI_self _ _ _
                                have e_225 : (va_up (va_up (va_up (va_up (va_up (va_up (va_up (va_up (va_up F 20 (upI (F 20) sd pa)) 22 (upI (F 22) sd (-1))) 23 (upI (F 23) sd 0)) 24 (upI (F 24) sd 0)) 21 (upI (F 21) sd (vp_nar .boolean (iz 1)).toInt)) 22 (upI (upI (F 22) sd (-1)) sd 1)) 23 (upI (upI (F 23) sd 0) sd ((20 * p0) + pz))) 24 (upI (upI (F 24) sd 0) sd (en - pz))) 20 (upI (upI (F 20) sd pa) sd en)) 24 sd = en - pz := upI_self _ _ _
                                have e_226 : (va_up (va_up (va_up (va_up (va_up (va_up (va_up (va_up (va_up F 20 (upI (F 20) sd pa)) 22 (upI (F 22) sd (-1))) 23 (upI (F 23) sd 0)) 24 (upI (F 24) sd 0)) 21 (upI (F 21) sd (vp_nar .boolean (iz 1)).toInt)) 22 (upI (upI (F 22) sd (-1)) sd 1)) 23 (upI (upI (F 23) sd 0) sd ((20 * p0) + pz))) 24 (upI (upI (F 24) sd 0) sd (en - pz))) 20 (upI (upI (F 20) sd pa) sd en)) 21 sd = (vp_nar .boolean (iz 1)).toInt := upI_self _ _ _
                                rw [← hQe]
                                exact mk_ret hx hb hr hlocks hP hD hK hS dX6_step_299 (⟨rfl, (mB_f (mB_f (mB_f (mB_f (mB_f (mB_f (mB_f (mB_f (mB_f hB 20 sd (by omega) (by omega)) 22 sd (by omega) (by omega)) 23 sd (by omega) (by omega)) 24 sd (by omega) (by omega)) 21 sd (iz_lo _) (iz_hi _)) 22 sd (by omega) (by omega)) 23 sd (by omega) (by omega)) 24 sd (by omega) (by omega)) 20 sd (by omega) (by omega)), (mfr.upF (mfr.upF (mfr.upF (mfr.upF (mfr.upF (mfr.upF (mfr.upF (mfr.upF (mfr.upF mfr.rf (by decide) _) (by decide) _) (by decide) _) (by decide) _) (by decide) _) (by decide) _) (by decide) _) (by decide) _) (by decide) _), (mo1.up (mo1.up (mo1.up (mo1.up (mo1.up (mo1.up (mo1.up (mo1.up (mo1.up mo1.rf 20 _) 22 _) 23 _) 24 _) 21 _) 22 _) 23 _) 24 _) 20 _), by omega, by omega, by omega⟩)
                              · skip
                                refine lv_iinc (v := iz (pz + 1)) (lv' := [(3, .int (iz (pz + 1))), (6, .int (iz en)), (5, .int (iz (F 4 ((20 * p0) + pa)))), (4, .int (iz ps)), (0, .ref mo), (1, .int (iz sd)), (2, .int (iz p0))]) hx hb dX6_step_256 hl (k := 3) rfl (iz_add pz 1) (by decide) rfl (fun ls hl => ?_)
                                refine lv_goto (tgt := 234) hx hb dX6_step_259 (by decide) ?_
                                exact ih234 (pz + 1) (by omega) (by omega) _ _ hP hD hS ls (lv_sub hl [1, 2, 3, 0, 4, 5, 6] rfl)
                        exact lp234 _ pa (by omega) (Nat.lt_succ_self _) _ _ hP hD hS ls (lv_sub hl [0, 1, 2, 3, 4, 5, 6] rfl)
                      · skip
                        refine lv_aload_n hx hb dX6_step_210 rfl (lv_at hl 4 rfl) ?_
                        refine va_get (D := (dC, dI)) (ci := 6) (v := .ref (ma 4)) (C := RX6) (T := TX6) (N := 44) hx hb hts kt_X6 hown hK hP 0 rfl rfl 4 (by decide) (kx_word hG kq_04_msmall_16 rfl) (fun _ h9 => h9) rfl dX6_step_211 ?_
                        refine lv_bipush (v := iz 20) hx hb dX6_step_214 (by decide) ?_
                        refine lv_iload_n hx hb dX6_step_216 rfl (lv_at hl 6 rfl) ?_
                        refine ki_imul hx hb dX6_step_217 ?_
                        refine lv_iload hx hb dX6_step_218 (lv_at hl 0 rfl) ?_
                        refine ki_iadd hx hb dX6_step_220 ?_
                        refine ki_iald (F := F 4) hx hb hK hP 3 2 rfl rfl (by omega) (by omega) (by decide) dX6_step_221 ?_
                        have hbd_227 := hB.2 4 ((20 * p0) + en)
                        refine mk_calls (As := [.int (iz (F 4 ((20 * p0) + en)))]) (rest := []) ⟨hx, hb, hml, hown, hts⟩ (k_isNumber l dC dI (F 4 ((20 * p0) + en)) H.size (by omega) (by omega)) (va_cwS 1 hts (kx_gS kq_05_morder_8 kq_05_morder_9 kq_04_msmall_6 kq_05_morder_10 rfl) rfl rfl rfl (by decide +kernel) ⟨Nat.le_of_ble_eq_true rfl, Nat.le_of_ble_eq_true rfl⟩) hP hD hK hG hZ hS hA rfl hl.1 rfl (Nat.le_of_ble_eq_true rfl) dX6_step_222 ⟨Nat.le_of_ble_eq_true rfl, Nat.le_of_ble_eq_true rfl⟩ (fun z_228 H locs hq_229 hP hS => ?_)
                        try dsimp only at hq_229
                        refine ki_if_eq (tgt := 234) hx hb dX6_step_225 (by decide) (by omega) (by omega) (fun c_230 => ?_) (fun c_230 => ?_)
                        · skip
                          have lp234 : ∀ (n : Nat) (pz : Int), ((pa ≤ pz ∧ pz ≤ en)) → (en - pz).toNat < n → ∀ (H : Heap) (locs : List Loc), va_P (dC, dI) kxCl (mW mo ma cs I (va_up (va_up (va_up (va_up (va_up F 20 (upI (F 20) sd pa)) 22 (upI (F 22) sd (-1))) 23 (upI (F 23) sd 0)) 24 (upI (F 24) sd 0)) 21 (upI (F 21) sd (vp_nar .boolean (iz 1)).toInt))) H → va_D A (mW mo ma cs I (va_up (va_up (va_up (va_up (va_up F 20 (upI (F 20) sd pa)) 22 (upI (F 22) sd (-1))) 23 (upI (F 23) sd 0)) 24 (upI (F 24) sd 0)) 21 (upI (F 21) sd (vp_nar .boolean (iz 1)).toInt))) → va_S A s.heap H locs → ∀ ls : Array Slot, lv_has ls 7 [(6, .int (iz en)), (5, .int (iz (F 4 ((20 * p0) + pa)))), (4, .int (iz ps)), (3, .int (iz pz)), (0, .ref mo), (1, .int (iz sd)), (2, .int (iz p0))] → W p l e (headSpec [.code yX6_step cX6_step 7 none] ({ frames := 1, cells := 0, slots := 0, locals := 21 })).room s m ([.ref mo, .int (iz sd), .int (iz p0)] : List Value).toArray below meth c H locs 0 0 QQ (F0 m 234 ls []) := by
                            intro n
                            induction n with
                            | zero => intro pz hinv hm; exact absurd hm (Nat.not_lt_zero _)
                            | succ n ih234 =>
                              intro pz hinv hm H locs hP hD hS ls hl
                              have hpz := hinv
                              refine lv_iload_n hx hb dX6_step_234 rfl (lv_at hl 3 rfl) ?_
                              refine lv_iload hx hb dX6_step_235 (lv_at hl 0 rfl) ?_
                              refine ki_icmp_ge (tgt := 262) hx hb dX6_step_237 (by decide) (by omega) (by omega) (by omega) (by omega) (fun c_231 => ?_) (fun c_231 => ?_)
                              · skip
                                refine lv_aload_n hx hb dX6_step_262 rfl (lv_at hl 4 rfl) ?_
                                refine va_get (D := (dC, dI)) (ci := 6) (v := .ref (ma 22)) (C := RX6) (T := TX6) (N := 44) hx hb hts kt_X6 hown hK hP 0 rfl rfl 22 (by decide) (kx_word hG kq_05_morder_2 rfl) (fun _ h9 => h9) rfl dX6_step_263 ?_
                                refine lv_iload_n hx hb dX6_step_266 rfl (lv_at hl 5 rfl) ?_
                                refine lv_iconst (v := iz 1) hx hb dX6_step_267 (by decide) ?_
                                refine ki_iast (F := upI (F 22) sd (-1)) hx hb hK hP hD hS 17 16 rfl rfl (by omega) (by omega) (by decide) dX6_step_268 (fun H locs hP hD hS => ?_)
                                have hP : va_P (dC, dI) kxCl (mW mo ma cs I (va_up (va_up (va_up (va_up (va_up (va_up F 20 (upI (F 20) sd pa)) 22 (upI (F 22) sd (-1))) 23 (upI (F 23) sd 0)) 24 (upI (F 24) sd 0)) 21 (upI (F 21) sd (vp_nar .boolean (iz 1)).toInt)) 22 (upI (upI (F 22) sd (-1)) sd 1))) H := hP
                                have hD : va_D A (mW mo ma cs I (va_up (va_up (va_up (va_up (va_up (va_up F 20 (upI (F 20) sd pa)) 22 (upI (F 22) sd (-1))) 23 (upI (F 23) sd 0)) 24 (upI (F 24) sd 0)) 21 (upI (F 21) sd (vp_nar .boolean (iz 1)).toInt)) 22 (upI (upI (F 22) sd (-1)) sd 1))) := hD
                                refine lv_aload_n hx hb dX6_step_269 rfl (lv_at hl 4 rfl) ?_
                                refine va_get (D := (dC, dI)) (ci := 6) (v := .ref (ma 23)) (C := RX6) (T := TX6) (N := 44) hx hb hts kt_X6 hown hK hP 0 rfl rfl 23 (by decide) (kx_word hG kq_05_morder_3 rfl) (fun _ h9 => h9) rfl dX6_step_270 ?_
                                refine lv_iload_n hx hb dX6_step_273 rfl (lv_at hl 5 rfl) ?_
                                refine lv_bipush (v := iz 20) hx hb dX6_step_274 (by decide) ?_
                                refine lv_iload_n hx hb dX6_step_276 rfl (lv_at hl 6 rfl) ?_
                                refine ki_imul hx hb dX6_step_277 ?_
                                refine lv_iload_n hx hb dX6_step_278 rfl (lv_at hl 3 rfl) ?_
                                refine ki_iadd hx hb dX6_step_279 ?_
                                refine ki_iast (F := upI (F 23) sd 0) hx hb hK hP hD hS 18 17 rfl rfl (by omega) (by omega) (by decide) dX6_step_280 (fun H locs hP hD hS => ?_)
                                have hP : va_P (dC, dI) kxCl (mW mo ma cs I (va_up (va_up (va_up (va_up (va_up (va_up (va_up F 20 (upI (F 20) sd pa)) 22 (upI (F 22) sd (-1))) 23 (upI (F 23) sd 0)) 24 (upI (F 24) sd 0)) 21 (upI (F 21) sd (vp_nar .boolean (iz 1)).toInt)) 22 (upI (upI (F 22) sd (-1)) sd 1)) 23 (upI (upI (F 23) sd 0) sd ((20 * p0) + pz)))) H := hP
                                have hD : va_D A (mW mo ma cs I (va_up (va_up (va_up (va_up (va_up (va_up (va_up F 20 (upI (F 20) sd pa)) 22 (upI (F 22) sd (-1))) 23 (upI (F 23) sd 0)) 24 (upI (F 24) sd 0)) 21 (upI (F 21) sd (vp_nar .boolean (iz 1)).toInt)) 22 (upI (upI (F 22) sd (-1)) sd 1)) 23 (upI (upI (F 23) sd 0) sd ((20 * p0) + pz)))) := hD
                                refine lv_aload_n hx hb dX6_step_281 rfl (lv_at hl 4 rfl) ?_
                                refine va_get (D := (dC, dI)) (ci := 6) (v := .ref (ma 24)) (C := RX6) (T := TX6) (N := 44) hx hb hts kt_X6 hown hK hP 0 rfl rfl 24 (by decide) (kx_word hG kq_05_morder_4 rfl) (fun _ h9 => h9) rfl dX6_step_282 ?_
                                refine lv_iload_n hx hb dX6_step_285 rfl (lv_at hl 5 rfl) ?_
                                refine lv_iload hx hb dX6_step_286 (lv_at hl 0 rfl) ?_
                                refine lv_iload_n hx hb dX6_step_288 rfl (lv_at hl 3 rfl) ?_
                                refine ki_isub hx hb dX6_step_289 ?_
                                refine ki_iast (F := upI (F 24) sd 0) hx hb hK hP hD hS 19 18 rfl rfl (by omega) (by omega) (by decide) dX6_step_290 (fun H locs hP hD hS => ?_)
                                have hP : va_P (dC, dI) kxCl (mW mo ma cs I (va_up (va_up (va_up (va_up (va_up (va_up (va_up (va_up F 20 (upI (F 20) sd pa)) 22 (upI (F 22) sd (-1))) 23 (upI (F 23) sd 0)) 24 (upI (F 24) sd 0)) 21 (upI (F 21) sd (vp_nar .boolean (iz 1)).toInt)) 22 (upI (upI (F 22) sd (-1)) sd 1)) 23 (upI (upI (F 23) sd 0) sd ((20 * p0) + pz))) 24 (upI (upI (F 24) sd 0) sd (en - pz)))) H := hP
                                have hD : va_D A (mW mo ma cs I (va_up (va_up (va_up (va_up (va_up (va_up (va_up (va_up F 20 (upI (F 20) sd pa)) 22 (upI (F 22) sd (-1))) 23 (upI (F 23) sd 0)) 24 (upI (F 24) sd 0)) 21 (upI (F 21) sd (vp_nar .boolean (iz 1)).toInt)) 22 (upI (upI (F 22) sd (-1)) sd 1)) 23 (upI (upI (F 23) sd 0) sd ((20 * p0) + pz))) 24 (upI (upI (F 24) sd 0) sd (en - pz)))) := hD
                                refine lv_aload_n hx hb dX6_step_291 rfl (lv_at hl 4 rfl) ?_
                                refine va_get (D := (dC, dI)) (ci := 6) (v := .ref (ma 20)) (C := RX6) (T := TX6) (N := 44) hx hb hts kt_X6 hown hK hP 0 rfl rfl 20 (by decide) (kx_word hG kq_05_morder_0 rfl) (fun _ h9 => h9) rfl dX6_step_292 ?_
                                refine lv_iload_n hx hb dX6_step_295 rfl (lv_at hl 5 rfl) ?_
                                refine lv_iload hx hb dX6_step_296 (lv_at hl 0 rfl) ?_
                                refine ki_iast (F := upI (F 20) sd pa) hx hb hK hP hD hS 15 14 rfl rfl (by omega) (by omega) (by decide) dX6_step_298 (fun H locs hP hD hS => ?_)
                                have hP : va_P (dC, dI) kxCl (mW mo ma cs I (va_up (va_up (va_up (va_up (va_up (va_up (va_up (va_up (va_up F 20 (upI (F 20) sd pa)) 22 (upI (F 22) sd (-1))) 23 (upI (F 23) sd 0)) 24 (upI (F 24) sd 0)) 21 (upI (F 21) sd (vp_nar .boolean (iz 1)).toInt)) 22 (upI (upI (F 22) sd (-1)) sd 1)) 23 (upI (upI (F 23) sd 0) sd ((20 * p0) + pz))) 24 (upI (upI (F 24) sd 0) sd (en - pz))) 20 (upI (upI (F 20) sd pa) sd en))) H := hP
                                have hD : va_D A (mW mo ma cs I (va_up (va_up (va_up (va_up (va_up (va_up (va_up (va_up (va_up F 20 (upI (F 20) sd pa)) 22 (upI (F 22) sd (-1))) 23 (upI (F 23) sd 0)) 24 (upI (F 24) sd 0)) 21 (upI (F 21) sd (vp_nar .boolean (iz 1)).toInt)) 22 (upI (upI (F 22) sd (-1)) sd 1)) 23 (upI (upI (F 23) sd 0) sd ((20 * p0) + pz))) 24 (upI (upI (F 24) sd 0) sd (en - pz))) 20 (upI (upI (F 20) sd pa) sd en))) := hD
                                have e_232 : (va_up (va_up (va_up (va_up (va_up (va_up (va_up (va_up (va_up F 20 (upI (F 20) sd pa)) 22 (upI (F 22) sd (-1))) 23 (upI (F 23) sd 0)) 24 (upI (F 24) sd 0)) 21 (upI (F 21) sd (vp_nar .boolean (iz 1)).toInt)) 22 (upI (upI (F 22) sd (-1)) sd 1)) 23 (upI (upI (F 23) sd 0) sd ((20 * p0) + pz))) 24 (upI (upI (F 24) sd 0) sd (en - pz))) 20 (upI (upI (F 20) sd pa) sd en)) 20 sd = en := upI_self _ _ _
                                have e_233 : (va_up (va_up (va_up (va_up (va_up (va_up (va_up (va_up (va_up F 20 (upI (F 20) sd pa)) 22 (upI (F 22) sd (-1))) 23 (upI (F 23) sd 0)) 24 (upI (F 24) sd 0)) 21 (upI (F 21) sd (vp_nar .boolean (iz 1)).toInt)) 22 (upI (upI (F 22) sd (-1)) sd 1)) 23 (upI (upI (F 23) sd 0) sd ((20 * p0) + pz))) 24 (upI (upI (F 24) sd 0) sd (en - pz))) 20 (upI (upI (F 20) sd pa) sd en)) 22 sd = 1 := upI_self _ _ _
                                have e_234 : (va_up (va_up (va_up (va_up (va_up (va_up (va_up (va_up (va_up F 20 (upI (F 20) sd pa)) 22 (upI (F 22) sd (-1))) 23 (upI (F 23) sd 0)) 24 (upI (F 24) sd 0)) 21 (upI (F 21) sd (vp_nar .boolean (iz 1)).toInt)) 22 (upI (upI (F 22) sd (-1)) sd 1)) 23 (upI (upI (F 23) sd 0) sd ((20 * p0) + pz))) 24 (upI (upI (F 24) sd 0) sd (en - pz))) 20 (upI (upI (F 20) sd pa) sd en)) 23 sd = (20 * p0) + pz := upI_self _ _ _
                                have e_235 : (va_up (va_up (va_up (va_up (va_up (va_up (va_up (va_up (va_up F 20 (upI (F 20) sd pa)) 22 (upI (F 22) sd (-1))) 23 (upI (F 23) sd 0)) 24 (upI (F 24) sd 0)) 21 (upI (F 21) sd (vp_nar .boolean (iz 1)).toInt)) 22 (upI (upI (F 22) sd (-1)) sd 1)) 23 (upI (upI (F 23) sd 0) sd ((20 * p0) + pz))) 24 (upI (upI (F 24) sd 0) sd (en - pz))) 20 (upI (upI (F 20) sd pa) sd en)) 24 sd = en - pz := upI_self _ _ _
                                have e_236 : (va_up (va_up (va_up (va_up (va_up (va_up (va_up (va_up (va_up F 20 (upI (F 20) sd pa)) 22 (upI (F 22) sd (-1))) 23 (upI (F 23) sd 0)) 24 (upI (F 24) sd 0)) 21 (upI (F 21) sd (vp_nar .boolean (iz 1)).toInt)) 22 (upI (upI (F 22) sd (-1)) sd 1)) 23 (upI (upI (F 23) sd 0) sd ((20 * p0) + pz))) 24 (upI (upI (F 24) sd 0) sd (en - pz))) 20 (upI (upI (F 20) sd pa) sd en)) 21 sd = (vp_nar .boolean (iz 1)).toInt := upI_self _ _ _
                                rw [← hQe]
                                exact mk_ret hx hb hr hlocks hP hD hK hS dX6_step_299 (⟨rfl, (mB_f (mB_f (mB_f (mB_f (mB_f (mB_f (mB_f (mB_f (mB_f hB 20 sd (by omega) (by omega)) 22 sd (by omega) (by omega)) 23 sd (by omega) (by omega)) 24 sd (by omega) (by omega)) 21 sd (iz_lo _) (iz_hi _)) 22 sd (by omega) (by omega)) 23 sd (by omega) (by omega)) 24 sd (by omega) (by omega)) 20 sd (by omega) (by omega)), (mfr.upF (mfr.upF (mfr.upF (mfr.upF (mfr.upF (mfr.upF (mfr.upF (mfr.upF (mfr.upF mfr.rf (by decide) _) (by decide) _) (by decide) _) (by decide) _) (by decide) _) (by decide) _) (by decide) _) (by decide) _) (by decide) _), (mo1.up (mo1.up (mo1.up (mo1.up (mo1.up (mo1.up (mo1.up (mo1.up (mo1.up mo1.rf 20 _) 22 _) 23 _) 24 _) 21 _) 22 _) 23 _) 24 _) 20 _), by omega, by omega, by omega⟩)
                              · skip
                                refine lv_aload_n hx hb dX6_step_240 rfl (lv_at hl 4 rfl) ?_
                                refine va_get (D := (dC, dI)) (ci := 6) (v := .ref (ma 4)) (C := RX6) (T := TX6) (N := 44) hx hb hts kt_X6 hown hK hP 0 rfl rfl 4 (by decide) (kx_word hG kq_04_msmall_16 rfl) (fun _ h9 => h9) rfl dX6_step_241 ?_
                                refine lv_bipush (v := iz 20) hx hb dX6_step_244 (by decide) ?_
                                refine lv_iload_n hx hb dX6_step_246 rfl (lv_at hl 6 rfl) ?_
                                refine ki_imul hx hb dX6_step_247 ?_
                                refine lv_iload_n hx hb dX6_step_248 rfl (lv_at hl 3 rfl) ?_
                                refine ki_iadd hx hb dX6_step_249 ?_
                                refine ki_iald (F := F 4) hx hb hK hP 3 2 rfl rfl (by omega) (by omega) (by decide) dX6_step_250 ?_
                                have hbd_237 := hB.2 4 ((20 * p0) + pz)
                                refine lv_bipush (v := iz 48) hx hb dX6_step_251 (by decide) ?_
                                refine ki_icmp_ne (tgt := 262) hx hb dX6_step_253 (by decide) (by omega) (by omega) (by omega) (by omega) (fun c_238 => ?_) (fun c_238 => ?_)
                                · skip
                                  refine lv_aload_n hx hb dX6_step_262 rfl (lv_at hl 4 rfl) ?_
                                  refine va_get (D := (dC, dI)) (ci := 6) (v := .ref (ma 22)) (C := RX6) (T := TX6) (N := 44) hx hb hts kt_X6 hown hK hP 0 rfl rfl 22 (by decide) (kx_word hG kq_05_morder_2 rfl) (fun _ h9 => h9) rfl dX6_step_263 ?_
                                  refine lv_iload_n hx hb dX6_step_266 rfl (lv_at hl 5 rfl) ?_
                                  refine lv_iconst (v := iz 1) hx hb dX6_step_267 (by decide) ?_
                                  refine ki_iast (F := upI (F 22) sd (-1)) hx hb hK hP hD hS 17 16 rfl rfl (by omega) (by omega) (by decide) dX6_step_268 (fun H locs hP hD hS => ?_)
                                  have hP : va_P (dC, dI) kxCl (mW mo ma cs I (va_up (va_up (va_up (va_up (va_up (va_up F 20 (upI (F 20) sd pa)) 22 (upI (F 22) sd (-1))) 23 (upI (F 23) sd 0)) 24 (upI (F 24) sd 0)) 21 (upI (F 21) sd (vp_nar .boolean (iz 1)).toInt)) 22 (upI (upI (F 22) sd (-1)) sd 1))) H := hP
                                  have hD : va_D A (mW mo ma cs I (va_up (va_up (va_up (va_up (va_up (va_up F 20 (upI (F 20) sd pa)) 22 (upI (F 22) sd (-1))) 23 (upI (F 23) sd 0)) 24 (upI (F 24) sd 0)) 21 (upI (F 21) sd (vp_nar .boolean (iz 1)).toInt)) 22 (upI (upI (F 22) sd (-1)) sd 1))) := hD
                                  refine lv_aload_n hx hb dX6_step_269 rfl (lv_at hl 4 rfl) ?_
                                  refine va_get (D := (dC, dI)) (ci := 6) (v := .ref (ma 23)) (C := RX6) (T := TX6) (N := 44) hx hb hts kt_X6 hown hK hP 0 rfl rfl 23 (by decide) (kx_word hG kq_05_morder_3 rfl) (fun _ h9 => h9) rfl dX6_step_270 ?_
                                  refine lv_iload_n hx hb dX6_step_273 rfl (lv_at hl 5 rfl) ?_
                                  refine lv_bipush (v := iz 20) hx hb dX6_step_274 (by decide) ?_
                                  refine lv_iload_n hx hb dX6_step_276 rfl (lv_at hl 6 rfl) ?_
                                  refine ki_imul hx hb dX6_step_277 ?_
                                  refine lv_iload_n hx hb dX6_step_278 rfl (lv_at hl 3 rfl) ?_
                                  refine ki_iadd hx hb dX6_step_279 ?_
                                  refine ki_iast (F := upI (F 23) sd 0) hx hb hK hP hD hS 18 17 rfl rfl (by omega) (by omega) (by decide) dX6_step_280 (fun H locs hP hD hS => ?_)
                                  have hP : va_P (dC, dI) kxCl (mW mo ma cs I (va_up (va_up (va_up (va_up (va_up (va_up (va_up F 20 (upI (F 20) sd pa)) 22 (upI (F 22) sd (-1))) 23 (upI (F 23) sd 0)) 24 (upI (F 24) sd 0)) 21 (upI (F 21) sd (vp_nar .boolean (iz 1)).toInt)) 22 (upI (upI (F 22) sd (-1)) sd 1)) 23 (upI (upI (F 23) sd 0) sd ((20 * p0) + pz)))) H := hP
                                  have hD : va_D A (mW mo ma cs I (va_up (va_up (va_up (va_up (va_up (va_up (va_up F 20 (upI (F 20) sd pa)) 22 (upI (F 22) sd (-1))) 23 (upI (F 23) sd 0)) 24 (upI (F 24) sd 0)) 21 (upI (F 21) sd (vp_nar .boolean (iz 1)).toInt)) 22 (upI (upI (F 22) sd (-1)) sd 1)) 23 (upI (upI (F 23) sd 0) sd ((20 * p0) + pz)))) := hD
                                  refine lv_aload_n hx hb dX6_step_281 rfl (lv_at hl 4 rfl) ?_
                                  refine va_get (D := (dC, dI)) (ci := 6) (v := .ref (ma 24)) (C := RX6) (T := TX6) (N := 44) hx hb hts kt_X6 hown hK hP 0 rfl rfl 24 (by decide) (kx_word hG kq_05_morder_4 rfl) (fun _ h9 => h9) rfl dX6_step_282 ?_
                                  refine lv_iload_n hx hb dX6_step_285 rfl (lv_at hl 5 rfl) ?_
                                  refine lv_iload hx hb dX6_step_286 (lv_at hl 0 rfl) ?_
                                  refine lv_iload_n hx hb dX6_step_288 rfl (lv_at hl 3 rfl) ?_
                                  refine ki_isub hx hb dX6_step_289 ?_
                                  refine ki_iast (F := upI (F 24) sd 0) hx hb hK hP hD hS 19 18 rfl rfl (by omega) (by omega) (by decide) dX6_step_290 (fun H locs hP hD hS => ?_)
                                  have hP : va_P (dC, dI) kxCl (mW mo ma cs I (va_up (va_up (va_up (va_up (va_up (va_up (va_up (va_up F 20 (upI (F 20) sd pa)) 22 (upI (F 22) sd (-1))) 23 (upI (F 23) sd 0)) 24 (upI (F 24) sd 0)) 21 (upI (F 21) sd (vp_nar .boolean (iz 1)).toInt)) 22 (upI (upI (F 22) sd (-1)) sd 1)) 23 (upI (upI (F 23) sd 0) sd ((20 * p0) + pz))) 24 (upI (upI (F 24) sd 0) sd (en - pz)))) H := hP
                                  have hD : va_D A (mW mo ma cs I (va_up (va_up (va_up (va_up (va_up (va_up (va_up (va_up F 20 (upI (F 20) sd pa)) 22 (upI (F 22) sd (-1))) 23 (upI (F 23) sd 0)) 24 (upI (F 24) sd 0)) 21 (upI (F 21) sd (vp_nar .boolean (iz 1)).toInt)) 22 (upI (upI (F 22) sd (-1)) sd 1)) 23 (upI (upI (F 23) sd 0) sd ((20 * p0) + pz))) 24 (upI (upI (F 24) sd 0) sd (en - pz)))) := hD
                                  refine lv_aload_n hx hb dX6_step_291 rfl (lv_at hl 4 rfl) ?_
                                  refine va_get (D := (dC, dI)) (ci := 6) (v := .ref (ma 20)) (C := RX6) (T := TX6) (N := 44) hx hb hts kt_X6 hown hK hP 0 rfl rfl 20 (by decide) (kx_word hG kq_05_morder_0 rfl) (fun _ h9 => h9) rfl dX6_step_292 ?_
                                  refine lv_iload_n hx hb dX6_step_295 rfl (lv_at hl 5 rfl) ?_
                                  refine lv_iload hx hb dX6_step_296 (lv_at hl 0 rfl) ?_
                                  refine ki_iast (F := upI (F 20) sd pa) hx hb hK hP hD hS 15 14 rfl rfl (by omega) (by omega) (by decide) dX6_step_298 (fun H locs hP hD hS => ?_)
                                  have hP : va_P (dC, dI) kxCl (mW mo ma cs I (va_up (va_up (va_up (va_up (va_up (va_up (va_up (va_up (va_up F 20 (upI (F 20) sd pa)) 22 (upI (F 22) sd (-1))) 23 (upI (F 23) sd 0)) 24 (upI (F 24) sd 0)) 21 (upI (F 21) sd (vp_nar .boolean (iz 1)).toInt)) 22 (upI (upI (F 22) sd (-1)) sd 1)) 23 (upI (upI (F 23) sd 0) sd ((20 * p0) + pz))) 24 (upI (upI (F 24) sd 0) sd (en - pz))) 20 (upI (upI (F 20) sd pa) sd en))) H := hP
                                  have hD : va_D A (mW mo ma cs I (va_up (va_up (va_up (va_up (va_up (va_up (va_up (va_up (va_up F 20 (upI (F 20) sd pa)) 22 (upI (F 22) sd (-1))) 23 (upI (F 23) sd 0)) 24 (upI (F 24) sd 0)) 21 (upI (F 21) sd (vp_nar .boolean (iz 1)).toInt)) 22 (upI (upI (F 22) sd (-1)) sd 1)) 23 (upI (upI (F 23) sd 0) sd ((20 * p0) + pz))) 24 (upI (upI (F 24) sd 0) sd (en - pz))) 20 (upI (upI (F 20) sd pa) sd en))) := hD
                                  have e_239 : (va_up (va_up (va_up (va_up (va_up (va_up (va_up (va_up (va_up F 20 (upI (F 20) sd pa)) 22 (upI (F 22) sd (-1))) 23 (upI (F 23) sd 0)) 24 (upI (F 24) sd 0)) 21 (upI (F 21) sd (vp_nar .boolean (iz 1)).toInt)) 22 (upI (upI (F 22) sd (-1)) sd 1)) 23 (upI (upI (F 23) sd 0) sd ((20 * p0) + pz))) 24 (upI (upI (F 24) sd 0) sd (en - pz))) 20 (upI (upI (F 20) sd pa) sd en)) 20 sd = en := upI_self _ _ _
                                  have e_240 : (va_up (va_up (va_up (va_up (va_up (va_up (va_up (va_up (va_up F 20 (upI (F 20) sd pa)) 22 (upI (F 22) sd (-1))) 23 (upI (F 23) sd 0)) 24 (upI (F 24) sd 0)) 21 (upI (F 21) sd (vp_nar .boolean (iz 1)).toInt)) 22 (upI (upI (F 22) sd (-1)) sd 1)) 23 (upI (upI (F 23) sd 0) sd ((20 * p0) + pz))) 24 (upI (upI (F 24) sd 0) sd (en - pz))) 20 (upI (upI (F 20) sd pa) sd en)) 22 sd = 1 := upI_self _ _ _
                                  have e_241 : (va_up (va_up (va_up (va_up (va_up (va_up (va_up (va_up (va_up F 20 (upI (F 20) sd pa)) 22 (upI (F 22) sd (-1))) 23 (upI (F 23) sd 0)) 24 (upI (F 24) sd 0)) 21 (upI (F 21) sd (vp_nar .boolean (iz 1)).toInt)) 22 (upI (upI (F 22) sd (-1)) sd 1)) 23 (upI (upI (F 23) sd 0) sd ((20 * p0) + pz))) 24 (upI (upI (F 24) sd 0) sd (en - pz))) 20 (upI (upI (F 20) sd pa) sd en)) 23 sd = (20 * p0) + pz := upI_self _ _ _
                                  have e_242 : (va_up (va_up (va_up (va_up (va_up (va_up (va_up (va_up (va_up F 20 (upI (F 20) sd pa)) 22 (upI (F 22) sd (-1))) 23 (upI (F 23) sd 0)) 24 (upI (F 24) sd 0)) 21 (upI (F 21) sd (vp_nar .boolean (iz 1)).toInt)) 22 (upI (upI (F 22) sd (-1)) sd 1)) 23 (upI (upI (F 23) sd 0) sd ((20 * p0) + pz))) 24 (upI (upI (F 24) sd 0) sd (en - pz))) 20 (upI (upI (F 20) sd pa) sd en)) 24 sd = en - pz := upI_self _ _ _
                                  have e_243 : (va_up (va_up (va_up (va_up (va_up (va_up (va_up (va_up (va_up F 20 (upI (F 20) sd pa)) 22 (upI (F 22) sd (-1))) 23 (upI (F 23) sd 0)) 24 (upI (F 24) sd 0)) 21 (upI (F 21) sd (vp_nar .boolean (iz 1)).toInt)) 22 (upI (upI (F 22) sd (-1)) sd 1)) 23 (upI (upI (F 23) sd 0) sd ((20 * p0) + pz))) 24 (upI (upI (F 24) sd 0) sd (en - pz))) 20 (upI (upI (F 20) sd pa) sd en)) 21 sd = (vp_nar .boolean (iz 1)).toInt := upI_self _ _ _
                                  rw [← hQe]
                                  exact mk_ret hx hb hr hlocks hP hD hK hS dX6_step_299 (⟨rfl, (mB_f (mB_f (mB_f (mB_f (mB_f (mB_f (mB_f (mB_f (mB_f hB 20 sd (by omega) (by omega)) 22 sd (by omega) (by omega)) 23 sd (by omega) (by omega)) 24 sd (by omega) (by omega)) 21 sd (iz_lo _) (iz_hi _)) 22 sd (by omega) (by omega)) 23 sd (by omega) (by omega)) 24 sd (by omega) (by omega)) 20 sd (by omega) (by omega)), (mfr.upF (mfr.upF (mfr.upF (mfr.upF (mfr.upF (mfr.upF (mfr.upF (mfr.upF (mfr.upF mfr.rf (by decide) _) (by decide) _) (by decide) _) (by decide) _) (by decide) _) (by decide) _) (by decide) _) (by decide) _) (by decide) _), (mo1.up (mo1.up (mo1.up (mo1.up (mo1.up (mo1.up (mo1.up (mo1.up (mo1.up mo1.rf 20 _) 22 _) 23 _) 24 _) 21 _) 22 _) 23 _) 24 _) 20 _), by omega, by omega, by omega⟩)
                                · skip
                                  refine lv_iinc (v := iz (pz + 1)) (lv' := [(3, .int (iz (pz + 1))), (6, .int (iz en)), (5, .int (iz (F 4 ((20 * p0) + pa)))), (4, .int (iz ps)), (0, .ref mo), (1, .int (iz sd)), (2, .int (iz p0))]) hx hb dX6_step_256 hl (k := 3) rfl (iz_add pz 1) (by decide) rfl (fun ls hl => ?_)
                                  refine lv_goto (tgt := 234) hx hb dX6_step_259 (by decide) ?_
                                  exact ih234 (pz + 1) (by omega) (by omega) _ _ hP hD hS ls (lv_sub hl [1, 2, 3, 0, 4, 5, 6] rfl)
                          exact lp234 _ pa (by omega) (Nat.lt_succ_self _) _ _ hP hD hS ls (lv_sub hl [0, 1, 2, 3, 4, 5, 6] rfl)
                        · skip
                          refine lv_iinc (v := iz (en + 1)) (lv' := [(6, .int (iz (en + 1))), (5, .int (iz (F 4 ((20 * p0) + pa)))), (4, .int (iz ps)), (3, .int (iz pa)), (0, .ref mo), (1, .int (iz sd)), (2, .int (iz p0))]) hx hb dX6_step_228 hl (k := 0) rfl (iz_add en 1) (by decide) rfl (fun ls hl => ?_)
                          refine lv_goto (tgt := 192) hx hb dX6_step_231 (by decide) ?_
                          exact ih192 (en + 1) (by omega) (by omega) _ _ hP hD hS ls (lv_sub hl [0, 1, 2, 3, 4, 5, 6] rfl)
                exact lp192 _ (pa + 1) (by omega) (Nat.lt_succ_self _) _ _ hP hD hS ls (lv_sub hl [0, 1, 2, 3, 4, 5, 6] rfl)
              · skip
                refine lv_aload_n hx hb dX6_step_159 rfl (lv_at hl 3 rfl) ?_
                refine va_get (D := (dC, dI)) (ci := 6) (v := .ref (ma 22)) (C := RX6) (T := TX6) (N := 44) hx hb hts kt_X6 hown hK hP 0 rfl rfl 22 (by decide) (kx_word hG kq_05_morder_2 rfl) (fun _ h9 => h9) rfl dX6_step_160 ?_
                refine lv_iload_n hx hb dX6_step_163 rfl (lv_at hl 4 rfl) ?_
                refine lv_iconst (v := iz 2) hx hb dX6_step_164 (by decide) ?_
                refine ki_iast (F := upI (F 22) sd (-1)) hx hb hK hP hD hS 17 16 rfl rfl (by omega) (by omega) (by decide) dX6_step_165 (fun H locs hP hD hS => ?_)
                have hP : va_P (dC, dI) kxCl (mW mo ma cs I (va_up (va_up (va_up (va_up (va_up (va_up F 20 (upI (F 20) sd pa)) 22 (upI (F 22) sd (-1))) 23 (upI (F 23) sd 0)) 24 (upI (F 24) sd 0)) 21 (upI (F 21) sd (vp_nar .boolean (iz 1)).toInt)) 22 (upI (upI (F 22) sd (-1)) sd 2))) H := hP
                have hD : va_D A (mW mo ma cs I (va_up (va_up (va_up (va_up (va_up (va_up F 20 (upI (F 20) sd pa)) 22 (upI (F 22) sd (-1))) 23 (upI (F 23) sd 0)) 24 (upI (F 24) sd 0)) 21 (upI (F 21) sd (vp_nar .boolean (iz 1)).toInt)) 22 (upI (upI (F 22) sd (-1)) sd 2))) := hD
                refine lv_aload_n hx hb dX6_step_166 rfl (lv_at hl 3 rfl) ?_
                refine va_get (D := (dC, dI)) (ci := 6) (v := .ref (ma 23)) (C := RX6) (T := TX6) (N := 44) hx hb hts kt_X6 hown hK hP 0 rfl rfl 23 (by decide) (kx_word hG kq_05_morder_3 rfl) (fun _ h9 => h9) rfl dX6_step_167 ?_
                refine lv_iload_n hx hb dX6_step_170 rfl (lv_at hl 4 rfl) ?_
                refine lv_iload hx hb dX6_step_171 (lv_at hl 0 rfl) ?_
                refine mk_calls (As := [.int (iz (F 4 ((20 * p0) + pa)))]) (rest := [.int (iz sd), .ref (ma 23)]) ⟨hx, hb, hml, hown, hts⟩ (k_letterOf l dC dI (F 4 ((20 * p0) + pa)) H.size (by omega) (by omega)) (va_cwS 1 hts (kx_gS kq_05_morder_5 kq_05_morder_6 kq_04_msmall_6 kq_05_morder_7 rfl) rfl rfl rfl (by decide +kernel) ⟨Nat.le_of_ble_eq_true rfl, Nat.le_of_ble_eq_true rfl⟩) hP hD hK hG hZ hS hA rfl hl.1 rfl (Nat.le_of_ble_eq_true rfl) dX6_step_173 ⟨Nat.le_of_ble_eq_true rfl, Nat.le_of_ble_eq_true rfl⟩ (fun z_244 H locs hq_245 hP hS => ?_)
                try dsimp only at hq_245
                refine ki_iast (F := upI (F 23) sd 0) hx hb hK hP hD hS 18 17 rfl rfl (by omega) (by omega) (by decide) dX6_step_176 (fun H locs hP hD hS => ?_)
                have hP : va_P (dC, dI) kxCl (mW mo ma cs I (va_up (va_up (va_up (va_up (va_up (va_up (va_up F 20 (upI (F 20) sd pa)) 22 (upI (F 22) sd (-1))) 23 (upI (F 23) sd 0)) 24 (upI (F 24) sd 0)) 21 (upI (F 21) sd (vp_nar .boolean (iz 1)).toInt)) 22 (upI (upI (F 22) sd (-1)) sd 2)) 23 (upI (upI (F 23) sd 0) sd z_244))) H := hP
                have hD : va_D A (mW mo ma cs I (va_up (va_up (va_up (va_up (va_up (va_up (va_up F 20 (upI (F 20) sd pa)) 22 (upI (F 22) sd (-1))) 23 (upI (F 23) sd 0)) 24 (upI (F 24) sd 0)) 21 (upI (F 21) sd (vp_nar .boolean (iz 1)).toInt)) 22 (upI (upI (F 22) sd (-1)) sd 2)) 23 (upI (upI (F 23) sd 0) sd z_244))) := hD
                refine lv_aload_n hx hb dX6_step_177 rfl (lv_at hl 3 rfl) ?_
                refine va_get (D := (dC, dI)) (ci := 6) (v := .ref (ma 20)) (C := RX6) (T := TX6) (N := 44) hx hb hts kt_X6 hown hK hP 0 rfl rfl 20 (by decide) (kx_word hG kq_05_morder_0 rfl) (fun _ h9 => h9) rfl dX6_step_178 ?_
                refine lv_iload_n hx hb dX6_step_181 rfl (lv_at hl 4 rfl) ?_
                refine lv_iload_n hx hb dX6_step_182 rfl (lv_at hl 2 rfl) ?_
                refine lv_iconst (v := iz 1) hx hb dX6_step_183 (by decide) ?_
                refine ki_iadd hx hb dX6_step_184 ?_
                refine ki_iast (F := upI (F 20) sd pa) hx hb hK hP hD hS 15 14 rfl rfl (by omega) (by omega) (by decide) dX6_step_185 (fun H locs hP hD hS => ?_)
                have hP : va_P (dC, dI) kxCl (mW mo ma cs I (va_up (va_up (va_up (va_up (va_up (va_up (va_up (va_up F 20 (upI (F 20) sd pa)) 22 (upI (F 22) sd (-1))) 23 (upI (F 23) sd 0)) 24 (upI (F 24) sd 0)) 21 (upI (F 21) sd (vp_nar .boolean (iz 1)).toInt)) 22 (upI (upI (F 22) sd (-1)) sd 2)) 23 (upI (upI (F 23) sd 0) sd z_244)) 20 (upI (upI (F 20) sd pa) sd (pa + 1)))) H := hP
                have hD : va_D A (mW mo ma cs I (va_up (va_up (va_up (va_up (va_up (va_up (va_up (va_up F 20 (upI (F 20) sd pa)) 22 (upI (F 22) sd (-1))) 23 (upI (F 23) sd 0)) 24 (upI (F 24) sd 0)) 21 (upI (F 21) sd (vp_nar .boolean (iz 1)).toInt)) 22 (upI (upI (F 22) sd (-1)) sd 2)) 23 (upI (upI (F 23) sd 0) sd z_244)) 20 (upI (upI (F 20) sd pa) sd (pa + 1)))) := hD
                have e_246 : (va_up (va_up (va_up (va_up (va_up (va_up (va_up (va_up F 20 (upI (F 20) sd pa)) 22 (upI (F 22) sd (-1))) 23 (upI (F 23) sd 0)) 24 (upI (F 24) sd 0)) 21 (upI (F 21) sd (vp_nar .boolean (iz 1)).toInt)) 22 (upI (upI (F 22) sd (-1)) sd 2)) 23 (upI (upI (F 23) sd 0) sd z_244)) 20 (upI (upI (F 20) sd pa) sd (pa + 1))) 20 sd = pa + 1 := upI_self _ _ _
                have e_247 : (va_up (va_up (va_up (va_up (va_up (va_up (va_up (va_up F 20 (upI (F 20) sd pa)) 22 (upI (F 22) sd (-1))) 23 (upI (F 23) sd 0)) 24 (upI (F 24) sd 0)) 21 (upI (F 21) sd (vp_nar .boolean (iz 1)).toInt)) 22 (upI (upI (F 22) sd (-1)) sd 2)) 23 (upI (upI (F 23) sd 0) sd z_244)) 20 (upI (upI (F 20) sd pa) sd (pa + 1))) 22 sd = 2 := upI_self _ _ _
                have e_248 : (va_up (va_up (va_up (va_up (va_up (va_up (va_up (va_up F 20 (upI (F 20) sd pa)) 22 (upI (F 22) sd (-1))) 23 (upI (F 23) sd 0)) 24 (upI (F 24) sd 0)) 21 (upI (F 21) sd (vp_nar .boolean (iz 1)).toInt)) 22 (upI (upI (F 22) sd (-1)) sd 2)) 23 (upI (upI (F 23) sd 0) sd z_244)) 20 (upI (upI (F 20) sd pa) sd (pa + 1))) 23 sd = z_244 := upI_self _ _ _
                have e_249 : (va_up (va_up (va_up (va_up (va_up (va_up (va_up (va_up F 20 (upI (F 20) sd pa)) 22 (upI (F 22) sd (-1))) 23 (upI (F 23) sd 0)) 24 (upI (F 24) sd 0)) 21 (upI (F 21) sd (vp_nar .boolean (iz 1)).toInt)) 22 (upI (upI (F 22) sd (-1)) sd 2)) 23 (upI (upI (F 23) sd 0) sd z_244)) 20 (upI (upI (F 20) sd pa) sd (pa + 1))) 24 sd = 0 := upI_self _ _ _
                have e_250 : (va_up (va_up (va_up (va_up (va_up (va_up (va_up (va_up F 20 (upI (F 20) sd pa)) 22 (upI (F 22) sd (-1))) 23 (upI (F 23) sd 0)) 24 (upI (F 24) sd 0)) 21 (upI (F 21) sd (vp_nar .boolean (iz 1)).toInt)) 22 (upI (upI (F 22) sd (-1)) sd 2)) 23 (upI (upI (F 23) sd 0) sd z_244)) 20 (upI (upI (F 20) sd pa) sd (pa + 1))) 21 sd = (vp_nar .boolean (iz 1)).toInt := upI_self _ _ _
                rw [← hQe]
                exact mk_ret hx hb hr hlocks hP hD hK hS dX6_step_186 (⟨rfl, (mB_f (mB_f (mB_f (mB_f (mB_f (mB_f (mB_f (mB_f hB 20 sd (by omega) (by omega)) 22 sd (by omega) (by omega)) 23 sd (by omega) (by omega)) 24 sd (by omega) (by omega)) 21 sd (iz_lo _) (iz_hi _)) 22 sd (by omega) (by omega)) 23 sd (by omega) (by omega)) 20 sd (by omega) (by omega)), (mfr.upF (mfr.upF (mfr.upF (mfr.upF (mfr.upF (mfr.upF (mfr.upF (mfr.upF mfr.rf (by decide) _) (by decide) _) (by decide) _) (by decide) _) (by decide) _) (by decide) _) (by decide) _) (by decide) _), (mo1.up (mo1.up (mo1.up (mo1.up (mo1.up (mo1.up (mo1.up (mo1.up mo1.rf 20 _) 22 _) 23 _) 24 _) 21 _) 22 _) 23 _) 20 _), by omega, by omega, by omega⟩)
            · skip
              refine lv_aload_n hx hb dX6_step_107 rfl (lv_at hl 2 rfl) ?_
              refine va_get (D := (dC, dI)) (ci := 6) (v := .int (iz (I 15))) (C := RX6) (T := TX6) (N := 44) hx hb hts kt_X6 hown hK hP 0 rfl rfl 15 (by decide) (kx_word hG kq_04_msmall_18 rfl) (fun _ h9 => h9) rfl dX6_step_108 ?_
              have hbd_251 := hB.1 15
              refine ki_if_eq (tgt := 131) hx hb dX6_step_111 (by decide) (by omega) (by omega) (fun c_252 => ?_) (fun c_252 => ?_)
              · skip
                refine lv_aload_n hx hb dX6_step_131 rfl (lv_at hl 2 rfl) ?_
                refine va_get (D := (dC, dI)) (ci := 6) (v := .ref (ma 21)) (C := RX6) (T := TX6) (N := 44) hx hb hts kt_X6 hown hK hP 0 rfl rfl 21 (by decide) (kx_word hG kq_05_morder_1 rfl) (fun _ h9 => h9) rfl dX6_step_132 ?_
                refine lv_iload_n hx hb dX6_step_135 rfl (lv_at hl 3 rfl) ?_
                refine lv_iconst (v := iz 1) hx hb dX6_step_136 (by decide) ?_
                refine ki_zast (F := F 21) hx hb hK hP hD hS 16 15 rfl rfl (by omega) (by omega) (by decide) dX6_step_137 (fun H locs hP hD hS => ?_)
                have hP : va_P (dC, dI) kxCl (mW mo ma cs I (va_up (va_up (va_up (va_up (va_up F 20 (upI (F 20) sd pa)) 22 (upI (F 22) sd (-1))) 23 (upI (F 23) sd 0)) 24 (upI (F 24) sd 0)) 21 (upI (F 21) sd (vp_nar .boolean (iz 1)).toInt))) H := hP
                have hD : va_D A (mW mo ma cs I (va_up (va_up (va_up (va_up (va_up F 20 (upI (F 20) sd pa)) 22 (upI (F 22) sd (-1))) 23 (upI (F 23) sd 0)) 24 (upI (F 24) sd 0)) 21 (upI (F 21) sd (vp_nar .boolean (iz 1)).toInt))) := hD
                refine lv_aload_n hx hb dX6_step_138 rfl (lv_at hl 2 rfl) ?_
                refine va_get (D := (dC, dI)) (ci := 6) (v := .ref (ma 4)) (C := RX6) (T := TX6) (N := 44) hx hb hts kt_X6 hown hK hP 0 rfl rfl 4 (by decide) (kx_word hG kq_04_msmall_16 rfl) (fun _ h9 => h9) rfl dX6_step_139 ?_
                refine lv_bipush (v := iz 20) hx hb dX6_step_142 (by decide) ?_
                refine lv_iload_n hx hb dX6_step_144 rfl (lv_at hl 4 rfl) ?_
                refine ki_imul hx hb dX6_step_145 ?_
                refine lv_iload_n hx hb dX6_step_146 rfl (lv_at hl 1 rfl) ?_
                refine ki_iadd hx hb dX6_step_147 ?_
                refine ki_iald (F := F 4) hx hb hK hP 3 2 rfl rfl (by omega) (by omega) (by decide) dX6_step_148 ?_
                refine lv_istore (lv' := [(5, .int (iz (F 4 ((20 * p0) + pa)))), (4, .int (iz ps)), (3, .int (iz pa)), (0, .ref mo), (1, .int (iz sd)), (2, .int (iz p0))]) hx hb dX6_step_149 hl (by decide) rfl (fun ls hl => ?_)
                refine lv_iload hx hb dX6_step_151 (lv_at hl 0 rfl) ?_
                refine mk_calls (As := [.int (iz (F 4 ((20 * p0) + pa)))]) (rest := []) ⟨hx, hb, hml, hown, hts⟩ (k_letterOf l dC dI (F 4 ((20 * p0) + pa)) H.size (by omega) (by omega)) (va_cwS 1 hts (kx_gS kq_05_morder_5 kq_05_morder_6 kq_04_msmall_6 kq_05_morder_7 rfl) rfl rfl rfl (by decide +kernel) ⟨Nat.le_of_ble_eq_true rfl, Nat.le_of_ble_eq_true rfl⟩) hP hD hK hG hZ hS hA rfl hl.1 rfl (Nat.le_of_ble_eq_true rfl) dX6_step_153 ⟨Nat.le_of_ble_eq_true rfl, Nat.le_of_ble_eq_true rfl⟩ (fun z_253 H locs hq_254 hP hS => ?_)
                try dsimp only at hq_254
                refine ki_if_le (tgt := 187) hx hb dX6_step_156 (by decide) (by omega) (by omega) (fun c_255 => ?_) (fun c_255 => ?_)
                · skip
                  refine lv_iload_n hx hb dX6_step_187 rfl (lv_at hl 2 rfl) ?_
                  refine lv_iconst (v := iz 1) hx hb dX6_step_188 (by decide) ?_
                  refine ki_iadd hx hb dX6_step_189 ?_
                  refine lv_istore (lv' := [(6, .int (iz (pa + 1))), (5, .int (iz (F 4 ((20 * p0) + pa)))), (4, .int (iz ps)), (3, .int (iz pa)), (0, .ref mo), (1, .int (iz sd)), (2, .int (iz p0))]) hx hb dX6_step_190 hl (by decide) rfl (fun ls hl => ?_)
                  have lp192 : ∀ (n : Nat) (en : Int), ((pa + 1 ≤ en ∧ en ≤ F 5 p0)) → (F 5 p0 - en).toNat < n → ∀ (H : Heap) (locs : List Loc), va_P (dC, dI) kxCl (mW mo ma cs I (va_up (va_up (va_up (va_up (va_up F 20 (upI (F 20) sd pa)) 22 (upI (F 22) sd (-1))) 23 (upI (F 23) sd 0)) 24 (upI (F 24) sd 0)) 21 (upI (F 21) sd (vp_nar .boolean (iz 1)).toInt))) H → va_D A (mW mo ma cs I (va_up (va_up (va_up (va_up (va_up F 20 (upI (F 20) sd pa)) 22 (upI (F 22) sd (-1))) 23 (upI (F 23) sd 0)) 24 (upI (F 24) sd 0)) 21 (upI (F 21) sd (vp_nar .boolean (iz 1)).toInt))) → va_S A s.heap H locs → ∀ ls : Array Slot, lv_has ls 7 [(6, .int (iz en)), (5, .int (iz (F 4 ((20 * p0) + pa)))), (4, .int (iz ps)), (3, .int (iz pa)), (0, .ref mo), (1, .int (iz sd)), (2, .int (iz p0))] → W p l e (headSpec [.code yX6_step cX6_step 7 none] ({ frames := 1, cells := 0, slots := 0, locals := 21 })).room s m ([.ref mo, .int (iz sd), .int (iz p0)] : List Value).toArray below meth c H locs 0 0 QQ (F0 m 192 ls []) := by
                    intro n
                    induction n with
                    | zero => intro en hinv hm; exact absurd hm (Nat.not_lt_zero _)
                    | succ n ih192 =>
                      intro en hinv hm H locs hP hD hS ls hl
                      have hen := hinv
                      refine lv_aload_n hx hb dX6_step_192 rfl (lv_at hl 4 rfl) ?_
                      refine va_get (D := (dC, dI)) (ci := 6) (v := .int (iz (I 14))) (C := RX6) (T := TX6) (N := 44) hx hb hts kt_X6 hown hK hP 0 rfl rfl 14 (by decide) (kx_word hG kq_04_msmall_17 rfl) (fun _ h9 => h9) rfl dX6_step_193 ?_
                      have hbd_256 := hB.1 14
                      refine ki_if_eq (tgt := 234) hx hb dX6_step_196 (by decide) (by omega) (by omega) (fun c_257 => ?_) (fun c_257 => ?_)
                      · skip
                        have lp234 : ∀ (n : Nat) (pz : Int), ((pa ≤ pz ∧ pz ≤ en)) → (en - pz).toNat < n → ∀ (H : Heap) (locs : List Loc), va_P (dC, dI) kxCl (mW mo ma cs I (va_up (va_up (va_up (va_up (va_up F 20 (upI (F 20) sd pa)) 22 (upI (F 22) sd (-1))) 23 (upI (F 23) sd 0)) 24 (upI (F 24) sd 0)) 21 (upI (F 21) sd (vp_nar .boolean (iz 1)).toInt))) H → va_D A (mW mo ma cs I (va_up (va_up (va_up (va_up (va_up F 20 (upI (F 20) sd pa)) 22 (upI (F 22) sd (-1))) 23 (upI (F 23) sd 0)) 24 (upI (F 24) sd 0)) 21 (upI (F 21) sd (vp_nar .boolean (iz 1)).toInt))) → va_S A s.heap H locs → ∀ ls : Array Slot, lv_has ls 7 [(6, .int (iz en)), (5, .int (iz (F 4 ((20 * p0) + pa)))), (4, .int (iz ps)), (3, .int (iz pz)), (0, .ref mo), (1, .int (iz sd)), (2, .int (iz p0))] → W p l e (headSpec [.code yX6_step cX6_step 7 none] ({ frames := 1, cells := 0, slots := 0, locals := 21 })).room s m ([.ref mo, .int (iz sd), .int (iz p0)] : List Value).toArray below meth c H locs 0 0 QQ (F0 m 234 ls []) := by
                          intro n
                          induction n with
                          | zero => intro pz hinv hm; exact absurd hm (Nat.not_lt_zero _)
                          | succ n ih234 =>
                            intro pz hinv hm H locs hP hD hS ls hl
                            have hpz := hinv
                            refine lv_iload_n hx hb dX6_step_234 rfl (lv_at hl 3 rfl) ?_
                            refine lv_iload hx hb dX6_step_235 (lv_at hl 0 rfl) ?_
                            refine ki_icmp_ge (tgt := 262) hx hb dX6_step_237 (by decide) (by omega) (by omega) (by omega) (by omega) (fun c_258 => ?_) (fun c_258 => ?_)
                            · skip
                              refine lv_aload_n hx hb dX6_step_262 rfl (lv_at hl 4 rfl) ?_
                              refine va_get (D := (dC, dI)) (ci := 6) (v := .ref (ma 22)) (C := RX6) (T := TX6) (N := 44) hx hb hts kt_X6 hown hK hP 0 rfl rfl 22 (by decide) (kx_word hG kq_05_morder_2 rfl) (fun _ h9 => h9) rfl dX6_step_263 ?_
                              refine lv_iload_n hx hb dX6_step_266 rfl (lv_at hl 5 rfl) ?_
                              refine lv_iconst (v := iz 1) hx hb dX6_step_267 (by decide) ?_
                              refine ki_iast (F := upI (F 22) sd (-1)) hx hb hK hP hD hS 17 16 rfl rfl (by omega) (by omega) (by decide) dX6_step_268 (fun H locs hP hD hS => ?_)
                              have hP : va_P (dC, dI) kxCl (mW mo ma cs I (va_up (va_up (va_up (va_up (va_up (va_up F 20 (upI (F 20) sd pa)) 22 (upI (F 22) sd (-1))) 23 (upI (F 23) sd 0)) 24 (upI (F 24) sd 0)) 21 (upI (F 21) sd (vp_nar .boolean (iz 1)).toInt)) 22 (upI (upI (F 22) sd (-1)) sd 1))) H := hP
                              have hD : va_D A (mW mo ma cs I (va_up (va_up (va_up (va_up (va_up (va_up F 20 (upI (F 20) sd pa)) 22 (upI (F 22) sd (-1))) 23 (upI (F 23) sd 0)) 24 (upI (F 24) sd 0)) 21 (upI (F 21) sd (vp_nar .boolean (iz 1)).toInt)) 22 (upI (upI (F 22) sd (-1)) sd 1))) := hD
                              refine lv_aload_n hx hb dX6_step_269 rfl (lv_at hl 4 rfl) ?_
                              refine va_get (D := (dC, dI)) (ci := 6) (v := .ref (ma 23)) (C := RX6) (T := TX6) (N := 44) hx hb hts kt_X6 hown hK hP 0 rfl rfl 23 (by decide) (kx_word hG kq_05_morder_3 rfl) (fun _ h9 => h9) rfl dX6_step_270 ?_
                              refine lv_iload_n hx hb dX6_step_273 rfl (lv_at hl 5 rfl) ?_
                              refine lv_bipush (v := iz 20) hx hb dX6_step_274 (by decide) ?_
                              refine lv_iload_n hx hb dX6_step_276 rfl (lv_at hl 6 rfl) ?_
                              refine ki_imul hx hb dX6_step_277 ?_
                              refine lv_iload_n hx hb dX6_step_278 rfl (lv_at hl 3 rfl) ?_
                              refine ki_iadd hx hb dX6_step_279 ?_
                              refine ki_iast (F := upI (F 23) sd 0) hx hb hK hP hD hS 18 17 rfl rfl (by omega) (by omega) (by decide) dX6_step_280 (fun H locs hP hD hS => ?_)
                              have hP : va_P (dC, dI) kxCl (mW mo ma cs I (va_up (va_up (va_up (va_up (va_up (va_up (va_up F 20 (upI (F 20) sd pa)) 22 (upI (F 22) sd (-1))) 23 (upI (F 23) sd 0)) 24 (upI (F 24) sd 0)) 21 (upI (F 21) sd (vp_nar .boolean (iz 1)).toInt)) 22 (upI (upI (F 22) sd (-1)) sd 1)) 23 (upI (upI (F 23) sd 0) sd ((20 * p0) + pz)))) H := hP
                              have hD : va_D A (mW mo ma cs I (va_up (va_up (va_up (va_up (va_up (va_up (va_up F 20 (upI (F 20) sd pa)) 22 (upI (F 22) sd (-1))) 23 (upI (F 23) sd 0)) 24 (upI (F 24) sd 0)) 21 (upI (F 21) sd (vp_nar .boolean (iz 1)).toInt)) 22 (upI (upI (F 22) sd (-1)) sd 1)) 23 (upI (upI (F 23) sd 0) sd ((20 * p0) + pz)))) := hD
                              refine lv_aload_n hx hb dX6_step_281 rfl (lv_at hl 4 rfl) ?_
                              refine va_get (D := (dC, dI)) (ci := 6) (v := .ref (ma 24)) (C := RX6) (T := TX6) (N := 44) hx hb hts kt_X6 hown hK hP 0 rfl rfl 24 (by decide) (kx_word hG kq_05_morder_4 rfl) (fun _ h9 => h9) rfl dX6_step_282 ?_
                              refine lv_iload_n hx hb dX6_step_285 rfl (lv_at hl 5 rfl) ?_
                              refine lv_iload hx hb dX6_step_286 (lv_at hl 0 rfl) ?_
                              refine lv_iload_n hx hb dX6_step_288 rfl (lv_at hl 3 rfl) ?_
                              refine ki_isub hx hb dX6_step_289 ?_
                              refine ki_iast (F := upI (F 24) sd 0) hx hb hK hP hD hS 19 18 rfl rfl (by omega) (by omega) (by decide) dX6_step_290 (fun H locs hP hD hS => ?_)
                              have hP : va_P (dC, dI) kxCl (mW mo ma cs I (va_up (va_up (va_up (va_up (va_up (va_up (va_up (va_up F 20 (upI (F 20) sd pa)) 22 (upI (F 22) sd (-1))) 23 (upI (F 23) sd 0)) 24 (upI (F 24) sd 0)) 21 (upI (F 21) sd (vp_nar .boolean (iz 1)).toInt)) 22 (upI (upI (F 22) sd (-1)) sd 1)) 23 (upI (upI (F 23) sd 0) sd ((20 * p0) + pz))) 24 (upI (upI (F 24) sd 0) sd (en - pz)))) H := hP
                              have hD : va_D A (mW mo ma cs I (va_up (va_up (va_up (va_up (va_up (va_up (va_up (va_up F 20 (upI (F 20) sd pa)) 22 (upI (F 22) sd (-1))) 23 (upI (F 23) sd 0)) 24 (upI (F 24) sd 0)) 21 (upI (F 21) sd (vp_nar .boolean (iz 1)).toInt)) 22 (upI (upI (F 22) sd (-1)) sd 1)) 23 (upI (upI (F 23) sd 0) sd ((20 * p0) + pz))) 24 (upI (upI (F 24) sd 0) sd (en - pz)))) := hD
                              refine lv_aload_n hx hb dX6_step_291 rfl (lv_at hl 4 rfl) ?_
                              refine va_get (D := (dC, dI)) (ci := 6) (v := .ref (ma 20)) (C := RX6) (T := TX6) (N := 44) hx hb hts kt_X6 hown hK hP 0 rfl rfl 20 (by decide) (kx_word hG kq_05_morder_0 rfl) (fun _ h9 => h9) rfl dX6_step_292 ?_
                              refine lv_iload_n hx hb dX6_step_295 rfl (lv_at hl 5 rfl) ?_
                              refine lv_iload hx hb dX6_step_296 (lv_at hl 0 rfl) ?_
                              refine ki_iast (F := upI (F 20) sd pa) hx hb hK hP hD hS 15 14 rfl rfl (by omega) (by omega) (by decide) dX6_step_298 (fun H locs hP hD hS => ?_)
                              have hP : va_P (dC, dI) kxCl (mW mo ma cs I (va_up (va_up (va_up (va_up (va_up (va_up (va_up (va_up (va_up F 20 (upI (F 20) sd pa)) 22 (upI (F 22) sd (-1))) 23 (upI (F 23) sd 0)) 24 (upI (F 24) sd 0)) 21 (upI (F 21) sd (vp_nar .boolean (iz 1)).toInt)) 22 (upI (upI (F 22) sd (-1)) sd 1)) 23 (upI (upI (F 23) sd 0) sd ((20 * p0) + pz))) 24 (upI (upI (F 24) sd 0) sd (en - pz))) 20 (upI (upI (F 20) sd pa) sd en))) H := hP
                              have hD : va_D A (mW mo ma cs I (va_up (va_up (va_up (va_up (va_up (va_up (va_up (va_up (va_up F 20 (upI (F 20) sd pa)) 22 (upI (F 22) sd (-1))) 23 (upI (F 23) sd 0)) 24 (upI (F 24) sd 0)) 21 (upI (F 21) sd (vp_nar .boolean (iz 1)).toInt)) 22 (upI (upI (F 22) sd (-1)) sd 1)) 23 (upI (upI (F 23) sd 0) sd ((20 * p0) + pz))) 24 (upI (upI (F 24) sd 0) sd (en - pz))) 20 (upI (upI (F 20) sd pa) sd en))) := hD
                              have e_259 : (va_up (va_up (va_up (va_up (va_up (va_up (va_up (va_up (va_up F 20 (upI (F 20) sd pa)) 22 (upI (F 22) sd (-1))) 23 (upI (F 23) sd 0)) 24 (upI (F 24) sd 0)) 21 (upI (F 21) sd (vp_nar .boolean (iz 1)).toInt)) 22 (upI (upI (F 22) sd (-1)) sd 1)) 23 (upI (upI (F 23) sd 0) sd ((20 * p0) + pz))) 24 (upI (upI (F 24) sd 0) sd (en - pz))) 20 (upI (upI (F 20) sd pa) sd en)) 20 sd = en := upI_self _ _ _
                              have e_260 : (va_up (va_up (va_up (va_up (va_up (va_up (va_up (va_up (va_up F 20 (upI (F 20) sd pa)) 22 (upI (F 22) sd (-1))) 23 (upI (F 23) sd 0)) 24 (upI (F 24) sd 0)) 21 (upI (F 21) sd (vp_nar .boolean (iz 1)).toInt)) 22 (upI (upI (F 22) sd (-1)) sd 1)) 23 (upI (upI (F 23) sd 0) sd ((20 * p0) + pz))) 24 (upI (upI (F 24) sd 0) sd (en - pz))) 20 (upI (upI (F 20) sd pa) sd en)) 22 sd = 1 := upI_self _ _ _
                              have e_261 : (va_up (va_up (va_up (va_up (va_up (va_up (va_up (va_up (va_up F 20 (upI (F 20) sd pa)) 22 (upI (F 22) sd (-1))) 23 (upI (F 23) sd 0)) 24 (upI (F 24) sd 0)) 21 (upI (F 21) sd (vp_nar .boolean (iz 1)).toInt)) 22 (upI (upI (F 22) sd (-1)) sd 1)) 23 (upI (upI (F 23) sd 0) sd ((20 * p0) + pz))) 24 (upI (upI (F 24) sd 0) sd (en - pz))) 20 (upI (upI (F 20) sd pa) sd en)) 23 sd = (20 * p0) + pz := upI_self _ _ _
                              have e_262 : (va_up (va_up (va_up (va_up (va_up (va_up (va_up (va_up (va_up F 20 (upI (F 20) sd pa)) 22 (upI (F 22) sd (-1))) 23 (upI (F 23) sd 0)) 24 (upI (F 24) sd 0)) 21 (upI (F 21) sd (vp_nar .boolean (iz 1)).toInt)) 22 (upI (upI (F 22) sd (-1)) sd 1)) 23 (upI (upI (F 23) sd 0) sd ((20 * p0) + pz))) 24 (upI (upI (F 24) sd 0) sd (en - pz))) 20 (upI (upI (F 20) sd pa) sd en)) 24 sd = en - pz := upI_self _ _ _
                              have e_263 : (va_up (va_up (va_up (va_up (va_up (va_up (va_up (va_up (va_up F 20 (upI (F 20) sd pa)) 22 (upI (F 22) sd (-1))) 23 (upI (F 23) sd 0)) 24 (upI (F 24) sd 0)) 21 (upI (F 21) sd (vp_nar .boolean (iz 1)).toInt)) 22 (upI (upI (F 22) sd (-1)) sd 1)) 23 (upI (upI (F 23) sd 0) sd ((20 * p0) + pz))) 24 (upI (upI (F 24) sd 0) sd (en - pz))) 20 (upI (upI (F 20) sd pa) sd en)) 21 sd = (vp_nar .boolean (iz 1)).toInt := upI_self _ _ _
                              rw [← hQe]
                              exact mk_ret hx hb hr hlocks hP hD hK hS dX6_step_299 (⟨rfl, (mB_f (mB_f (mB_f (mB_f (mB_f (mB_f (mB_f (mB_f (mB_f hB 20 sd (by omega) (by omega)) 22 sd (by omega) (by omega)) 23 sd (by omega) (by omega)) 24 sd (by omega) (by omega)) 21 sd (iz_lo _) (iz_hi _)) 22 sd (by omega) (by omega)) 23 sd (by omega) (by omega)) 24 sd (by omega) (by omega)) 20 sd (by omega) (by omega)), (mfr.upF (mfr.upF (mfr.upF (mfr.upF (mfr.upF (mfr.upF (mfr.upF (mfr.upF (mfr.upF mfr.rf (by decide) _) (by decide) _) (by decide) _) (by decide) _) (by decide) _) (by decide) _) (by decide) _) (by decide) _) (by decide) _), (mo1.up (mo1.up (mo1.up (mo1.up (mo1.up (mo1.up (mo1.up (mo1.up (mo1.up mo1.rf 20 _) 22 _) 23 _) 24 _) 21 _) 22 _) 23 _) 24 _) 20 _), by omega, by omega, by omega⟩)
                            · skip
                              refine lv_aload_n hx hb dX6_step_240 rfl (lv_at hl 4 rfl) ?_
                              refine va_get (D := (dC, dI)) (ci := 6) (v := .ref (ma 4)) (C := RX6) (T := TX6) (N := 44) hx hb hts kt_X6 hown hK hP 0 rfl rfl 4 (by decide) (kx_word hG kq_04_msmall_16 rfl) (fun _ h9 => h9) rfl dX6_step_241 ?_
                              refine lv_bipush (v := iz 20) hx hb dX6_step_244 (by decide) ?_
                              refine lv_iload_n hx hb dX6_step_246 rfl (lv_at hl 6 rfl) ?_
                              refine ki_imul hx hb dX6_step_247 ?_
                              refine lv_iload_n hx hb dX6_step_248 rfl (lv_at hl 3 rfl) ?_
                              refine ki_iadd hx hb dX6_step_249 ?_
                              refine ki_iald (F := F 4) hx hb hK hP 3 2 rfl rfl (by omega) (by omega) (by decide) dX6_step_250 ?_
                              have hbd_264 := hB.2 4 ((20 * p0) + pz)
                              refine lv_bipush (v := iz 48) hx hb dX6_step_251 (by decide) ?_
                              refine ki_icmp_ne (tgt := 262) hx hb dX6_step_253 (by decide) (by omega) (by omega) (by omega) (by omega) (fun c_265 => ?_) (fun c_265 => ?_)
                              · skip
                                refine lv_aload_n hx hb dX6_step_262 rfl (lv_at hl 4 rfl) ?_
                                refine va_get (D := (dC, dI)) (ci := 6) (v := .ref (ma 22)) (C := RX6) (T := TX6) (N := 44) hx hb hts kt_X6 hown hK hP 0 rfl rfl 22 (by decide) (kx_word hG kq_05_morder_2 rfl) (fun _ h9 => h9) rfl dX6_step_263 ?_
                                refine lv_iload_n hx hb dX6_step_266 rfl (lv_at hl 5 rfl) ?_
                                refine lv_iconst (v := iz 1) hx hb dX6_step_267 (by decide) ?_
                                refine ki_iast (F := upI (F 22) sd (-1)) hx hb hK hP hD hS 17 16 rfl rfl (by omega) (by omega) (by decide) dX6_step_268 (fun H locs hP hD hS => ?_)
                                have hP : va_P (dC, dI) kxCl (mW mo ma cs I (va_up (va_up (va_up (va_up (va_up (va_up F 20 (upI (F 20) sd pa)) 22 (upI (F 22) sd (-1))) 23 (upI (F 23) sd 0)) 24 (upI (F 24) sd 0)) 21 (upI (F 21) sd (vp_nar .boolean (iz 1)).toInt)) 22 (upI (upI (F 22) sd (-1)) sd 1))) H := hP
                                have hD : va_D A (mW mo ma cs I (va_up (va_up (va_up (va_up (va_up (va_up F 20 (upI (F 20) sd pa)) 22 (upI (F 22) sd (-1))) 23 (upI (F 23) sd 0)) 24 (upI (F 24) sd 0)) 21 (upI (F 21) sd (vp_nar .boolean (iz 1)).toInt)) 22 (upI (upI (F 22) sd (-1)) sd 1))) := hD
                                refine lv_aload_n hx hb dX6_step_269 rfl (lv_at hl 4 rfl) ?_
                                refine va_get (D := (dC, dI)) (ci := 6) (v := .ref (ma 23)) (C := RX6) (T := TX6) (N := 44) hx hb hts kt_X6 hown hK hP 0 rfl rfl 23 (by decide) (kx_word hG kq_05_morder_3 rfl) (fun _ h9 => h9) rfl dX6_step_270 ?_
                                refine lv_iload_n hx hb dX6_step_273 rfl (lv_at hl 5 rfl) ?_
                                refine lv_bipush (v := iz 20) hx hb dX6_step_274 (by decide) ?_
                                refine lv_iload_n hx hb dX6_step_276 rfl (lv_at hl 6 rfl) ?_
                                refine ki_imul hx hb dX6_step_277 ?_
                                refine lv_iload_n hx hb dX6_step_278 rfl (lv_at hl 3 rfl) ?_
                                refine ki_iadd hx hb dX6_step_279 ?_
                                refine ki_iast (F := upI (F 23) sd 0) hx hb hK hP hD hS 18 17 rfl rfl (by omega) (by omega) (by decide) dX6_step_280 (fun H locs hP hD hS => ?_)
                                have hP : va_P (dC, dI) kxCl (mW mo ma cs I (va_up (va_up (va_up (va_up (va_up (va_up (va_up F 20 (upI (F 20) sd pa)) 22 (upI (F 22) sd (-1))) 23 (upI (F 23) sd 0)) 24 (upI (F 24) sd 0)) 21 (upI (F 21) sd (vp_nar .boolean (iz 1)).toInt)) 22 (upI (upI (F 22) sd (-1)) sd 1)) 23 (upI (upI (F 23) sd 0) sd ((20 * p0) + pz)))) H := hP
                                have hD : va_D A (mW mo ma cs I (va_up (va_up (va_up (va_up (va_up (va_up (va_up F 20 (upI (F 20) sd pa)) 22 (upI (F 22) sd (-1))) 23 (upI (F 23) sd 0)) 24 (upI (F 24) sd 0)) 21 (upI (F 21) sd (vp_nar .boolean (iz 1)).toInt)) 22 (upI (upI (F 22) sd (-1)) sd 1)) 23 (upI (upI (F 23) sd 0) sd ((20 * p0) + pz)))) := hD
                                refine lv_aload_n hx hb dX6_step_281 rfl (lv_at hl 4 rfl) ?_
                                refine va_get (D := (dC, dI)) (ci := 6) (v := .ref (ma 24)) (C := RX6) (T := TX6) (N := 44) hx hb hts kt_X6 hown hK hP 0 rfl rfl 24 (by decide) (kx_word hG kq_05_morder_4 rfl) (fun _ h9 => h9) rfl dX6_step_282 ?_
                                refine lv_iload_n hx hb dX6_step_285 rfl (lv_at hl 5 rfl) ?_
                                refine lv_iload hx hb dX6_step_286 (lv_at hl 0 rfl) ?_
                                refine lv_iload_n hx hb dX6_step_288 rfl (lv_at hl 3 rfl) ?_
                                refine ki_isub hx hb dX6_step_289 ?_
                                refine ki_iast (F := upI (F 24) sd 0) hx hb hK hP hD hS 19 18 rfl rfl (by omega) (by omega) (by decide) dX6_step_290 (fun H locs hP hD hS => ?_)
                                have hP : va_P (dC, dI) kxCl (mW mo ma cs I (va_up (va_up (va_up (va_up (va_up (va_up (va_up (va_up F 20 (upI (F 20) sd pa)) 22 (upI (F 22) sd (-1))) 23 (upI (F 23) sd 0)) 24 (upI (F 24) sd 0)) 21 (upI (F 21) sd (vp_nar .boolean (iz 1)).toInt)) 22 (upI (upI (F 22) sd (-1)) sd 1)) 23 (upI (upI (F 23) sd 0) sd ((20 * p0) + pz))) 24 (upI (upI (F 24) sd 0) sd (en - pz)))) H := hP
                                have hD : va_D A (mW mo ma cs I (va_up (va_up (va_up (va_up (va_up (va_up (va_up (va_up F 20 (upI (F 20) sd pa)) 22 (upI (F 22) sd (-1))) 23 (upI (F 23) sd 0)) 24 (upI (F 24) sd 0)) 21 (upI (F 21) sd (vp_nar .boolean (iz 1)).toInt)) 22 (upI (upI (F 22) sd (-1)) sd 1)) 23 (upI (upI (F 23) sd 0) sd ((20 * p0) + pz))) 24 (upI (upI (F 24) sd 0) sd (en - pz)))) := hD
                                refine lv_aload_n hx hb dX6_step_291 rfl (lv_at hl 4 rfl) ?_
                                refine va_get (D := (dC, dI)) (ci := 6) (v := .ref (ma 20)) (C := RX6) (T := TX6) (N := 44) hx hb hts kt_X6 hown hK hP 0 rfl rfl 20 (by decide) (kx_word hG kq_05_morder_0 rfl) (fun _ h9 => h9) rfl dX6_step_292 ?_
                                refine lv_iload_n hx hb dX6_step_295 rfl (lv_at hl 5 rfl) ?_
                                refine lv_iload hx hb dX6_step_296 (lv_at hl 0 rfl) ?_
                                refine ki_iast (F := upI (F 20) sd pa) hx hb hK hP hD hS 15 14 rfl rfl (by omega) (by omega) (by decide) dX6_step_298 (fun H locs hP hD hS => ?_)
                                have hP : va_P (dC, dI) kxCl (mW mo ma cs I (va_up (va_up (va_up (va_up (va_up (va_up (va_up (va_up (va_up F 20 (upI (F 20) sd pa)) 22 (upI (F 22) sd (-1))) 23 (upI (F 23) sd 0)) 24 (upI (F 24) sd 0)) 21 (upI (F 21) sd (vp_nar .boolean (iz 1)).toInt)) 22 (upI (upI (F 22) sd (-1)) sd 1)) 23 (upI (upI (F 23) sd 0) sd ((20 * p0) + pz))) 24 (upI (upI (F 24) sd 0) sd (en - pz))) 20 (upI (upI (F 20) sd pa) sd en))) H := hP
                                have hD : va_D A (mW mo ma cs I (va_up (va_up (va_up (va_up (va_up (va_up (va_up (va_up (va_up F 20 (upI (F 20) sd pa)) 22 (upI (F 22) sd (-1))) 23 (upI (F 23) sd 0)) 24 (upI (F 24) sd 0)) 21 (upI (F 21) sd (vp_nar .boolean (iz 1)).toInt)) 22 (upI (upI (F 22) sd (-1)) sd 1)) 23 (upI (upI (F 23) sd 0) sd ((20 * p0) + pz))) 24 (upI (upI (F 24) sd 0) sd (en - pz))) 20 (upI (upI (F 20) sd pa) sd en))) := hD
                                have e_266 : (va_up (va_up (va_up (va_up (va_up (va_up (va_up (va_up (va_up F 20 (upI (F 20) sd pa)) 22 (upI (F 22) sd (-1))) 23 (upI (F 23) sd 0)) 24 (upI (F 24) sd 0)) 21 (upI (F 21) sd (vp_nar .boolean (iz 1)).toInt)) 22 (upI (upI (F 22) sd (-1)) sd 1)) 23 (upI (upI (F 23) sd 0) sd ((20 * p0) + pz))) 24 (upI (upI (F 24) sd 0) sd (en - pz))) 20 (upI (upI (F 20) sd pa) sd en)) 20 sd = en := upI_self _ _ _
                                have e_267 : (va_up (va_up (va_up (va_up (va_up (va_up (va_up (va_up (va_up F 20 (upI (F 20) sd pa)) 22 (upI (F 22) sd (-1))) 23 (upI (F 23) sd 0)) 24 (upI (F 24) sd 0)) 21 (upI (F 21) sd (vp_nar .boolean (iz 1)).toInt)) 22 (upI (upI (F 22) sd (-1)) sd 1)) 23 (upI (upI (F 23) sd 0) sd ((20 * p0) + pz))) 24 (upI (upI (F 24) sd 0) sd (en - pz))) 20 (upI (upI (F 20) sd pa) sd en)) 22 sd = 1 := upI_self _ _ _
                                have e_268 : (va_up (va_up (va_up (va_up (va_up (va_up (va_up (va_up (va_up F 20 (upI (F 20) sd pa)) 22 (upI (F 22) sd (-1))) 23 (upI (F 23) sd 0)) 24 (upI (F 24) sd 0)) 21 (upI (F 21) sd (vp_nar .boolean (iz 1)).toInt)) 22 (upI (upI (F 22) sd (-1)) sd 1)) 23 (upI (upI (F 23) sd 0) sd ((20 * p0) + pz))) 24 (upI (upI (F 24) sd 0) sd (en - pz))) 20 (upI (upI (F 20) sd pa) sd en)) 23 sd = (20 * p0) + pz := upI_self _ _ _
                                have e_269 : (va_up (va_up (va_up (va_up (va_up (va_up (va_up (va_up (va_up F 20 (upI (F 20) sd pa)) 22 (upI (F 22) sd (-1))) 23 (upI (F 23) sd 0)) 24 (upI (F 24) sd 0)) 21 (upI (F 21) sd (vp_nar .boolean (iz 1)).toInt)) 22 (upI (upI (F 22) sd (-1)) sd 1)) 23 (upI (upI (F 23) sd 0) sd ((20 * p0) + pz))) 24 (upI (upI (F 24) sd 0) sd (en - pz))) 20 (upI (upI (F 20) sd pa) sd en)) 24 sd = en - pz := upI_self _ _ _
                                have e_270 : (va_up (va_up (va_up (va_up (va_up (va_up (va_up (va_up (va_up F 20 (upI (F 20) sd pa)) 22 (upI (F 22) sd (-1))) 23 (upI (F 23) sd 0)) 24 (upI (F 24) sd 0)) 21 (upI (F 21) sd (vp_nar .boolean (iz 1)).toInt)) 22 (upI (upI (F 22) sd (-1)) sd 1)) 23 (upI (upI (F 23) sd 0) sd ((20 * p0) + pz))) 24 (upI (upI (F 24) sd 0) sd (en - pz))) 20 (upI (upI (F 20) sd pa) sd en)) 21 sd = (vp_nar .boolean (iz 1)).toInt := upI_self _ _ _
                                rw [← hQe]
                                exact mk_ret hx hb hr hlocks hP hD hK hS dX6_step_299 (⟨rfl, (mB_f (mB_f (mB_f (mB_f (mB_f (mB_f (mB_f (mB_f (mB_f hB 20 sd (by omega) (by omega)) 22 sd (by omega) (by omega)) 23 sd (by omega) (by omega)) 24 sd (by omega) (by omega)) 21 sd (iz_lo _) (iz_hi _)) 22 sd (by omega) (by omega)) 23 sd (by omega) (by omega)) 24 sd (by omega) (by omega)) 20 sd (by omega) (by omega)), (mfr.upF (mfr.upF (mfr.upF (mfr.upF (mfr.upF (mfr.upF (mfr.upF (mfr.upF (mfr.upF mfr.rf (by decide) _) (by decide) _) (by decide) _) (by decide) _) (by decide) _) (by decide) _) (by decide) _) (by decide) _) (by decide) _), (mo1.up (mo1.up (mo1.up (mo1.up (mo1.up (mo1.up (mo1.up (mo1.up (mo1.up mo1.rf 20 _) 22 _) 23 _) 24 _) 21 _) 22 _) 23 _) 24 _) 20 _), by omega, by omega, by omega⟩)
                              · skip
                                refine lv_iinc (v := iz (pz + 1)) (lv' := [(3, .int (iz (pz + 1))), (6, .int (iz en)), (5, .int (iz (F 4 ((20 * p0) + pa)))), (4, .int (iz ps)), (0, .ref mo), (1, .int (iz sd)), (2, .int (iz p0))]) hx hb dX6_step_256 hl (k := 3) rfl (iz_add pz 1) (by decide) rfl (fun ls hl => ?_)
                                refine lv_goto (tgt := 234) hx hb dX6_step_259 (by decide) ?_
                                exact ih234 (pz + 1) (by omega) (by omega) _ _ hP hD hS ls (lv_sub hl [1, 2, 3, 0, 4, 5, 6] rfl)
                        exact lp234 _ pa (by omega) (Nat.lt_succ_self _) _ _ hP hD hS ls (lv_sub hl [0, 1, 2, 3, 4, 5, 6] rfl)
                      · skip
                        refine lv_iload hx hb dX6_step_199 (lv_at hl 0 rfl) ?_
                        refine lv_aload_n hx hb dX6_step_201 rfl (lv_at hl 4 rfl) ?_
                        refine va_get (D := (dC, dI)) (ci := 6) (v := .ref (ma 5)) (C := RX6) (T := TX6) (N := 44) hx hb hts kt_X6 hown hK hP 0 rfl rfl 5 (by decide) (kx_word hG kq_04_msmall_15 rfl) (fun _ h9 => h9) rfl dX6_step_202 ?_
                        refine lv_iload_n hx hb dX6_step_205 rfl (lv_at hl 6 rfl) ?_
                        refine ki_iald (F := F 5) hx hb hK hP 4 3 rfl rfl (by omega) (by omega) (by decide) dX6_step_206 ?_
                        refine ki_icmp_ge (tgt := 234) hx hb dX6_step_207 (by decide) (by omega) (by omega) (by omega) (by omega) (fun c_271 => ?_) (fun c_271 => ?_)
                        · skip
                          have lp234 : ∀ (n : Nat) (pz : Int), ((pa ≤ pz ∧ pz ≤ en)) → (en - pz).toNat < n → ∀ (H : Heap) (locs : List Loc), va_P (dC, dI) kxCl (mW mo ma cs I (va_up (va_up (va_up (va_up (va_up F 20 (upI (F 20) sd pa)) 22 (upI (F 22) sd (-1))) 23 (upI (F 23) sd 0)) 24 (upI (F 24) sd 0)) 21 (upI (F 21) sd (vp_nar .boolean (iz 1)).toInt))) H → va_D A (mW mo ma cs I (va_up (va_up (va_up (va_up (va_up F 20 (upI (F 20) sd pa)) 22 (upI (F 22) sd (-1))) 23 (upI (F 23) sd 0)) 24 (upI (F 24) sd 0)) 21 (upI (F 21) sd (vp_nar .boolean (iz 1)).toInt))) → va_S A s.heap H locs → ∀ ls : Array Slot, lv_has ls 7 [(6, .int (iz en)), (5, .int (iz (F 4 ((20 * p0) + pa)))), (4, .int (iz ps)), (3, .int (iz pz)), (0, .ref mo), (1, .int (iz sd)), (2, .int (iz p0))] → W p l e (headSpec [.code yX6_step cX6_step 7 none] ({ frames := 1, cells := 0, slots := 0, locals := 21 })).room s m ([.ref mo, .int (iz sd), .int (iz p0)] : List Value).toArray below meth c H locs 0 0 QQ (F0 m 234 ls []) := by
                            intro n
                            induction n with
                            | zero => intro pz hinv hm; exact absurd hm (Nat.not_lt_zero _)
                            | succ n ih234 =>
                              intro pz hinv hm H locs hP hD hS ls hl
                              have hpz := hinv
                              refine lv_iload_n hx hb dX6_step_234 rfl (lv_at hl 3 rfl) ?_
                              refine lv_iload hx hb dX6_step_235 (lv_at hl 0 rfl) ?_
                              refine ki_icmp_ge (tgt := 262) hx hb dX6_step_237 (by decide) (by omega) (by omega) (by omega) (by omega) (fun c_272 => ?_) (fun c_272 => ?_)
                              · skip
                                refine lv_aload_n hx hb dX6_step_262 rfl (lv_at hl 4 rfl) ?_
                                refine va_get (D := (dC, dI)) (ci := 6) (v := .ref (ma 22)) (C := RX6) (T := TX6) (N := 44) hx hb hts kt_X6 hown hK hP 0 rfl rfl 22 (by decide) (kx_word hG kq_05_morder_2 rfl) (fun _ h9 => h9) rfl dX6_step_263 ?_
                                refine lv_iload_n hx hb dX6_step_266 rfl (lv_at hl 5 rfl) ?_
                                refine lv_iconst (v := iz 1) hx hb dX6_step_267 (by decide) ?_
                                refine ki_iast (F := upI (F 22) sd (-1)) hx hb hK hP hD hS 17 16 rfl rfl (by omega) (by omega) (by decide) dX6_step_268 (fun H locs hP hD hS => ?_)
                                have hP : va_P (dC, dI) kxCl (mW mo ma cs I (va_up (va_up (va_up (va_up (va_up (va_up F 20 (upI (F 20) sd pa)) 22 (upI (F 22) sd (-1))) 23 (upI (F 23) sd 0)) 24 (upI (F 24) sd 0)) 21 (upI (F 21) sd (vp_nar .boolean (iz 1)).toInt)) 22 (upI (upI (F 22) sd (-1)) sd 1))) H := hP
                                have hD : va_D A (mW mo ma cs I (va_up (va_up (va_up (va_up (va_up (va_up F 20 (upI (F 20) sd pa)) 22 (upI (F 22) sd (-1))) 23 (upI (F 23) sd 0)) 24 (upI (F 24) sd 0)) 21 (upI (F 21) sd (vp_nar .boolean (iz 1)).toInt)) 22 (upI (upI (F 22) sd (-1)) sd 1))) := hD
                                refine lv_aload_n hx hb dX6_step_269 rfl (lv_at hl 4 rfl) ?_
                                refine va_get (D := (dC, dI)) (ci := 6) (v := .ref (ma 23)) (C := RX6) (T := TX6) (N := 44) hx hb hts kt_X6 hown hK hP 0 rfl rfl 23 (by decide) (kx_word hG kq_05_morder_3 rfl) (fun _ h9 => h9) rfl dX6_step_270 ?_
                                refine lv_iload_n hx hb dX6_step_273 rfl (lv_at hl 5 rfl) ?_
                                refine lv_bipush (v := iz 20) hx hb dX6_step_274 (by decide) ?_
                                refine lv_iload_n hx hb dX6_step_276 rfl (lv_at hl 6 rfl) ?_
                                refine ki_imul hx hb dX6_step_277 ?_
                                refine lv_iload_n hx hb dX6_step_278 rfl (lv_at hl 3 rfl) ?_
                                refine ki_iadd hx hb dX6_step_279 ?_
                                refine ki_iast (F := upI (F 23) sd 0) hx hb hK hP hD hS 18 17 rfl rfl (by omega) (by omega) (by decide) dX6_step_280 (fun H locs hP hD hS => ?_)
                                have hP : va_P (dC, dI) kxCl (mW mo ma cs I (va_up (va_up (va_up (va_up (va_up (va_up (va_up F 20 (upI (F 20) sd pa)) 22 (upI (F 22) sd (-1))) 23 (upI (F 23) sd 0)) 24 (upI (F 24) sd 0)) 21 (upI (F 21) sd (vp_nar .boolean (iz 1)).toInt)) 22 (upI (upI (F 22) sd (-1)) sd 1)) 23 (upI (upI (F 23) sd 0) sd ((20 * p0) + pz)))) H := hP
                                have hD : va_D A (mW mo ma cs I (va_up (va_up (va_up (va_up (va_up (va_up (va_up F 20 (upI (F 20) sd pa)) 22 (upI (F 22) sd (-1))) 23 (upI (F 23) sd 0)) 24 (upI (F 24) sd 0)) 21 (upI (F 21) sd (vp_nar .boolean (iz 1)).toInt)) 22 (upI (upI (F 22) sd (-1)) sd 1)) 23 (upI (upI (F 23) sd 0) sd ((20 * p0) + pz)))) := hD
                                refine lv_aload_n hx hb dX6_step_281 rfl (lv_at hl 4 rfl) ?_
                                refine va_get (D := (dC, dI)) (ci := 6) (v := .ref (ma 24)) (C := RX6) (T := TX6) (N := 44) hx hb hts kt_X6 hown hK hP 0 rfl rfl 24 (by decide) (kx_word hG kq_05_morder_4 rfl) (fun _ h9 => h9) rfl dX6_step_282 ?_
                                refine lv_iload_n hx hb dX6_step_285 rfl (lv_at hl 5 rfl) ?_
                                refine lv_iload hx hb dX6_step_286 (lv_at hl 0 rfl) ?_
                                refine lv_iload_n hx hb dX6_step_288 rfl (lv_at hl 3 rfl) ?_
                                refine ki_isub hx hb dX6_step_289 ?_
                                refine ki_iast (F := upI (F 24) sd 0) hx hb hK hP hD hS 19 18 rfl rfl (by omega) (by omega) (by decide) dX6_step_290 (fun H locs hP hD hS => ?_)
                                have hP : va_P (dC, dI) kxCl (mW mo ma cs I (va_up (va_up (va_up (va_up (va_up (va_up (va_up (va_up F 20 (upI (F 20) sd pa)) 22 (upI (F 22) sd (-1))) 23 (upI (F 23) sd 0)) 24 (upI (F 24) sd 0)) 21 (upI (F 21) sd (vp_nar .boolean (iz 1)).toInt)) 22 (upI (upI (F 22) sd (-1)) sd 1)) 23 (upI (upI (F 23) sd 0) sd ((20 * p0) + pz))) 24 (upI (upI (F 24) sd 0) sd (en - pz)))) H := hP
                                have hD : va_D A (mW mo ma cs I (va_up (va_up (va_up (va_up (va_up (va_up (va_up (va_up F 20 (upI (F 20) sd pa)) 22 (upI (F 22) sd (-1))) 23 (upI (F 23) sd 0)) 24 (upI (F 24) sd 0)) 21 (upI (F 21) sd (vp_nar .boolean (iz 1)).toInt)) 22 (upI (upI (F 22) sd (-1)) sd 1)) 23 (upI (upI (F 23) sd 0) sd ((20 * p0) + pz))) 24 (upI (upI (F 24) sd 0) sd (en - pz)))) := hD
                                refine lv_aload_n hx hb dX6_step_291 rfl (lv_at hl 4 rfl) ?_
                                refine va_get (D := (dC, dI)) (ci := 6) (v := .ref (ma 20)) (C := RX6) (T := TX6) (N := 44) hx hb hts kt_X6 hown hK hP 0 rfl rfl 20 (by decide) (kx_word hG kq_05_morder_0 rfl) (fun _ h9 => h9) rfl dX6_step_292 ?_
                                refine lv_iload_n hx hb dX6_step_295 rfl (lv_at hl 5 rfl) ?_
                                refine lv_iload hx hb dX6_step_296 (lv_at hl 0 rfl) ?_
                                refine ki_iast (F := upI (F 20) sd pa) hx hb hK hP hD hS 15 14 rfl rfl (by omega) (by omega) (by decide) dX6_step_298 (fun H locs hP hD hS => ?_)
                                have hP : va_P (dC, dI) kxCl (mW mo ma cs I (va_up (va_up (va_up (va_up (va_up (va_up (va_up (va_up (va_up F 20 (upI (F 20) sd pa)) 22 (upI (F 22) sd (-1))) 23 (upI (F 23) sd 0)) 24 (upI (F 24) sd 0)) 21 (upI (F 21) sd (vp_nar .boolean (iz 1)).toInt)) 22 (upI (upI (F 22) sd (-1)) sd 1)) 23 (upI (upI (F 23) sd 0) sd ((20 * p0) + pz))) 24 (upI (upI (F 24) sd 0) sd (en - pz))) 20 (upI (upI (F 20) sd pa) sd en))) H := hP
                                have hD : va_D A (mW mo ma cs I (va_up (va_up (va_up (va_up (va_up (va_up (va_up (va_up (va_up F 20 (upI (F 20) sd pa)) 22 (upI (F 22) sd (-1))) 23 (upI (F 23) sd 0)) 24 (upI (F 24) sd 0)) 21 (upI (F 21) sd (vp_nar .boolean (iz 1)).toInt)) 22 (upI (upI (F 22) sd (-1)) sd 1)) 23 (upI (upI (F 23) sd 0) sd ((20 * p0) + pz))) 24 (upI (upI (F 24) sd 0) sd (en - pz))) 20 (upI (upI (F 20) sd pa) sd en))) := hD
                                have e_273 : (va_up (va_up (va_up (va_up (va_up (va_up (va_up (va_up (va_up F 20 (upI (F 20) sd pa)) 22 (upI (F 22) sd (-1))) 23 (upI (F 23) sd 0)) 24 (upI (F 24) sd 0)) 21 (upI (F 21) sd (vp_nar .boolean (iz 1)).toInt)) 22 (upI (upI (F 22) sd (-1)) sd 1)) 23 (upI (upI (F 23) sd 0) sd ((20 * p0) + pz))) 24 (upI (upI (F 24) sd 0) sd (en - pz))) 20 (upI (upI (F 20) sd pa) sd en)) 20 sd = en := upI_self _ _ _
                                have e_274 : (va_up (va_up (va_up (va_up (va_up (va_up (va_up (va_up (va_up F 20 (upI (F 20) sd pa)) 22 (upI (F 22) sd (-1))) 23 (upI (F 23) sd 0)) 24 (upI (F 24) sd 0)) 21 (upI (F 21) sd (vp_nar .boolean (iz 1)).toInt)) 22 (upI (upI (F 22) sd (-1)) sd 1)) 23 (upI (upI (F 23) sd 0) sd ((20 * p0) + pz))) 24 (upI (upI (F 24) sd 0) sd (en - pz))) 20 (upI (upI (F 20) sd pa) sd en)) 22 sd = 1 := upI_self _ _ _
                                have e_275 : (va_up (va_up (va_up (va_up (va_up (va_up (va_up (va_up (va_up F 20 (upI (F 20) sd pa)) 22 (upI (F 22) sd (-1))) 23 (upI (F 23) sd 0)) 24 (upI (F 24) sd 0)) 21 (upI (F 21) sd (vp_nar .boolean (iz 1)).toInt)) 22 (upI (upI (F 22) sd (-1)) sd 1)) 23 (upI (upI (F 23) sd 0) sd ((20 * p0) + pz))) 24 (upI (upI (F 24) sd 0) sd (en - pz))) 20 (upI (upI (F 20) sd pa) sd en)) 23 sd = (20 * p0) + pz := upI_self _ _ _
                                have e_276 : (va_up (va_up (va_up (va_up (va_up (va_up (va_up (va_up (va_up F 20 (upI (F 20) sd pa)) 22 (upI (F 22) sd (-1))) 23 (upI (F 23) sd 0)) 24 (upI (F 24) sd 0)) 21 (upI (F 21) sd (vp_nar .boolean (iz 1)).toInt)) 22 (upI (upI (F 22) sd (-1)) sd 1)) 23 (upI (upI (F 23) sd 0) sd ((20 * p0) + pz))) 24 (upI (upI (F 24) sd 0) sd (en - pz))) 20 (upI (upI (F 20) sd pa) sd en)) 24 sd = en - pz := upI_self _ _ _
                                have e_277 : (va_up (va_up (va_up (va_up (va_up (va_up (va_up (va_up (va_up F 20 (upI (F 20) sd pa)) 22 (upI (F 22) sd (-1))) 23 (upI (F 23) sd 0)) 24 (upI (F 24) sd 0)) 21 (upI (F 21) sd (vp_nar .boolean (iz 1)).toInt)) 22 (upI (upI (F 22) sd (-1)) sd 1)) 23 (upI (upI (F 23) sd 0) sd ((20 * p0) + pz))) 24 (upI (upI (F 24) sd 0) sd (en - pz))) 20 (upI (upI (F 20) sd pa) sd en)) 21 sd = (vp_nar .boolean (iz 1)).toInt := upI_self _ _ _
                                rw [← hQe]
                                exact mk_ret hx hb hr hlocks hP hD hK hS dX6_step_299 (⟨rfl, (mB_f (mB_f (mB_f (mB_f (mB_f (mB_f (mB_f (mB_f (mB_f hB 20 sd (by omega) (by omega)) 22 sd (by omega) (by omega)) 23 sd (by omega) (by omega)) 24 sd (by omega) (by omega)) 21 sd (iz_lo _) (iz_hi _)) 22 sd (by omega) (by omega)) 23 sd (by omega) (by omega)) 24 sd (by omega) (by omega)) 20 sd (by omega) (by omega)), (mfr.upF (mfr.upF (mfr.upF (mfr.upF (mfr.upF (mfr.upF (mfr.upF (mfr.upF (mfr.upF mfr.rf (by decide) _) (by decide) _) (by decide) _) (by decide) _) (by decide) _) (by decide) _) (by decide) _) (by decide) _) (by decide) _), (mo1.up (mo1.up (mo1.up (mo1.up (mo1.up (mo1.up (mo1.up (mo1.up (mo1.up mo1.rf 20 _) 22 _) 23 _) 24 _) 21 _) 22 _) 23 _) 24 _) 20 _), by omega, by omega, by omega⟩)
                              · skip
                                refine lv_aload_n hx hb dX6_step_240 rfl (lv_at hl 4 rfl) ?_
                                refine va_get (D := (dC, dI)) (ci := 6) (v := .ref (ma 4)) (C := RX6) (T := TX6) (N := 44) hx hb hts kt_X6 hown hK hP 0 rfl rfl 4 (by decide) (kx_word hG kq_04_msmall_16 rfl) (fun _ h9 => h9) rfl dX6_step_241 ?_
                                refine lv_bipush (v := iz 20) hx hb dX6_step_244 (by decide) ?_
                                refine lv_iload_n hx hb dX6_step_246 rfl (lv_at hl 6 rfl) ?_
                                refine ki_imul hx hb dX6_step_247 ?_
                                refine lv_iload_n hx hb dX6_step_248 rfl (lv_at hl 3 rfl) ?_
                                refine ki_iadd hx hb dX6_step_249 ?_
                                refine ki_iald (F := F 4) hx hb hK hP 3 2 rfl rfl (by omega) (by omega) (by decide) dX6_step_250 ?_
                                have hbd_278 := hB.2 4 ((20 * p0) + pz)
                                refine lv_bipush (v := iz 48) hx hb dX6_step_251 (by decide) ?_
                                refine ki_icmp_ne (tgt := 262) hx hb dX6_step_253 (by decide) (by omega) (by omega) (by omega) (by omega) (fun c_279 => ?_) (fun c_279 => ?_)
                                · skip
                                  refine lv_aload_n hx hb dX6_step_262 rfl (lv_at hl 4 rfl) ?_
                                  refine va_get (D := (dC, dI)) (ci := 6) (v := .ref (ma 22)) (C := RX6) (T := TX6) (N := 44) hx hb hts kt_X6 hown hK hP 0 rfl rfl 22 (by decide) (kx_word hG kq_05_morder_2 rfl) (fun _ h9 => h9) rfl dX6_step_263 ?_
                                  refine lv_iload_n hx hb dX6_step_266 rfl (lv_at hl 5 rfl) ?_
                                  refine lv_iconst (v := iz 1) hx hb dX6_step_267 (by decide) ?_
                                  refine ki_iast (F := upI (F 22) sd (-1)) hx hb hK hP hD hS 17 16 rfl rfl (by omega) (by omega) (by decide) dX6_step_268 (fun H locs hP hD hS => ?_)
                                  have hP : va_P (dC, dI) kxCl (mW mo ma cs I (va_up (va_up (va_up (va_up (va_up (va_up F 20 (upI (F 20) sd pa)) 22 (upI (F 22) sd (-1))) 23 (upI (F 23) sd 0)) 24 (upI (F 24) sd 0)) 21 (upI (F 21) sd (vp_nar .boolean (iz 1)).toInt)) 22 (upI (upI (F 22) sd (-1)) sd 1))) H := hP
                                  have hD : va_D A (mW mo ma cs I (va_up (va_up (va_up (va_up (va_up (va_up F 20 (upI (F 20) sd pa)) 22 (upI (F 22) sd (-1))) 23 (upI (F 23) sd 0)) 24 (upI (F 24) sd 0)) 21 (upI (F 21) sd (vp_nar .boolean (iz 1)).toInt)) 22 (upI (upI (F 22) sd (-1)) sd 1))) := hD
                                  refine lv_aload_n hx hb dX6_step_269 rfl (lv_at hl 4 rfl) ?_
                                  refine va_get (D := (dC, dI)) (ci := 6) (v := .ref (ma 23)) (C := RX6) (T := TX6) (N := 44) hx hb hts kt_X6 hown hK hP 0 rfl rfl 23 (by decide) (kx_word hG kq_05_morder_3 rfl) (fun _ h9 => h9) rfl dX6_step_270 ?_
                                  refine lv_iload_n hx hb dX6_step_273 rfl (lv_at hl 5 rfl) ?_
                                  refine lv_bipush (v := iz 20) hx hb dX6_step_274 (by decide) ?_
                                  refine lv_iload_n hx hb dX6_step_276 rfl (lv_at hl 6 rfl) ?_
                                  refine ki_imul hx hb dX6_step_277 ?_
                                  refine lv_iload_n hx hb dX6_step_278 rfl (lv_at hl 3 rfl) ?_
                                  refine ki_iadd hx hb dX6_step_279 ?_
                                  refine ki_iast (F := upI (F 23) sd 0) hx hb hK hP hD hS 18 17 rfl rfl (by omega) (by omega) (by decide) dX6_step_280 (fun H locs hP hD hS => ?_)
                                  have hP : va_P (dC, dI) kxCl (mW mo ma cs I (va_up (va_up (va_up (va_up (va_up (va_up (va_up F 20 (upI (F 20) sd pa)) 22 (upI (F 22) sd (-1))) 23 (upI (F 23) sd 0)) 24 (upI (F 24) sd 0)) 21 (upI (F 21) sd (vp_nar .boolean (iz 1)).toInt)) 22 (upI (upI (F 22) sd (-1)) sd 1)) 23 (upI (upI (F 23) sd 0) sd ((20 * p0) + pz)))) H := hP
                                  have hD : va_D A (mW mo ma cs I (va_up (va_up (va_up (va_up (va_up (va_up (va_up F 20 (upI (F 20) sd pa)) 22 (upI (F 22) sd (-1))) 23 (upI (F 23) sd 0)) 24 (upI (F 24) sd 0)) 21 (upI (F 21) sd (vp_nar .boolean (iz 1)).toInt)) 22 (upI (upI (F 22) sd (-1)) sd 1)) 23 (upI (upI (F 23) sd 0) sd ((20 * p0) + pz)))) := hD
                                  refine lv_aload_n hx hb dX6_step_281 rfl (lv_at hl 4 rfl) ?_
                                  refine va_get (D := (dC, dI)) (ci := 6) (v := .ref (ma 24)) (C := RX6) (T := TX6) (N := 44) hx hb hts kt_X6 hown hK hP 0 rfl rfl 24 (by decide) (kx_word hG kq_05_morder_4 rfl) (fun _ h9 => h9) rfl dX6_step_282 ?_
                                  refine lv_iload_n hx hb dX6_step_285 rfl (lv_at hl 5 rfl) ?_
                                  refine lv_iload hx hb dX6_step_286 (lv_at hl 0 rfl) ?_
                                  refine lv_iload_n hx hb dX6_step_288 rfl (lv_at hl 3 rfl) ?_
                                  refine ki_isub hx hb dX6_step_289 ?_
                                  refine ki_iast (F := upI (F 24) sd 0) hx hb hK hP hD hS 19 18 rfl rfl (by omega) (by omega) (by decide) dX6_step_290 (fun H locs hP hD hS => ?_)
                                  have hP : va_P (dC, dI) kxCl (mW mo ma cs I (va_up (va_up (va_up (va_up (va_up (va_up (va_up (va_up F 20 (upI (F 20) sd pa)) 22 (upI (F 22) sd (-1))) 23 (upI (F 23) sd 0)) 24 (upI (F 24) sd 0)) 21 (upI (F 21) sd (vp_nar .boolean (iz 1)).toInt)) 22 (upI (upI (F 22) sd (-1)) sd 1)) 23 (upI (upI (F 23) sd 0) sd ((20 * p0) + pz))) 24 (upI (upI (F 24) sd 0) sd (en - pz)))) H := hP
                                  have hD : va_D A (mW mo ma cs I (va_up (va_up (va_up (va_up (va_up (va_up (va_up (va_up F 20 (upI (F 20) sd pa)) 22 (upI (F 22) sd (-1))) 23 (upI (F 23) sd 0)) 24 (upI (F 24) sd 0)) 21 (upI (F 21) sd (vp_nar .boolean (iz 1)).toInt)) 22 (upI (upI (F 22) sd (-1)) sd 1)) 23 (upI (upI (F 23) sd 0) sd ((20 * p0) + pz))) 24 (upI (upI (F 24) sd 0) sd (en - pz)))) := hD
                                  refine lv_aload_n hx hb dX6_step_291 rfl (lv_at hl 4 rfl) ?_
                                  refine va_get (D := (dC, dI)) (ci := 6) (v := .ref (ma 20)) (C := RX6) (T := TX6) (N := 44) hx hb hts kt_X6 hown hK hP 0 rfl rfl 20 (by decide) (kx_word hG kq_05_morder_0 rfl) (fun _ h9 => h9) rfl dX6_step_292 ?_
                                  refine lv_iload_n hx hb dX6_step_295 rfl (lv_at hl 5 rfl) ?_
                                  refine lv_iload hx hb dX6_step_296 (lv_at hl 0 rfl) ?_
                                  refine ki_iast (F := upI (F 20) sd pa) hx hb hK hP hD hS 15 14 rfl rfl (by omega) (by omega) (by decide) dX6_step_298 (fun H locs hP hD hS => ?_)
                                  have hP : va_P (dC, dI) kxCl (mW mo ma cs I (va_up (va_up (va_up (va_up (va_up (va_up (va_up (va_up (va_up F 20 (upI (F 20) sd pa)) 22 (upI (F 22) sd (-1))) 23 (upI (F 23) sd 0)) 24 (upI (F 24) sd 0)) 21 (upI (F 21) sd (vp_nar .boolean (iz 1)).toInt)) 22 (upI (upI (F 22) sd (-1)) sd 1)) 23 (upI (upI (F 23) sd 0) sd ((20 * p0) + pz))) 24 (upI (upI (F 24) sd 0) sd (en - pz))) 20 (upI (upI (F 20) sd pa) sd en))) H := hP
                                  have hD : va_D A (mW mo ma cs I (va_up (va_up (va_up (va_up (va_up (va_up (va_up (va_up (va_up F 20 (upI (F 20) sd pa)) 22 (upI (F 22) sd (-1))) 23 (upI (F 23) sd 0)) 24 (upI (F 24) sd 0)) 21 (upI (F 21) sd (vp_nar .boolean (iz 1)).toInt)) 22 (upI (upI (F 22) sd (-1)) sd 1)) 23 (upI (upI (F 23) sd 0) sd ((20 * p0) + pz))) 24 (upI (upI (F 24) sd 0) sd (en - pz))) 20 (upI (upI (F 20) sd pa) sd en))) := hD
                                  have e_280 : (va_up (va_up (va_up (va_up (va_up (va_up (va_up (va_up (va_up F 20 (upI (F 20) sd pa)) 22 (upI (F 22) sd (-1))) 23 (upI (F 23) sd 0)) 24 (upI (F 24) sd 0)) 21 (upI (F 21) sd (vp_nar .boolean (iz 1)).toInt)) 22 (upI (upI (F 22) sd (-1)) sd 1)) 23 (upI (upI (F 23) sd 0) sd ((20 * p0) + pz))) 24 (upI (upI (F 24) sd 0) sd (en - pz))) 20 (upI (upI (F 20) sd pa) sd en)) 20 sd = en := upI_self _ _ _
                                  have e_281 : (va_up (va_up (va_up (va_up (va_up (va_up (va_up (va_up (va_up F 20 (upI (F 20) sd pa)) 22 (upI (F 22) sd (-1))) 23 (upI (F 23) sd 0)) 24 (upI (F 24) sd 0)) 21 (upI (F 21) sd (vp_nar .boolean (iz 1)).toInt)) 22 (upI (upI (F 22) sd (-1)) sd 1)) 23 (upI (upI (F 23) sd 0) sd ((20 * p0) + pz))) 24 (upI (upI (F 24) sd 0) sd (en - pz))) 20 (upI (upI (F 20) sd pa) sd en)) 22 sd = 1 := upI_self _ _ _
                                  have e_282 : (va_up (va_up (va_up (va_up (va_up (va_up (va_up (va_up (va_up F 20 (upI (F 20) sd pa)) 22 (upI (F 22) sd (-1))) 23 (upI (F 23) sd 0)) 24 (upI (F 24) sd 0)) 21 (upI (F 21) sd (vp_nar .boolean (iz 1)).toInt)) 22 (upI (upI (F 22) sd (-1)) sd 1)) 23 (upI (upI (F 23) sd 0) sd ((20 * p0) + pz))) 24 (upI (upI (F 24) sd 0) sd (en - pz))) 20 (upI (upI (F 20) sd pa) sd en)) 23 sd = (20 * p0) + pz := upI_self _ _ _
                                  have e_283 : (va_up (va_up (va_up (va_up (va_up (va_up (va_up (va_up (va_up F 20 (upI (F 20) sd pa)) 22 (upI (F 22) sd (-1))) 23 (upI (F 23) sd 0)) 24 (upI (F 24) sd 0)) 21 (upI (F 21) sd (vp_nar .boolean (iz 1)).toInt)) 22 (upI (upI (F 22) sd (-1)) sd 1)) 23 (upI (upI (F 23) sd 0) sd ((20 * p0) + pz))) 24 (upI (upI (F 24) sd 0) sd (en - pz))) 20 (upI (upI (F 20) sd pa) sd en)) 24 sd = en - pz := upI_self _ _ _
                                  have e_284 : (va_up (va_up (va_up (va_up (va_up (va_up (va_up (va_up (va_up F 20 (upI (F 20) sd pa)) 22 (upI (F 22) sd (-1))) 23 (upI (F 23) sd 0)) 24 (upI (F 24) sd 0)) 21 (upI (F 21) sd (vp_nar .boolean (iz 1)).toInt)) 22 (upI (upI (F 22) sd (-1)) sd 1)) 23 (upI (upI (F 23) sd 0) sd ((20 * p0) + pz))) 24 (upI (upI (F 24) sd 0) sd (en - pz))) 20 (upI (upI (F 20) sd pa) sd en)) 21 sd = (vp_nar .boolean (iz 1)).toInt := upI_self _ _ _
                                  rw [← hQe]
                                  exact mk_ret hx hb hr hlocks hP hD hK hS dX6_step_299 (⟨rfl, (mB_f (mB_f (mB_f (mB_f (mB_f (mB_f (mB_f (mB_f (mB_f hB 20 sd (by omega) (by omega)) 22 sd (by omega) (by omega)) 23 sd (by omega) (by omega)) 24 sd (by omega) (by omega)) 21 sd (iz_lo _) (iz_hi _)) 22 sd (by omega) (by omega)) 23 sd (by omega) (by omega)) 24 sd (by omega) (by omega)) 20 sd (by omega) (by omega)), (mfr.upF (mfr.upF (mfr.upF (mfr.upF (mfr.upF (mfr.upF (mfr.upF (mfr.upF (mfr.upF mfr.rf (by decide) _) (by decide) _) (by decide) _) (by decide) _) (by decide) _) (by decide) _) (by decide) _) (by decide) _) (by decide) _), (mo1.up (mo1.up (mo1.up (mo1.up (mo1.up (mo1.up (mo1.up (mo1.up (mo1.up mo1.rf 20 _) 22 _) 23 _) 24 _) 21 _) 22 _) 23 _) 24 _) 20 _), by omega, by omega, by omega⟩)
                                · skip
                                  refine lv_iinc (v := iz (pz + 1)) (lv' := [(3, .int (iz (pz + 1))), (6, .int (iz en)), (5, .int (iz (F 4 ((20 * p0) + pa)))), (4, .int (iz ps)), (0, .ref mo), (1, .int (iz sd)), (2, .int (iz p0))]) hx hb dX6_step_256 hl (k := 3) rfl (iz_add pz 1) (by decide) rfl (fun ls hl => ?_)
                                  refine lv_goto (tgt := 234) hx hb dX6_step_259 (by decide) ?_
                                  exact ih234 (pz + 1) (by omega) (by omega) _ _ hP hD hS ls (lv_sub hl [1, 2, 3, 0, 4, 5, 6] rfl)
                          exact lp234 _ pa (by omega) (Nat.lt_succ_self _) _ _ hP hD hS ls (lv_sub hl [0, 1, 2, 3, 4, 5, 6] rfl)
                        · skip
                          refine lv_aload_n hx hb dX6_step_210 rfl (lv_at hl 4 rfl) ?_
                          refine va_get (D := (dC, dI)) (ci := 6) (v := .ref (ma 4)) (C := RX6) (T := TX6) (N := 44) hx hb hts kt_X6 hown hK hP 0 rfl rfl 4 (by decide) (kx_word hG kq_04_msmall_16 rfl) (fun _ h9 => h9) rfl dX6_step_211 ?_
                          refine lv_bipush (v := iz 20) hx hb dX6_step_214 (by decide) ?_
                          refine lv_iload_n hx hb dX6_step_216 rfl (lv_at hl 6 rfl) ?_
                          refine ki_imul hx hb dX6_step_217 ?_
                          refine lv_iload hx hb dX6_step_218 (lv_at hl 0 rfl) ?_
                          refine ki_iadd hx hb dX6_step_220 ?_
                          refine ki_iald (F := F 4) hx hb hK hP 3 2 rfl rfl (by omega) (by omega) (by decide) dX6_step_221 ?_
                          have hbd_285 := hB.2 4 ((20 * p0) + en)
                          refine mk_calls (As := [.int (iz (F 4 ((20 * p0) + en)))]) (rest := []) ⟨hx, hb, hml, hown, hts⟩ (k_isNumber l dC dI (F 4 ((20 * p0) + en)) H.size (by omega) (by omega)) (va_cwS 1 hts (kx_gS kq_05_morder_8 kq_05_morder_9 kq_04_msmall_6 kq_05_morder_10 rfl) rfl rfl rfl (by decide +kernel) ⟨Nat.le_of_ble_eq_true rfl, Nat.le_of_ble_eq_true rfl⟩) hP hD hK hG hZ hS hA rfl hl.1 rfl (Nat.le_of_ble_eq_true rfl) dX6_step_222 ⟨Nat.le_of_ble_eq_true rfl, Nat.le_of_ble_eq_true rfl⟩ (fun z_286 H locs hq_287 hP hS => ?_)
                          try dsimp only at hq_287
                          refine ki_if_eq (tgt := 234) hx hb dX6_step_225 (by decide) (by omega) (by omega) (fun c_288 => ?_) (fun c_288 => ?_)
                          · skip
                            have lp234 : ∀ (n : Nat) (pz : Int), ((pa ≤ pz ∧ pz ≤ en)) → (en - pz).toNat < n → ∀ (H : Heap) (locs : List Loc), va_P (dC, dI) kxCl (mW mo ma cs I (va_up (va_up (va_up (va_up (va_up F 20 (upI (F 20) sd pa)) 22 (upI (F 22) sd (-1))) 23 (upI (F 23) sd 0)) 24 (upI (F 24) sd 0)) 21 (upI (F 21) sd (vp_nar .boolean (iz 1)).toInt))) H → va_D A (mW mo ma cs I (va_up (va_up (va_up (va_up (va_up F 20 (upI (F 20) sd pa)) 22 (upI (F 22) sd (-1))) 23 (upI (F 23) sd 0)) 24 (upI (F 24) sd 0)) 21 (upI (F 21) sd (vp_nar .boolean (iz 1)).toInt))) → va_S A s.heap H locs → ∀ ls : Array Slot, lv_has ls 7 [(6, .int (iz en)), (5, .int (iz (F 4 ((20 * p0) + pa)))), (4, .int (iz ps)), (3, .int (iz pz)), (0, .ref mo), (1, .int (iz sd)), (2, .int (iz p0))] → W p l e (headSpec [.code yX6_step cX6_step 7 none] ({ frames := 1, cells := 0, slots := 0, locals := 21 })).room s m ([.ref mo, .int (iz sd), .int (iz p0)] : List Value).toArray below meth c H locs 0 0 QQ (F0 m 234 ls []) := by
                              intro n
                              induction n with
                              | zero => intro pz hinv hm; exact absurd hm (Nat.not_lt_zero _)
                              | succ n ih234 =>
                                intro pz hinv hm H locs hP hD hS ls hl
                                have hpz := hinv
                                refine lv_iload_n hx hb dX6_step_234 rfl (lv_at hl 3 rfl) ?_
                                refine lv_iload hx hb dX6_step_235 (lv_at hl 0 rfl) ?_
                                refine ki_icmp_ge (tgt := 262) hx hb dX6_step_237 (by decide) (by omega) (by omega) (by omega) (by omega) (fun c_289 => ?_) (fun c_289 => ?_)
                                · skip
                                  refine lv_aload_n hx hb dX6_step_262 rfl (lv_at hl 4 rfl) ?_
                                  refine va_get (D := (dC, dI)) (ci := 6) (v := .ref (ma 22)) (C := RX6) (T := TX6) (N := 44) hx hb hts kt_X6 hown hK hP 0 rfl rfl 22 (by decide) (kx_word hG kq_05_morder_2 rfl) (fun _ h9 => h9) rfl dX6_step_263 ?_
                                  refine lv_iload_n hx hb dX6_step_266 rfl (lv_at hl 5 rfl) ?_
                                  refine lv_iconst (v := iz 1) hx hb dX6_step_267 (by decide) ?_
                                  refine ki_iast (F := upI (F 22) sd (-1)) hx hb hK hP hD hS 17 16 rfl rfl (by omega) (by omega) (by decide) dX6_step_268 (fun H locs hP hD hS => ?_)
                                  have hP : va_P (dC, dI) kxCl (mW mo ma cs I (va_up (va_up (va_up (va_up (va_up (va_up F 20 (upI (F 20) sd pa)) 22 (upI (F 22) sd (-1))) 23 (upI (F 23) sd 0)) 24 (upI (F 24) sd 0)) 21 (upI (F 21) sd (vp_nar .boolean (iz 1)).toInt)) 22 (upI (upI (F 22) sd (-1)) sd 1))) H := hP
                                  have hD : va_D A (mW mo ma cs I (va_up (va_up (va_up (va_up (va_up (va_up F 20 (upI (F 20) sd pa)) 22 (upI (F 22) sd (-1))) 23 (upI (F 23) sd 0)) 24 (upI (F 24) sd 0)) 21 (upI (F 21) sd (vp_nar .boolean (iz 1)).toInt)) 22 (upI (upI (F 22) sd (-1)) sd 1))) := hD
                                  refine lv_aload_n hx hb dX6_step_269 rfl (lv_at hl 4 rfl) ?_
                                  refine va_get (D := (dC, dI)) (ci := 6) (v := .ref (ma 23)) (C := RX6) (T := TX6) (N := 44) hx hb hts kt_X6 hown hK hP 0 rfl rfl 23 (by decide) (kx_word hG kq_05_morder_3 rfl) (fun _ h9 => h9) rfl dX6_step_270 ?_
                                  refine lv_iload_n hx hb dX6_step_273 rfl (lv_at hl 5 rfl) ?_
                                  refine lv_bipush (v := iz 20) hx hb dX6_step_274 (by decide) ?_
                                  refine lv_iload_n hx hb dX6_step_276 rfl (lv_at hl 6 rfl) ?_
                                  refine ki_imul hx hb dX6_step_277 ?_
                                  refine lv_iload_n hx hb dX6_step_278 rfl (lv_at hl 3 rfl) ?_
                                  refine ki_iadd hx hb dX6_step_279 ?_
                                  refine ki_iast (F := upI (F 23) sd 0) hx hb hK hP hD hS 18 17 rfl rfl (by omega) (by omega) (by decide) dX6_step_280 (fun H locs hP hD hS => ?_)
                                  have hP : va_P (dC, dI) kxCl (mW mo ma cs I (va_up (va_up (va_up (va_up (va_up (va_up (va_up F 20 (upI (F 20) sd pa)) 22 (upI (F 22) sd (-1))) 23 (upI (F 23) sd 0)) 24 (upI (F 24) sd 0)) 21 (upI (F 21) sd (vp_nar .boolean (iz 1)).toInt)) 22 (upI (upI (F 22) sd (-1)) sd 1)) 23 (upI (upI (F 23) sd 0) sd ((20 * p0) + pz)))) H := hP
                                  have hD : va_D A (mW mo ma cs I (va_up (va_up (va_up (va_up (va_up (va_up (va_up F 20 (upI (F 20) sd pa)) 22 (upI (F 22) sd (-1))) 23 (upI (F 23) sd 0)) 24 (upI (F 24) sd 0)) 21 (upI (F 21) sd (vp_nar .boolean (iz 1)).toInt)) 22 (upI (upI (F 22) sd (-1)) sd 1)) 23 (upI (upI (F 23) sd 0) sd ((20 * p0) + pz)))) := hD
                                  refine lv_aload_n hx hb dX6_step_281 rfl (lv_at hl 4 rfl) ?_
                                  refine va_get (D := (dC, dI)) (ci := 6) (v := .ref (ma 24)) (C := RX6) (T := TX6) (N := 44) hx hb hts kt_X6 hown hK hP 0 rfl rfl 24 (by decide) (kx_word hG kq_05_morder_4 rfl) (fun _ h9 => h9) rfl dX6_step_282 ?_
                                  refine lv_iload_n hx hb dX6_step_285 rfl (lv_at hl 5 rfl) ?_
                                  refine lv_iload hx hb dX6_step_286 (lv_at hl 0 rfl) ?_
                                  refine lv_iload_n hx hb dX6_step_288 rfl (lv_at hl 3 rfl) ?_
                                  refine ki_isub hx hb dX6_step_289 ?_
                                  refine ki_iast (F := upI (F 24) sd 0) hx hb hK hP hD hS 19 18 rfl rfl (by omega) (by omega) (by decide) dX6_step_290 (fun H locs hP hD hS => ?_)
                                  have hP : va_P (dC, dI) kxCl (mW mo ma cs I (va_up (va_up (va_up (va_up (va_up (va_up (va_up (va_up F 20 (upI (F 20) sd pa)) 22 (upI (F 22) sd (-1))) 23 (upI (F 23) sd 0)) 24 (upI (F 24) sd 0)) 21 (upI (F 21) sd (vp_nar .boolean (iz 1)).toInt)) 22 (upI (upI (F 22) sd (-1)) sd 1)) 23 (upI (upI (F 23) sd 0) sd ((20 * p0) + pz))) 24 (upI (upI (F 24) sd 0) sd (en - pz)))) H := hP
                                  have hD : va_D A (mW mo ma cs I (va_up (va_up (va_up (va_up (va_up (va_up (va_up (va_up F 20 (upI (F 20) sd pa)) 22 (upI (F 22) sd (-1))) 23 (upI (F 23) sd 0)) 24 (upI (F 24) sd 0)) 21 (upI (F 21) sd (vp_nar .boolean (iz 1)).toInt)) 22 (upI (upI (F 22) sd (-1)) sd 1)) 23 (upI (upI (F 23) sd 0) sd ((20 * p0) + pz))) 24 (upI (upI (F 24) sd 0) sd (en - pz)))) := hD
                                  refine lv_aload_n hx hb dX6_step_291 rfl (lv_at hl 4 rfl) ?_
                                  refine va_get (D := (dC, dI)) (ci := 6) (v := .ref (ma 20)) (C := RX6) (T := TX6) (N := 44) hx hb hts kt_X6 hown hK hP 0 rfl rfl 20 (by decide) (kx_word hG kq_05_morder_0 rfl) (fun _ h9 => h9) rfl dX6_step_292 ?_
                                  refine lv_iload_n hx hb dX6_step_295 rfl (lv_at hl 5 rfl) ?_
                                  refine lv_iload hx hb dX6_step_296 (lv_at hl 0 rfl) ?_
                                  refine ki_iast (F := upI (F 20) sd pa) hx hb hK hP hD hS 15 14 rfl rfl (by omega) (by omega) (by decide) dX6_step_298 (fun H locs hP hD hS => ?_)
                                  have hP : va_P (dC, dI) kxCl (mW mo ma cs I (va_up (va_up (va_up (va_up (va_up (va_up (va_up (va_up (va_up F 20 (upI (F 20) sd pa)) 22 (upI (F 22) sd (-1))) 23 (upI (F 23) sd 0)) 24 (upI (F 24) sd 0)) 21 (upI (F 21) sd (vp_nar .boolean (iz 1)).toInt)) 22 (upI (upI (F 22) sd (-1)) sd 1)) 23 (upI (upI (F 23) sd 0) sd ((20 * p0) + pz))) 24 (upI (upI (F 24) sd 0) sd (en - pz))) 20 (upI (upI (F 20) sd pa) sd en))) H := hP
                                  have hD : va_D A (mW mo ma cs I (va_up (va_up (va_up (va_up (va_up (va_up (va_up (va_up (va_up F 20 (upI (F 20) sd pa)) 22 (upI (F 22) sd (-1))) 23 (upI (F 23) sd 0)) 24 (upI (F 24) sd 0)) 21 (upI (F 21) sd (vp_nar .boolean (iz 1)).toInt)) 22 (upI (upI (F 22) sd (-1)) sd 1)) 23 (upI (upI (F 23) sd 0) sd ((20 * p0) + pz))) 24 (upI (upI (F 24) sd 0) sd (en - pz))) 20 (upI (upI (F 20) sd pa) sd en))) := hD
                                  have e_290 : (va_up (va_up (va_up (va_up (va_up (va_up (va_up (va_up (va_up F 20 (upI (F 20) sd pa)) 22 (upI (F 22) sd (-1))) 23 (upI (F 23) sd 0)) 24 (upI (F 24) sd 0)) 21 (upI (F 21) sd (vp_nar .boolean (iz 1)).toInt)) 22 (upI (upI (F 22) sd (-1)) sd 1)) 23 (upI (upI (F 23) sd 0) sd ((20 * p0) + pz))) 24 (upI (upI (F 24) sd 0) sd (en - pz))) 20 (upI (upI (F 20) sd pa) sd en)) 20 sd = en := upI_self _ _ _
                                  have e_291 : (va_up (va_up (va_up (va_up (va_up (va_up (va_up (va_up (va_up F 20 (upI (F 20) sd pa)) 22 (upI (F 22) sd (-1))) 23 (upI (F 23) sd 0)) 24 (upI (F 24) sd 0)) 21 (upI (F 21) sd (vp_nar .boolean (iz 1)).toInt)) 22 (upI (upI (F 22) sd (-1)) sd 1)) 23 (upI (upI (F 23) sd 0) sd ((20 * p0) + pz))) 24 (upI (upI (F 24) sd 0) sd (en - pz))) 20 (upI (upI (F 20) sd pa) sd en)) 22 sd = 1 := upI_self _ _ _
                                  have e_292 : (va_up (va_up (va_up (va_up (va_up (va_up (va_up (va_up (va_up F 20 (upI (F 20) sd pa)) 22 (upI (F 22) sd (-1))) 23 (upI (F 23) sd 0)) 24 (upI (F 24) sd 0)) 21 (upI (F 21) sd (vp_nar .boolean (iz 1)).toInt)) 22 (upI (upI (F 22) sd (-1)) sd 1)) 23 (upI (upI (F 23) sd 0) sd ((20 * p0) + pz))) 24 (upI (upI (F 24) sd 0) sd (en - pz))) 20 (upI (upI (F 20) sd pa) sd en)) 23 sd = (20 * p0) + pz := upI_self _ _ _
                                  have e_293 : (va_up (va_up (va_up (va_up (va_up (va_up (va_up (va_up (va_up F 20 (upI (F 20) sd pa)) 22 (upI (F 22) sd (-1))) 23 (upI (F 23) sd 0)) 24 (upI (F 24) sd 0)) 21 (upI (F 21) sd (vp_nar .boolean (iz 1)).toInt)) 22 (upI (upI (F 22) sd (-1)) sd 1)) 23 (upI (upI (F 23) sd 0) sd ((20 * p0) + pz))) 24 (upI (upI (F 24) sd 0) sd (en - pz))) 20 (upI (upI (F 20) sd pa) sd en)) 24 sd = en - pz := upI_self _ _ _
                                  have e_294 : (va_up (va_up (va_up (va_up (va_up (va_up (va_up (va_up (va_up F 20 (upI (F 20) sd pa)) 22 (upI (F 22) sd (-1))) 23 (upI (F 23) sd 0)) 24 (upI (F 24) sd 0)) 21 (upI (F 21) sd (vp_nar .boolean (iz 1)).toInt)) 22 (upI (upI (F 22) sd (-1)) sd 1)) 23 (upI (upI (F 23) sd 0) sd ((20 * p0) + pz))) 24 (upI (upI (F 24) sd 0) sd (en - pz))) 20 (upI (upI (F 20) sd pa) sd en)) 21 sd = (vp_nar .boolean (iz 1)).toInt := upI_self _ _ _
                                  rw [← hQe]
                                  exact mk_ret hx hb hr hlocks hP hD hK hS dX6_step_299 (⟨rfl, (mB_f (mB_f (mB_f (mB_f (mB_f (mB_f (mB_f (mB_f (mB_f hB 20 sd (by omega) (by omega)) 22 sd (by omega) (by omega)) 23 sd (by omega) (by omega)) 24 sd (by omega) (by omega)) 21 sd (iz_lo _) (iz_hi _)) 22 sd (by omega) (by omega)) 23 sd (by omega) (by omega)) 24 sd (by omega) (by omega)) 20 sd (by omega) (by omega)), (mfr.upF (mfr.upF (mfr.upF (mfr.upF (mfr.upF (mfr.upF (mfr.upF (mfr.upF (mfr.upF mfr.rf (by decide) _) (by decide) _) (by decide) _) (by decide) _) (by decide) _) (by decide) _) (by decide) _) (by decide) _) (by decide) _), (mo1.up (mo1.up (mo1.up (mo1.up (mo1.up (mo1.up (mo1.up (mo1.up (mo1.up mo1.rf 20 _) 22 _) 23 _) 24 _) 21 _) 22 _) 23 _) 24 _) 20 _), by omega, by omega, by omega⟩)
                                · skip
                                  refine lv_aload_n hx hb dX6_step_240 rfl (lv_at hl 4 rfl) ?_
                                  refine va_get (D := (dC, dI)) (ci := 6) (v := .ref (ma 4)) (C := RX6) (T := TX6) (N := 44) hx hb hts kt_X6 hown hK hP 0 rfl rfl 4 (by decide) (kx_word hG kq_04_msmall_16 rfl) (fun _ h9 => h9) rfl dX6_step_241 ?_
                                  refine lv_bipush (v := iz 20) hx hb dX6_step_244 (by decide) ?_
                                  refine lv_iload_n hx hb dX6_step_246 rfl (lv_at hl 6 rfl) ?_
                                  refine ki_imul hx hb dX6_step_247 ?_
                                  refine lv_iload_n hx hb dX6_step_248 rfl (lv_at hl 3 rfl) ?_
                                  refine ki_iadd hx hb dX6_step_249 ?_
                                  refine ki_iald (F := F 4) hx hb hK hP 3 2 rfl rfl (by omega) (by omega) (by decide) dX6_step_250 ?_
                                  have hbd_295 := hB.2 4 ((20 * p0) + pz)
                                  refine lv_bipush (v := iz 48) hx hb dX6_step_251 (by decide) ?_
                                  refine ki_icmp_ne (tgt := 262) hx hb dX6_step_253 (by decide) (by omega) (by omega) (by omega) (by omega) (fun c_296 => ?_) (fun c_296 => ?_)
                                  · skip
                                    refine lv_aload_n hx hb dX6_step_262 rfl (lv_at hl 4 rfl) ?_
                                    refine va_get (D := (dC, dI)) (ci := 6) (v := .ref (ma 22)) (C := RX6) (T := TX6) (N := 44) hx hb hts kt_X6 hown hK hP 0 rfl rfl 22 (by decide) (kx_word hG kq_05_morder_2 rfl) (fun _ h9 => h9) rfl dX6_step_263 ?_
                                    refine lv_iload_n hx hb dX6_step_266 rfl (lv_at hl 5 rfl) ?_
                                    refine lv_iconst (v := iz 1) hx hb dX6_step_267 (by decide) ?_
                                    refine ki_iast (F := upI (F 22) sd (-1)) hx hb hK hP hD hS 17 16 rfl rfl (by omega) (by omega) (by decide) dX6_step_268 (fun H locs hP hD hS => ?_)
                                    have hP : va_P (dC, dI) kxCl (mW mo ma cs I (va_up (va_up (va_up (va_up (va_up (va_up F 20 (upI (F 20) sd pa)) 22 (upI (F 22) sd (-1))) 23 (upI (F 23) sd 0)) 24 (upI (F 24) sd 0)) 21 (upI (F 21) sd (vp_nar .boolean (iz 1)).toInt)) 22 (upI (upI (F 22) sd (-1)) sd 1))) H := hP
                                    have hD : va_D A (mW mo ma cs I (va_up (va_up (va_up (va_up (va_up (va_up F 20 (upI (F 20) sd pa)) 22 (upI (F 22) sd (-1))) 23 (upI (F 23) sd 0)) 24 (upI (F 24) sd 0)) 21 (upI (F 21) sd (vp_nar .boolean (iz 1)).toInt)) 22 (upI (upI (F 22) sd (-1)) sd 1))) := hD
                                    refine lv_aload_n hx hb dX6_step_269 rfl (lv_at hl 4 rfl) ?_
                                    refine va_get (D := (dC, dI)) (ci := 6) (v := .ref (ma 23)) (C := RX6) (T := TX6) (N := 44) hx hb hts kt_X6 hown hK hP 0 rfl rfl 23 (by decide) (kx_word hG kq_05_morder_3 rfl) (fun _ h9 => h9) rfl dX6_step_270 ?_
                                    refine lv_iload_n hx hb dX6_step_273 rfl (lv_at hl 5 rfl) ?_
                                    refine lv_bipush (v := iz 20) hx hb dX6_step_274 (by decide) ?_
                                    refine lv_iload_n hx hb dX6_step_276 rfl (lv_at hl 6 rfl) ?_
                                    refine ki_imul hx hb dX6_step_277 ?_
                                    refine lv_iload_n hx hb dX6_step_278 rfl (lv_at hl 3 rfl) ?_
                                    refine ki_iadd hx hb dX6_step_279 ?_
                                    refine ki_iast (F := upI (F 23) sd 0) hx hb hK hP hD hS 18 17 rfl rfl (by omega) (by omega) (by decide) dX6_step_280 (fun H locs hP hD hS => ?_)
                                    have hP : va_P (dC, dI) kxCl (mW mo ma cs I (va_up (va_up (va_up (va_up (va_up (va_up (va_up F 20 (upI (F 20) sd pa)) 22 (upI (F 22) sd (-1))) 23 (upI (F 23) sd 0)) 24 (upI (F 24) sd 0)) 21 (upI (F 21) sd (vp_nar .boolean (iz 1)).toInt)) 22 (upI (upI (F 22) sd (-1)) sd 1)) 23 (upI (upI (F 23) sd 0) sd ((20 * p0) + pz)))) H := hP
                                    have hD : va_D A (mW mo ma cs I (va_up (va_up (va_up (va_up (va_up (va_up (va_up F 20 (upI (F 20) sd pa)) 22 (upI (F 22) sd (-1))) 23 (upI (F 23) sd 0)) 24 (upI (F 24) sd 0)) 21 (upI (F 21) sd (vp_nar .boolean (iz 1)).toInt)) 22 (upI (upI (F 22) sd (-1)) sd 1)) 23 (upI (upI (F 23) sd 0) sd ((20 * p0) + pz)))) := hD
                                    refine lv_aload_n hx hb dX6_step_281 rfl (lv_at hl 4 rfl) ?_
                                    refine va_get (D := (dC, dI)) (ci := 6) (v := .ref (ma 24)) (C := RX6) (T := TX6) (N := 44) hx hb hts kt_X6 hown hK hP 0 rfl rfl 24 (by decide) (kx_word hG kq_05_morder_4 rfl) (fun _ h9 => h9) rfl dX6_step_282 ?_
                                    refine lv_iload_n hx hb dX6_step_285 rfl (lv_at hl 5 rfl) ?_
                                    refine lv_iload hx hb dX6_step_286 (lv_at hl 0 rfl) ?_
                                    refine lv_iload_n hx hb dX6_step_288 rfl (lv_at hl 3 rfl) ?_
                                    refine ki_isub hx hb dX6_step_289 ?_
                                    refine ki_iast (F := upI (F 24) sd 0) hx hb hK hP hD hS 19 18 rfl rfl (by omega) (by omega) (by decide) dX6_step_290 (fun H locs hP hD hS => ?_)
                                    have hP : va_P (dC, dI) kxCl (mW mo ma cs I (va_up (va_up (va_up (va_up (va_up (va_up (va_up (va_up F 20 (upI (F 20) sd pa)) 22 (upI (F 22) sd (-1))) 23 (upI (F 23) sd 0)) 24 (upI (F 24) sd 0)) 21 (upI (F 21) sd (vp_nar .boolean (iz 1)).toInt)) 22 (upI (upI (F 22) sd (-1)) sd 1)) 23 (upI (upI (F 23) sd 0) sd ((20 * p0) + pz))) 24 (upI (upI (F 24) sd 0) sd (en - pz)))) H := hP
                                    have hD : va_D A (mW mo ma cs I (va_up (va_up (va_up (va_up (va_up (va_up (va_up (va_up F 20 (upI (F 20) sd pa)) 22 (upI (F 22) sd (-1))) 23 (upI (F 23) sd 0)) 24 (upI (F 24) sd 0)) 21 (upI (F 21) sd (vp_nar .boolean (iz 1)).toInt)) 22 (upI (upI (F 22) sd (-1)) sd 1)) 23 (upI (upI (F 23) sd 0) sd ((20 * p0) + pz))) 24 (upI (upI (F 24) sd 0) sd (en - pz)))) := hD
                                    refine lv_aload_n hx hb dX6_step_291 rfl (lv_at hl 4 rfl) ?_
                                    refine va_get (D := (dC, dI)) (ci := 6) (v := .ref (ma 20)) (C := RX6) (T := TX6) (N := 44) hx hb hts kt_X6 hown hK hP 0 rfl rfl 20 (by decide) (kx_word hG kq_05_morder_0 rfl) (fun _ h9 => h9) rfl dX6_step_292 ?_
                                    refine lv_iload_n hx hb dX6_step_295 rfl (lv_at hl 5 rfl) ?_
                                    refine lv_iload hx hb dX6_step_296 (lv_at hl 0 rfl) ?_
                                    refine ki_iast (F := upI (F 20) sd pa) hx hb hK hP hD hS 15 14 rfl rfl (by omega) (by omega) (by decide) dX6_step_298 (fun H locs hP hD hS => ?_)
                                    have hP : va_P (dC, dI) kxCl (mW mo ma cs I (va_up (va_up (va_up (va_up (va_up (va_up (va_up (va_up (va_up F 20 (upI (F 20) sd pa)) 22 (upI (F 22) sd (-1))) 23 (upI (F 23) sd 0)) 24 (upI (F 24) sd 0)) 21 (upI (F 21) sd (vp_nar .boolean (iz 1)).toInt)) 22 (upI (upI (F 22) sd (-1)) sd 1)) 23 (upI (upI (F 23) sd 0) sd ((20 * p0) + pz))) 24 (upI (upI (F 24) sd 0) sd (en - pz))) 20 (upI (upI (F 20) sd pa) sd en))) H := hP
                                    have hD : va_D A (mW mo ma cs I (va_up (va_up (va_up (va_up (va_up (va_up (va_up (va_up (va_up F 20 (upI (F 20) sd pa)) 22 (upI (F 22) sd (-1))) 23 (upI (F 23) sd 0)) 24 (upI (F 24) sd 0)) 21 (upI (F 21) sd (vp_nar .boolean (iz 1)).toInt)) 22 (upI (upI (F 22) sd (-1)) sd 1)) 23 (upI (upI (F 23) sd 0) sd ((20 * p0) + pz))) 24 (upI (upI (F 24) sd 0) sd (en - pz))) 20 (upI (upI (F 20) sd pa) sd en))) := hD
                                    have e_297 : (va_up (va_up (va_up (va_up (va_up (va_up (va_up (va_up (va_up F 20 (upI (F 20) sd pa)) 22 (upI (F 22) sd (-1))) 23 (upI (F 23) sd 0)) 24 (upI (F 24) sd 0)) 21 (upI (F 21) sd (vp_nar .boolean (iz 1)).toInt)) 22 (upI (upI (F 22) sd (-1)) sd 1)) 23 (upI (upI (F 23) sd 0) sd ((20 * p0) + pz))) 24 (upI (upI (F 24) sd 0) sd (en - pz))) 20 (upI (upI (F 20) sd pa) sd en)) 20 sd = en := upI_self _ _ _
                                    have e_298 : (va_up (va_up (va_up (va_up (va_up (va_up (va_up (va_up (va_up F 20 (upI (F 20) sd pa)) 22 (upI (F 22) sd (-1))) 23 (upI (F 23) sd 0)) 24 (upI (F 24) sd 0)) 21 (upI (F 21) sd (vp_nar .boolean (iz 1)).toInt)) 22 (upI (upI (F 22) sd (-1)) sd 1)) 23 (upI (upI (F 23) sd 0) sd ((20 * p0) + pz))) 24 (upI (upI (F 24) sd 0) sd (en - pz))) 20 (upI (upI (F 20) sd pa) sd en)) 22 sd = 1 := upI_self _ _ _
                                    have e_299 : (va_up (va_up (va_up (va_up (va_up (va_up (va_up (va_up (va_up F 20 (upI (F 20) sd pa)) 22 (upI (F 22) sd (-1))) 23 (upI (F 23) sd 0)) 24 (upI (F 24) sd 0)) 21 (upI (F 21) sd (vp_nar .boolean (iz 1)).toInt)) 22 (upI (upI (F 22) sd (-1)) sd 1)) 23 (upI (upI (F 23) sd 0) sd ((20 * p0) + pz))) 24 (upI (upI (F 24) sd 0) sd (en - pz))) 20 (upI (upI (F 20) sd pa) sd en)) 23 sd = (20 * p0) + pz := upI_self _ _ _
                                    have e_300 : (va_up (va_up (va_up (va_up (va_up (va_up (va_up (va_up (va_up F 20 (upI (F 20) sd pa)) 22 (upI (F 22) sd (-1))) 23 (upI (F 23) sd 0)) 24 (upI (F 24) sd 0)) 21 (upI (F 21) sd (vp_nar .boolean (iz 1)).toInt)) 22 (upI (upI (F 22) sd (-1)) sd 1)) 23 (upI (upI (F 23) sd 0) sd ((20 * p0) + pz))) 24 (upI (upI (F 24) sd 0) sd (en - pz))) 20 (upI (upI (F 20) sd pa) sd en)) 24 sd = en - pz := upI_self _ _ _
                                    have e_301 : (va_up (va_up (va_up (va_up (va_up (va_up (va_up (va_up (va_up F 20 (upI (F 20) sd pa)) 22 (upI (F 22) sd (-1))) 23 (upI (F 23) sd 0)) 24 (upI (F 24) sd 0)) 21 (upI (F 21) sd (vp_nar .boolean (iz 1)).toInt)) 22 (upI (upI (F 22) sd (-1)) sd 1)) 23 (upI (upI (F 23) sd 0) sd ((20 * p0) + pz))) 24 (upI (upI (F 24) sd 0) sd (en - pz))) 20 (upI (upI (F 20) sd pa) sd en)) 21 sd = (vp_nar .boolean (iz 1)).toInt := upI_self _ _ _
                                    rw [← hQe]
                                    exact mk_ret hx hb hr hlocks hP hD hK hS dX6_step_299 (⟨rfl, (mB_f (mB_f (mB_f (mB_f (mB_f (mB_f (mB_f (mB_f (mB_f hB 20 sd (by omega) (by omega)) 22 sd (by omega) (by omega)) 23 sd (by omega) (by omega)) 24 sd (by omega) (by omega)) 21 sd (iz_lo _) (iz_hi _)) 22 sd (by omega) (by omega)) 23 sd (by omega) (by omega)) 24 sd (by omega) (by omega)) 20 sd (by omega) (by omega)), (mfr.upF (mfr.upF (mfr.upF (mfr.upF (mfr.upF (mfr.upF (mfr.upF (mfr.upF (mfr.upF mfr.rf (by decide) _) (by decide) _) (by decide) _) (by decide) _) (by decide) _) (by decide) _) (by decide) _) (by decide) _) (by decide) _), (mo1.up (mo1.up (mo1.up (mo1.up (mo1.up (mo1.up (mo1.up (mo1.up (mo1.up mo1.rf 20 _) 22 _) 23 _) 24 _) 21 _) 22 _) 23 _) 24 _) 20 _), by omega, by omega, by omega⟩)
                                  · skip
                                    refine lv_iinc (v := iz (pz + 1)) (lv' := [(3, .int (iz (pz + 1))), (6, .int (iz en)), (5, .int (iz (F 4 ((20 * p0) + pa)))), (4, .int (iz ps)), (0, .ref mo), (1, .int (iz sd)), (2, .int (iz p0))]) hx hb dX6_step_256 hl (k := 3) rfl (iz_add pz 1) (by decide) rfl (fun ls hl => ?_)
                                    refine lv_goto (tgt := 234) hx hb dX6_step_259 (by decide) ?_
                                    exact ih234 (pz + 1) (by omega) (by omega) _ _ hP hD hS ls (lv_sub hl [1, 2, 3, 0, 4, 5, 6] rfl)
                            exact lp234 _ pa (by omega) (Nat.lt_succ_self _) _ _ hP hD hS ls (lv_sub hl [0, 1, 2, 3, 4, 5, 6] rfl)
                          · skip
                            refine lv_iinc (v := iz (en + 1)) (lv' := [(6, .int (iz (en + 1))), (5, .int (iz (F 4 ((20 * p0) + pa)))), (4, .int (iz ps)), (3, .int (iz pa)), (0, .ref mo), (1, .int (iz sd)), (2, .int (iz p0))]) hx hb dX6_step_228 hl (k := 0) rfl (iz_add en 1) (by decide) rfl (fun ls hl => ?_)
                            refine lv_goto (tgt := 192) hx hb dX6_step_231 (by decide) ?_
                            exact ih192 (en + 1) (by omega) (by omega) _ _ hP hD hS ls (lv_sub hl [0, 1, 2, 3, 4, 5, 6] rfl)
                  exact lp192 _ (pa + 1) (by omega) (Nat.lt_succ_self _) _ _ hP hD hS ls (lv_sub hl [0, 1, 2, 3, 4, 5, 6] rfl)
                · skip
                  refine lv_aload_n hx hb dX6_step_159 rfl (lv_at hl 3 rfl) ?_
                  refine va_get (D := (dC, dI)) (ci := 6) (v := .ref (ma 22)) (C := RX6) (T := TX6) (N := 44) hx hb hts kt_X6 hown hK hP 0 rfl rfl 22 (by decide) (kx_word hG kq_05_morder_2 rfl) (fun _ h9 => h9) rfl dX6_step_160 ?_
                  refine lv_iload_n hx hb dX6_step_163 rfl (lv_at hl 4 rfl) ?_
                  refine lv_iconst (v := iz 2) hx hb dX6_step_164 (by decide) ?_
                  refine ki_iast (F := upI (F 22) sd (-1)) hx hb hK hP hD hS 17 16 rfl rfl (by omega) (by omega) (by decide) dX6_step_165 (fun H locs hP hD hS => ?_)
                  have hP : va_P (dC, dI) kxCl (mW mo ma cs I (va_up (va_up (va_up (va_up (va_up (va_up F 20 (upI (F 20) sd pa)) 22 (upI (F 22) sd (-1))) 23 (upI (F 23) sd 0)) 24 (upI (F 24) sd 0)) 21 (upI (F 21) sd (vp_nar .boolean (iz 1)).toInt)) 22 (upI (upI (F 22) sd (-1)) sd 2))) H := hP
                  have hD : va_D A (mW mo ma cs I (va_up (va_up (va_up (va_up (va_up (va_up F 20 (upI (F 20) sd pa)) 22 (upI (F 22) sd (-1))) 23 (upI (F 23) sd 0)) 24 (upI (F 24) sd 0)) 21 (upI (F 21) sd (vp_nar .boolean (iz 1)).toInt)) 22 (upI (upI (F 22) sd (-1)) sd 2))) := hD
                  refine lv_aload_n hx hb dX6_step_166 rfl (lv_at hl 3 rfl) ?_
                  refine va_get (D := (dC, dI)) (ci := 6) (v := .ref (ma 23)) (C := RX6) (T := TX6) (N := 44) hx hb hts kt_X6 hown hK hP 0 rfl rfl 23 (by decide) (kx_word hG kq_05_morder_3 rfl) (fun _ h9 => h9) rfl dX6_step_167 ?_
                  refine lv_iload_n hx hb dX6_step_170 rfl (lv_at hl 4 rfl) ?_
                  refine lv_iload hx hb dX6_step_171 (lv_at hl 0 rfl) ?_
                  refine mk_calls (As := [.int (iz (F 4 ((20 * p0) + pa)))]) (rest := [.int (iz sd), .ref (ma 23)]) ⟨hx, hb, hml, hown, hts⟩ (k_letterOf l dC dI (F 4 ((20 * p0) + pa)) H.size (by omega) (by omega)) (va_cwS 1 hts (kx_gS kq_05_morder_5 kq_05_morder_6 kq_04_msmall_6 kq_05_morder_7 rfl) rfl rfl rfl (by decide +kernel) ⟨Nat.le_of_ble_eq_true rfl, Nat.le_of_ble_eq_true rfl⟩) hP hD hK hG hZ hS hA rfl hl.1 rfl (Nat.le_of_ble_eq_true rfl) dX6_step_173 ⟨Nat.le_of_ble_eq_true rfl, Nat.le_of_ble_eq_true rfl⟩ (fun z_302 H locs hq_303 hP hS => ?_)
                  try dsimp only at hq_303
                  refine ki_iast (F := upI (F 23) sd 0) hx hb hK hP hD hS 18 17 rfl rfl (by omega) (by omega) (by decide) dX6_step_176 (fun H locs hP hD hS => ?_)
                  have hP : va_P (dC, dI) kxCl (mW mo ma cs I (va_up (va_up (va_up (va_up (va_up (va_up (va_up F 20 (upI (F 20) sd pa)) 22 (upI (F 22) sd (-1))) 23 (upI (F 23) sd 0)) 24 (upI (F 24) sd 0)) 21 (upI (F 21) sd (vp_nar .boolean (iz 1)).toInt)) 22 (upI (upI (F 22) sd (-1)) sd 2)) 23 (upI (upI (F 23) sd 0) sd z_302))) H := hP
                  have hD : va_D A (mW mo ma cs I (va_up (va_up (va_up (va_up (va_up (va_up (va_up F 20 (upI (F 20) sd pa)) 22 (upI (F 22) sd (-1))) 23 (upI (F 23) sd 0)) 24 (upI (F 24) sd 0)) 21 (upI (F 21) sd (vp_nar .boolean (iz 1)).toInt)) 22 (upI (upI (F 22) sd (-1)) sd 2)) 23 (upI (upI (F 23) sd 0) sd z_302))) := hD
                  refine lv_aload_n hx hb dX6_step_177 rfl (lv_at hl 3 rfl) ?_
                  refine va_get (D := (dC, dI)) (ci := 6) (v := .ref (ma 20)) (C := RX6) (T := TX6) (N := 44) hx hb hts kt_X6 hown hK hP 0 rfl rfl 20 (by decide) (kx_word hG kq_05_morder_0 rfl) (fun _ h9 => h9) rfl dX6_step_178 ?_
                  refine lv_iload_n hx hb dX6_step_181 rfl (lv_at hl 4 rfl) ?_
                  refine lv_iload_n hx hb dX6_step_182 rfl (lv_at hl 2 rfl) ?_
                  refine lv_iconst (v := iz 1) hx hb dX6_step_183 (by decide) ?_
                  refine ki_iadd hx hb dX6_step_184 ?_
                  refine ki_iast (F := upI (F 20) sd pa) hx hb hK hP hD hS 15 14 rfl rfl (by omega) (by omega) (by decide) dX6_step_185 (fun H locs hP hD hS => ?_)
                  have hP : va_P (dC, dI) kxCl (mW mo ma cs I (va_up (va_up (va_up (va_up (va_up (va_up (va_up (va_up F 20 (upI (F 20) sd pa)) 22 (upI (F 22) sd (-1))) 23 (upI (F 23) sd 0)) 24 (upI (F 24) sd 0)) 21 (upI (F 21) sd (vp_nar .boolean (iz 1)).toInt)) 22 (upI (upI (F 22) sd (-1)) sd 2)) 23 (upI (upI (F 23) sd 0) sd z_302)) 20 (upI (upI (F 20) sd pa) sd (pa + 1)))) H := hP
                  have hD : va_D A (mW mo ma cs I (va_up (va_up (va_up (va_up (va_up (va_up (va_up (va_up F 20 (upI (F 20) sd pa)) 22 (upI (F 22) sd (-1))) 23 (upI (F 23) sd 0)) 24 (upI (F 24) sd 0)) 21 (upI (F 21) sd (vp_nar .boolean (iz 1)).toInt)) 22 (upI (upI (F 22) sd (-1)) sd 2)) 23 (upI (upI (F 23) sd 0) sd z_302)) 20 (upI (upI (F 20) sd pa) sd (pa + 1)))) := hD
                  have e_304 : (va_up (va_up (va_up (va_up (va_up (va_up (va_up (va_up F 20 (upI (F 20) sd pa)) 22 (upI (F 22) sd (-1))) 23 (upI (F 23) sd 0)) 24 (upI (F 24) sd 0)) 21 (upI (F 21) sd (vp_nar .boolean (iz 1)).toInt)) 22 (upI (upI (F 22) sd (-1)) sd 2)) 23 (upI (upI (F 23) sd 0) sd z_302)) 20 (upI (upI (F 20) sd pa) sd (pa + 1))) 20 sd = pa + 1 := upI_self _ _ _
                  have e_305 : (va_up (va_up (va_up (va_up (va_up (va_up (va_up (va_up F 20 (upI (F 20) sd pa)) 22 (upI (F 22) sd (-1))) 23 (upI (F 23) sd 0)) 24 (upI (F 24) sd 0)) 21 (upI (F 21) sd (vp_nar .boolean (iz 1)).toInt)) 22 (upI (upI (F 22) sd (-1)) sd 2)) 23 (upI (upI (F 23) sd 0) sd z_302)) 20 (upI (upI (F 20) sd pa) sd (pa + 1))) 22 sd = 2 := upI_self _ _ _
                  have e_306 : (va_up (va_up (va_up (va_up (va_up (va_up (va_up (va_up F 20 (upI (F 20) sd pa)) 22 (upI (F 22) sd (-1))) 23 (upI (F 23) sd 0)) 24 (upI (F 24) sd 0)) 21 (upI (F 21) sd (vp_nar .boolean (iz 1)).toInt)) 22 (upI (upI (F 22) sd (-1)) sd 2)) 23 (upI (upI (F 23) sd 0) sd z_302)) 20 (upI (upI (F 20) sd pa) sd (pa + 1))) 23 sd = z_302 := upI_self _ _ _
                  have e_307 : (va_up (va_up (va_up (va_up (va_up (va_up (va_up (va_up F 20 (upI (F 20) sd pa)) 22 (upI (F 22) sd (-1))) 23 (upI (F 23) sd 0)) 24 (upI (F 24) sd 0)) 21 (upI (F 21) sd (vp_nar .boolean (iz 1)).toInt)) 22 (upI (upI (F 22) sd (-1)) sd 2)) 23 (upI (upI (F 23) sd 0) sd z_302)) 20 (upI (upI (F 20) sd pa) sd (pa + 1))) 24 sd = 0 := upI_self _ _ _
                  have e_308 : (va_up (va_up (va_up (va_up (va_up (va_up (va_up (va_up F 20 (upI (F 20) sd pa)) 22 (upI (F 22) sd (-1))) 23 (upI (F 23) sd 0)) 24 (upI (F 24) sd 0)) 21 (upI (F 21) sd (vp_nar .boolean (iz 1)).toInt)) 22 (upI (upI (F 22) sd (-1)) sd 2)) 23 (upI (upI (F 23) sd 0) sd z_302)) 20 (upI (upI (F 20) sd pa) sd (pa + 1))) 21 sd = (vp_nar .boolean (iz 1)).toInt := upI_self _ _ _
                  rw [← hQe]
                  exact mk_ret hx hb hr hlocks hP hD hK hS dX6_step_186 (⟨rfl, (mB_f (mB_f (mB_f (mB_f (mB_f (mB_f (mB_f (mB_f hB 20 sd (by omega) (by omega)) 22 sd (by omega) (by omega)) 23 sd (by omega) (by omega)) 24 sd (by omega) (by omega)) 21 sd (iz_lo _) (iz_hi _)) 22 sd (by omega) (by omega)) 23 sd (by omega) (by omega)) 20 sd (by omega) (by omega)), (mfr.upF (mfr.upF (mfr.upF (mfr.upF (mfr.upF (mfr.upF (mfr.upF (mfr.upF mfr.rf (by decide) _) (by decide) _) (by decide) _) (by decide) _) (by decide) _) (by decide) _) (by decide) _) (by decide) _), (mo1.up (mo1.up (mo1.up (mo1.up (mo1.up (mo1.up (mo1.up (mo1.up mo1.rf 20 _) 22 _) 23 _) 24 _) 21 _) 22 _) 23 _) 20 _), by omega, by omega, by omega⟩)
              · skip
                refine lv_aload_n hx hb dX6_step_114 rfl (lv_at hl 2 rfl) ?_
                refine va_get (D := (dC, dI)) (ci := 6) (v := .ref (ma 21)) (C := RX6) (T := TX6) (N := 44) hx hb hts kt_X6 hown hK hP 0 rfl rfl 21 (by decide) (kx_word hG kq_05_morder_1 rfl) (fun _ h9 => h9) rfl dX6_step_115 ?_
                refine lv_iload_n hx hb dX6_step_118 rfl (lv_at hl 3 rfl) ?_
                refine ki_zald (F := F 21) hx hb hK hP 16 15 rfl rfl (by omega) (by omega) (by decide) dX6_step_119 ?_
                have hbd_309 := hB.2 21 sd
                refine ki_if_eq (tgt := 131) hx hb dX6_step_120 (by decide) (by omega) (by omega) (fun c_310 => ?_) (fun c_310 => ?_)
                · skip
                  refine lv_aload_n hx hb dX6_step_131 rfl (lv_at hl 2 rfl) ?_
                  refine va_get (D := (dC, dI)) (ci := 6) (v := .ref (ma 21)) (C := RX6) (T := TX6) (N := 44) hx hb hts kt_X6 hown hK hP 0 rfl rfl 21 (by decide) (kx_word hG kq_05_morder_1 rfl) (fun _ h9 => h9) rfl dX6_step_132 ?_
                  refine lv_iload_n hx hb dX6_step_135 rfl (lv_at hl 3 rfl) ?_
                  refine lv_iconst (v := iz 1) hx hb dX6_step_136 (by decide) ?_
                  refine ki_zast (F := F 21) hx hb hK hP hD hS 16 15 rfl rfl (by omega) (by omega) (by decide) dX6_step_137 (fun H locs hP hD hS => ?_)
                  have hP : va_P (dC, dI) kxCl (mW mo ma cs I (va_up (va_up (va_up (va_up (va_up F 20 (upI (F 20) sd pa)) 22 (upI (F 22) sd (-1))) 23 (upI (F 23) sd 0)) 24 (upI (F 24) sd 0)) 21 (upI (F 21) sd (vp_nar .boolean (iz 1)).toInt))) H := hP
                  have hD : va_D A (mW mo ma cs I (va_up (va_up (va_up (va_up (va_up F 20 (upI (F 20) sd pa)) 22 (upI (F 22) sd (-1))) 23 (upI (F 23) sd 0)) 24 (upI (F 24) sd 0)) 21 (upI (F 21) sd (vp_nar .boolean (iz 1)).toInt))) := hD
                  refine lv_aload_n hx hb dX6_step_138 rfl (lv_at hl 2 rfl) ?_
                  refine va_get (D := (dC, dI)) (ci := 6) (v := .ref (ma 4)) (C := RX6) (T := TX6) (N := 44) hx hb hts kt_X6 hown hK hP 0 rfl rfl 4 (by decide) (kx_word hG kq_04_msmall_16 rfl) (fun _ h9 => h9) rfl dX6_step_139 ?_
                  refine lv_bipush (v := iz 20) hx hb dX6_step_142 (by decide) ?_
                  refine lv_iload_n hx hb dX6_step_144 rfl (lv_at hl 4 rfl) ?_
                  refine ki_imul hx hb dX6_step_145 ?_
                  refine lv_iload_n hx hb dX6_step_146 rfl (lv_at hl 1 rfl) ?_
                  refine ki_iadd hx hb dX6_step_147 ?_
                  refine ki_iald (F := F 4) hx hb hK hP 3 2 rfl rfl (by omega) (by omega) (by decide) dX6_step_148 ?_
                  refine lv_istore (lv' := [(5, .int (iz (F 4 ((20 * p0) + pa)))), (4, .int (iz ps)), (3, .int (iz pa)), (0, .ref mo), (1, .int (iz sd)), (2, .int (iz p0))]) hx hb dX6_step_149 hl (by decide) rfl (fun ls hl => ?_)
                  refine lv_iload hx hb dX6_step_151 (lv_at hl 0 rfl) ?_
                  refine mk_calls (As := [.int (iz (F 4 ((20 * p0) + pa)))]) (rest := []) ⟨hx, hb, hml, hown, hts⟩ (k_letterOf l dC dI (F 4 ((20 * p0) + pa)) H.size (by omega) (by omega)) (va_cwS 1 hts (kx_gS kq_05_morder_5 kq_05_morder_6 kq_04_msmall_6 kq_05_morder_7 rfl) rfl rfl rfl (by decide +kernel) ⟨Nat.le_of_ble_eq_true rfl, Nat.le_of_ble_eq_true rfl⟩) hP hD hK hG hZ hS hA rfl hl.1 rfl (Nat.le_of_ble_eq_true rfl) dX6_step_153 ⟨Nat.le_of_ble_eq_true rfl, Nat.le_of_ble_eq_true rfl⟩ (fun z_311 H locs hq_312 hP hS => ?_)
                  try dsimp only at hq_312
                  refine ki_if_le (tgt := 187) hx hb dX6_step_156 (by decide) (by omega) (by omega) (fun c_313 => ?_) (fun c_313 => ?_)
                  · skip
                    refine lv_iload_n hx hb dX6_step_187 rfl (lv_at hl 2 rfl) ?_
                    refine lv_iconst (v := iz 1) hx hb dX6_step_188 (by decide) ?_
                    refine ki_iadd hx hb dX6_step_189 ?_
                    refine lv_istore (lv' := [(6, .int (iz (pa + 1))), (5, .int (iz (F 4 ((20 * p0) + pa)))), (4, .int (iz ps)), (3, .int (iz pa)), (0, .ref mo), (1, .int (iz sd)), (2, .int (iz p0))]) hx hb dX6_step_190 hl (by decide) rfl (fun ls hl => ?_)
                    have lp192 : ∀ (n : Nat) (en : Int), ((pa + 1 ≤ en ∧ en ≤ F 5 p0)) → (F 5 p0 - en).toNat < n → ∀ (H : Heap) (locs : List Loc), va_P (dC, dI) kxCl (mW mo ma cs I (va_up (va_up (va_up (va_up (va_up F 20 (upI (F 20) sd pa)) 22 (upI (F 22) sd (-1))) 23 (upI (F 23) sd 0)) 24 (upI (F 24) sd 0)) 21 (upI (F 21) sd (vp_nar .boolean (iz 1)).toInt))) H → va_D A (mW mo ma cs I (va_up (va_up (va_up (va_up (va_up F 20 (upI (F 20) sd pa)) 22 (upI (F 22) sd (-1))) 23 (upI (F 23) sd 0)) 24 (upI (F 24) sd 0)) 21 (upI (F 21) sd (vp_nar .boolean (iz 1)).toInt))) → va_S A s.heap H locs → ∀ ls : Array Slot, lv_has ls 7 [(6, .int (iz en)), (5, .int (iz (F 4 ((20 * p0) + pa)))), (4, .int (iz ps)), (3, .int (iz pa)), (0, .ref mo), (1, .int (iz sd)), (2, .int (iz p0))] → W p l e (headSpec [.code yX6_step cX6_step 7 none] ({ frames := 1, cells := 0, slots := 0, locals := 21 })).room s m ([.ref mo, .int (iz sd), .int (iz p0)] : List Value).toArray below meth c H locs 0 0 QQ (F0 m 192 ls []) := by
                      intro n
                      induction n with
                      | zero => intro en hinv hm; exact absurd hm (Nat.not_lt_zero _)
                      | succ n ih192 =>
                        intro en hinv hm H locs hP hD hS ls hl
                        have hen := hinv
                        refine lv_aload_n hx hb dX6_step_192 rfl (lv_at hl 4 rfl) ?_
                        refine va_get (D := (dC, dI)) (ci := 6) (v := .int (iz (I 14))) (C := RX6) (T := TX6) (N := 44) hx hb hts kt_X6 hown hK hP 0 rfl rfl 14 (by decide) (kx_word hG kq_04_msmall_17 rfl) (fun _ h9 => h9) rfl dX6_step_193 ?_
                        have hbd_314 := hB.1 14
                        refine ki_if_eq (tgt := 234) hx hb dX6_step_196 (by decide) (by omega) (by omega) (fun c_315 => ?_) (fun c_315 => ?_)
                        · skip
                          have lp234 : ∀ (n : Nat) (pz : Int), ((pa ≤ pz ∧ pz ≤ en)) → (en - pz).toNat < n → ∀ (H : Heap) (locs : List Loc), va_P (dC, dI) kxCl (mW mo ma cs I (va_up (va_up (va_up (va_up (va_up F 20 (upI (F 20) sd pa)) 22 (upI (F 22) sd (-1))) 23 (upI (F 23) sd 0)) 24 (upI (F 24) sd 0)) 21 (upI (F 21) sd (vp_nar .boolean (iz 1)).toInt))) H → va_D A (mW mo ma cs I (va_up (va_up (va_up (va_up (va_up F 20 (upI (F 20) sd pa)) 22 (upI (F 22) sd (-1))) 23 (upI (F 23) sd 0)) 24 (upI (F 24) sd 0)) 21 (upI (F 21) sd (vp_nar .boolean (iz 1)).toInt))) → va_S A s.heap H locs → ∀ ls : Array Slot, lv_has ls 7 [(6, .int (iz en)), (5, .int (iz (F 4 ((20 * p0) + pa)))), (4, .int (iz ps)), (3, .int (iz pz)), (0, .ref mo), (1, .int (iz sd)), (2, .int (iz p0))] → W p l e (headSpec [.code yX6_step cX6_step 7 none] ({ frames := 1, cells := 0, slots := 0, locals := 21 })).room s m ([.ref mo, .int (iz sd), .int (iz p0)] : List Value).toArray below meth c H locs 0 0 QQ (F0 m 234 ls []) := by
                            intro n
                            induction n with
                            | zero => intro pz hinv hm; exact absurd hm (Nat.not_lt_zero _)
                            | succ n ih234 =>
                              intro pz hinv hm H locs hP hD hS ls hl
                              have hpz := hinv
                              refine lv_iload_n hx hb dX6_step_234 rfl (lv_at hl 3 rfl) ?_
                              refine lv_iload hx hb dX6_step_235 (lv_at hl 0 rfl) ?_
                              refine ki_icmp_ge (tgt := 262) hx hb dX6_step_237 (by decide) (by omega) (by omega) (by omega) (by omega) (fun c_316 => ?_) (fun c_316 => ?_)
                              · skip
                                refine lv_aload_n hx hb dX6_step_262 rfl (lv_at hl 4 rfl) ?_
                                refine va_get (D := (dC, dI)) (ci := 6) (v := .ref (ma 22)) (C := RX6) (T := TX6) (N := 44) hx hb hts kt_X6 hown hK hP 0 rfl rfl 22 (by decide) (kx_word hG kq_05_morder_2 rfl) (fun _ h9 => h9) rfl dX6_step_263 ?_
                                refine lv_iload_n hx hb dX6_step_266 rfl (lv_at hl 5 rfl) ?_
                                refine lv_iconst (v := iz 1) hx hb dX6_step_267 (by decide) ?_
                                refine ki_iast (F := upI (F 22) sd (-1)) hx hb hK hP hD hS 17 16 rfl rfl (by omega) (by omega) (by decide) dX6_step_268 (fun H locs hP hD hS => ?_)
                                have hP : va_P (dC, dI) kxCl (mW mo ma cs I (va_up (va_up (va_up (va_up (va_up (va_up F 20 (upI (F 20) sd pa)) 22 (upI (F 22) sd (-1))) 23 (upI (F 23) sd 0)) 24 (upI (F 24) sd 0)) 21 (upI (F 21) sd (vp_nar .boolean (iz 1)).toInt)) 22 (upI (upI (F 22) sd (-1)) sd 1))) H := hP
                                have hD : va_D A (mW mo ma cs I (va_up (va_up (va_up (va_up (va_up (va_up F 20 (upI (F 20) sd pa)) 22 (upI (F 22) sd (-1))) 23 (upI (F 23) sd 0)) 24 (upI (F 24) sd 0)) 21 (upI (F 21) sd (vp_nar .boolean (iz 1)).toInt)) 22 (upI (upI (F 22) sd (-1)) sd 1))) := hD
                                refine lv_aload_n hx hb dX6_step_269 rfl (lv_at hl 4 rfl) ?_
                                refine va_get (D := (dC, dI)) (ci := 6) (v := .ref (ma 23)) (C := RX6) (T := TX6) (N := 44) hx hb hts kt_X6 hown hK hP 0 rfl rfl 23 (by decide) (kx_word hG kq_05_morder_3 rfl) (fun _ h9 => h9) rfl dX6_step_270 ?_
                                refine lv_iload_n hx hb dX6_step_273 rfl (lv_at hl 5 rfl) ?_
                                refine lv_bipush (v := iz 20) hx hb dX6_step_274 (by decide) ?_
                                refine lv_iload_n hx hb dX6_step_276 rfl (lv_at hl 6 rfl) ?_
                                refine ki_imul hx hb dX6_step_277 ?_
                                refine lv_iload_n hx hb dX6_step_278 rfl (lv_at hl 3 rfl) ?_
                                refine ki_iadd hx hb dX6_step_279 ?_
                                refine ki_iast (F := upI (F 23) sd 0) hx hb hK hP hD hS 18 17 rfl rfl (by omega) (by omega) (by decide) dX6_step_280 (fun H locs hP hD hS => ?_)
                                have hP : va_P (dC, dI) kxCl (mW mo ma cs I (va_up (va_up (va_up (va_up (va_up (va_up (va_up F 20 (upI (F 20) sd pa)) 22 (upI (F 22) sd (-1))) 23 (upI (F 23) sd 0)) 24 (upI (F 24) sd 0)) 21 (upI (F 21) sd (vp_nar .boolean (iz 1)).toInt)) 22 (upI (upI (F 22) sd (-1)) sd 1)) 23 (upI (upI (F 23) sd 0) sd ((20 * p0) + pz)))) H := hP
                                have hD : va_D A (mW mo ma cs I (va_up (va_up (va_up (va_up (va_up (va_up (va_up F 20 (upI (F 20) sd pa)) 22 (upI (F 22) sd (-1))) 23 (upI (F 23) sd 0)) 24 (upI (F 24) sd 0)) 21 (upI (F 21) sd (vp_nar .boolean (iz 1)).toInt)) 22 (upI (upI (F 22) sd (-1)) sd 1)) 23 (upI (upI (F 23) sd 0) sd ((20 * p0) + pz)))) := hD
                                refine lv_aload_n hx hb dX6_step_281 rfl (lv_at hl 4 rfl) ?_
                                refine va_get (D := (dC, dI)) (ci := 6) (v := .ref (ma 24)) (C := RX6) (T := TX6) (N := 44) hx hb hts kt_X6 hown hK hP 0 rfl rfl 24 (by decide) (kx_word hG kq_05_morder_4 rfl) (fun _ h9 => h9) rfl dX6_step_282 ?_
                                refine lv_iload_n hx hb dX6_step_285 rfl (lv_at hl 5 rfl) ?_
                                refine lv_iload hx hb dX6_step_286 (lv_at hl 0 rfl) ?_
                                refine lv_iload_n hx hb dX6_step_288 rfl (lv_at hl 3 rfl) ?_
                                refine ki_isub hx hb dX6_step_289 ?_
                                refine ki_iast (F := upI (F 24) sd 0) hx hb hK hP hD hS 19 18 rfl rfl (by omega) (by omega) (by decide) dX6_step_290 (fun H locs hP hD hS => ?_)
                                have hP : va_P (dC, dI) kxCl (mW mo ma cs I (va_up (va_up (va_up (va_up (va_up (va_up (va_up (va_up F 20 (upI (F 20) sd pa)) 22 (upI (F 22) sd (-1))) 23 (upI (F 23) sd 0)) 24 (upI (F 24) sd 0)) 21 (upI (F 21) sd (vp_nar .boolean (iz 1)).toInt)) 22 (upI (upI (F 22) sd (-1)) sd 1)) 23 (upI (upI (F 23) sd 0) sd ((20 * p0) + pz))) 24 (upI (upI (F 24) sd 0) sd (en - pz)))) H := hP
                                have hD : va_D A (mW mo ma cs I (va_up (va_up (va_up (va_up (va_up (va_up (va_up (va_up F 20 (upI (F 20) sd pa)) 22 (upI (F 22) sd (-1))) 23 (upI (F 23) sd 0)) 24 (upI (F 24) sd 0)) 21 (upI (F 21) sd (vp_nar .boolean (iz 1)).toInt)) 22 (upI (upI (F 22) sd (-1)) sd 1)) 23 (upI (upI (F 23) sd 0) sd ((20 * p0) + pz))) 24 (upI (upI (F 24) sd 0) sd (en - pz)))) := hD
                                refine lv_aload_n hx hb dX6_step_291 rfl (lv_at hl 4 rfl) ?_
                                refine va_get (D := (dC, dI)) (ci := 6) (v := .ref (ma 20)) (C := RX6) (T := TX6) (N := 44) hx hb hts kt_X6 hown hK hP 0 rfl rfl 20 (by decide) (kx_word hG kq_05_morder_0 rfl) (fun _ h9 => h9) rfl dX6_step_292 ?_
                                refine lv_iload_n hx hb dX6_step_295 rfl (lv_at hl 5 rfl) ?_
                                refine lv_iload hx hb dX6_step_296 (lv_at hl 0 rfl) ?_
                                refine ki_iast (F := upI (F 20) sd pa) hx hb hK hP hD hS 15 14 rfl rfl (by omega) (by omega) (by decide) dX6_step_298 (fun H locs hP hD hS => ?_)
                                have hP : va_P (dC, dI) kxCl (mW mo ma cs I (va_up (va_up (va_up (va_up (va_up (va_up (va_up (va_up (va_up F 20 (upI (F 20) sd pa)) 22 (upI (F 22) sd (-1))) 23 (upI (F 23) sd 0)) 24 (upI (F 24) sd 0)) 21 (upI (F 21) sd (vp_nar .boolean (iz 1)).toInt)) 22 (upI (upI (F 22) sd (-1)) sd 1)) 23 (upI (upI (F 23) sd 0) sd ((20 * p0) + pz))) 24 (upI (upI (F 24) sd 0) sd (en - pz))) 20 (upI (upI (F 20) sd pa) sd en))) H := hP
                                have hD : va_D A (mW mo ma cs I (va_up (va_up (va_up (va_up (va_up (va_up (va_up (va_up (va_up F 20 (upI (F 20) sd pa)) 22 (upI (F 22) sd (-1))) 23 (upI (F 23) sd 0)) 24 (upI (F 24) sd 0)) 21 (upI (F 21) sd (vp_nar .boolean (iz 1)).toInt)) 22 (upI (upI (F 22) sd (-1)) sd 1)) 23 (upI (upI (F 23) sd 0) sd ((20 * p0) + pz))) 24 (upI (upI (F 24) sd 0) sd (en - pz))) 20 (upI (upI (F 20) sd pa) sd en))) := hD
                                have e_317 : (va_up (va_up (va_up (va_up (va_up (va_up (va_up (va_up (va_up F 20 (upI (F 20) sd pa)) 22 (upI (F 22) sd (-1))) 23 (upI (F 23) sd 0)) 24 (upI (F 24) sd 0)) 21 (upI (F 21) sd (vp_nar .boolean (iz 1)).toInt)) 22 (upI (upI (F 22) sd (-1)) sd 1)) 23 (upI (upI (F 23) sd 0) sd ((20 * p0) + pz))) 24 (upI (upI (F 24) sd 0) sd (en - pz))) 20 (upI (upI (F 20) sd pa) sd en)) 20 sd = en := upI_self _ _ _
                                have e_318 : (va_up (va_up (va_up (va_up (va_up (va_up (va_up (va_up (va_up F 20 (upI (F 20) sd pa)) 22 (upI (F 22) sd (-1))) 23 (upI (F 23) sd 0)) 24 (upI (F 24) sd 0)) 21 (upI (F 21) sd (vp_nar .boolean (iz 1)).toInt)) 22 (upI (upI (F 22) sd (-1)) sd 1)) 23 (upI (upI (F 23) sd 0) sd ((20 * p0) + pz))) 24 (upI (upI (F 24) sd 0) sd (en - pz))) 20 (upI (upI (F 20) sd pa) sd en)) 22 sd = 1 := upI_self _ _ _
                                have e_319 : (va_up (va_up (va_up (va_up (va_up (va_up (va_up (va_up (va_up F 20 (upI (F 20) sd pa)) 22 (upI (F 22) sd (-1))) 23 (upI (F 23) sd 0)) 24 (upI (F 24) sd 0)) 21 (upI (F 21) sd (vp_nar .boolean (iz 1)).toInt)) 22 (upI (upI (F 22) sd (-1)) sd 1)) 23 (upI (upI (F 23) sd 0) sd ((20 * p0) + pz))) 24 (upI (upI (F 24) sd 0) sd (en - pz))) 20 (upI (upI (F 20) sd pa) sd en)) 23 sd = (20 * p0) + pz := upI_self _ _ _
                                have e_320 : (va_up (va_up (va_up (va_up (va_up (va_up (va_up (va_up (va_up F 20 (upI (F 20) sd pa)) 22 (upI (F 22) sd (-1))) 23 (upI (F 23) sd 0)) 24 (upI (F 24) sd 0)) 21 (upI (F 21) sd (vp_nar .boolean (iz 1)).toInt)) 22 (upI (upI (F 22) sd (-1)) sd 1)) 23 (upI (upI (F 23) sd 0) sd ((20 * p0) + pz))) 24 (upI (upI (F 24) sd 0) sd (en - pz))) 20 (upI (upI (F 20) sd pa) sd en)) 24 sd = en - pz := upI_self _ _ _
                                have e_321 : (va_up (va_up (va_up (va_up (va_up (va_up (va_up (va_up (va_up F 20 (upI (F 20) sd pa)) 22 (upI (F 22) sd (-1))) 23 (upI (F 23) sd 0)) 24 (upI (F 24) sd 0)) 21 (upI (F 21) sd (vp_nar .boolean (iz 1)).toInt)) 22 (upI (upI (F 22) sd (-1)) sd 1)) 23 (upI (upI (F 23) sd 0) sd ((20 * p0) + pz))) 24 (upI (upI (F 24) sd 0) sd (en - pz))) 20 (upI (upI (F 20) sd pa) sd en)) 21 sd = (vp_nar .boolean (iz 1)).toInt := upI_self _ _ _
                                rw [← hQe]
                                exact mk_ret hx hb hr hlocks hP hD hK hS dX6_step_299 (⟨rfl, (mB_f (mB_f (mB_f (mB_f (mB_f (mB_f (mB_f (mB_f (mB_f hB 20 sd (by omega) (by omega)) 22 sd (by omega) (by omega)) 23 sd (by omega) (by omega)) 24 sd (by omega) (by omega)) 21 sd (iz_lo _) (iz_hi _)) 22 sd (by omega) (by omega)) 23 sd (by omega) (by omega)) 24 sd (by omega) (by omega)) 20 sd (by omega) (by omega)), (mfr.upF (mfr.upF (mfr.upF (mfr.upF (mfr.upF (mfr.upF (mfr.upF (mfr.upF (mfr.upF mfr.rf (by decide) _) (by decide) _) (by decide) _) (by decide) _) (by decide) _) (by decide) _) (by decide) _) (by decide) _) (by decide) _), (mo1.up (mo1.up (mo1.up (mo1.up (mo1.up (mo1.up (mo1.up (mo1.up (mo1.up mo1.rf 20 _) 22 _) 23 _) 24 _) 21 _) 22 _) 23 _) 24 _) 20 _), by omega, by omega, by omega⟩)
                              · skip
                                refine lv_aload_n hx hb dX6_step_240 rfl (lv_at hl 4 rfl) ?_
                                refine va_get (D := (dC, dI)) (ci := 6) (v := .ref (ma 4)) (C := RX6) (T := TX6) (N := 44) hx hb hts kt_X6 hown hK hP 0 rfl rfl 4 (by decide) (kx_word hG kq_04_msmall_16 rfl) (fun _ h9 => h9) rfl dX6_step_241 ?_
                                refine lv_bipush (v := iz 20) hx hb dX6_step_244 (by decide) ?_
                                refine lv_iload_n hx hb dX6_step_246 rfl (lv_at hl 6 rfl) ?_
                                refine ki_imul hx hb dX6_step_247 ?_
                                refine lv_iload_n hx hb dX6_step_248 rfl (lv_at hl 3 rfl) ?_
                                refine ki_iadd hx hb dX6_step_249 ?_
                                refine ki_iald (F := F 4) hx hb hK hP 3 2 rfl rfl (by omega) (by omega) (by decide) dX6_step_250 ?_
                                have hbd_322 := hB.2 4 ((20 * p0) + pz)
                                refine lv_bipush (v := iz 48) hx hb dX6_step_251 (by decide) ?_
                                refine ki_icmp_ne (tgt := 262) hx hb dX6_step_253 (by decide) (by omega) (by omega) (by omega) (by omega) (fun c_323 => ?_) (fun c_323 => ?_)
                                · skip
                                  refine lv_aload_n hx hb dX6_step_262 rfl (lv_at hl 4 rfl) ?_
                                  refine va_get (D := (dC, dI)) (ci := 6) (v := .ref (ma 22)) (C := RX6) (T := TX6) (N := 44) hx hb hts kt_X6 hown hK hP 0 rfl rfl 22 (by decide) (kx_word hG kq_05_morder_2 rfl) (fun _ h9 => h9) rfl dX6_step_263 ?_
                                  refine lv_iload_n hx hb dX6_step_266 rfl (lv_at hl 5 rfl) ?_
                                  refine lv_iconst (v := iz 1) hx hb dX6_step_267 (by decide) ?_
                                  refine ki_iast (F := upI (F 22) sd (-1)) hx hb hK hP hD hS 17 16 rfl rfl (by omega) (by omega) (by decide) dX6_step_268 (fun H locs hP hD hS => ?_)
                                  have hP : va_P (dC, dI) kxCl (mW mo ma cs I (va_up (va_up (va_up (va_up (va_up (va_up F 20 (upI (F 20) sd pa)) 22 (upI (F 22) sd (-1))) 23 (upI (F 23) sd 0)) 24 (upI (F 24) sd 0)) 21 (upI (F 21) sd (vp_nar .boolean (iz 1)).toInt)) 22 (upI (upI (F 22) sd (-1)) sd 1))) H := hP
                                  have hD : va_D A (mW mo ma cs I (va_up (va_up (va_up (va_up (va_up (va_up F 20 (upI (F 20) sd pa)) 22 (upI (F 22) sd (-1))) 23 (upI (F 23) sd 0)) 24 (upI (F 24) sd 0)) 21 (upI (F 21) sd (vp_nar .boolean (iz 1)).toInt)) 22 (upI (upI (F 22) sd (-1)) sd 1))) := hD
                                  refine lv_aload_n hx hb dX6_step_269 rfl (lv_at hl 4 rfl) ?_
                                  refine va_get (D := (dC, dI)) (ci := 6) (v := .ref (ma 23)) (C := RX6) (T := TX6) (N := 44) hx hb hts kt_X6 hown hK hP 0 rfl rfl 23 (by decide) (kx_word hG kq_05_morder_3 rfl) (fun _ h9 => h9) rfl dX6_step_270 ?_
                                  refine lv_iload_n hx hb dX6_step_273 rfl (lv_at hl 5 rfl) ?_
                                  refine lv_bipush (v := iz 20) hx hb dX6_step_274 (by decide) ?_
                                  refine lv_iload_n hx hb dX6_step_276 rfl (lv_at hl 6 rfl) ?_
                                  refine ki_imul hx hb dX6_step_277 ?_
                                  refine lv_iload_n hx hb dX6_step_278 rfl (lv_at hl 3 rfl) ?_
                                  refine ki_iadd hx hb dX6_step_279 ?_
                                  refine ki_iast (F := upI (F 23) sd 0) hx hb hK hP hD hS 18 17 rfl rfl (by omega) (by omega) (by decide) dX6_step_280 (fun H locs hP hD hS => ?_)
                                  have hP : va_P (dC, dI) kxCl (mW mo ma cs I (va_up (va_up (va_up (va_up (va_up (va_up (va_up F 20 (upI (F 20) sd pa)) 22 (upI (F 22) sd (-1))) 23 (upI (F 23) sd 0)) 24 (upI (F 24) sd 0)) 21 (upI (F 21) sd (vp_nar .boolean (iz 1)).toInt)) 22 (upI (upI (F 22) sd (-1)) sd 1)) 23 (upI (upI (F 23) sd 0) sd ((20 * p0) + pz)))) H := hP
                                  have hD : va_D A (mW mo ma cs I (va_up (va_up (va_up (va_up (va_up (va_up (va_up F 20 (upI (F 20) sd pa)) 22 (upI (F 22) sd (-1))) 23 (upI (F 23) sd 0)) 24 (upI (F 24) sd 0)) 21 (upI (F 21) sd (vp_nar .boolean (iz 1)).toInt)) 22 (upI (upI (F 22) sd (-1)) sd 1)) 23 (upI (upI (F 23) sd 0) sd ((20 * p0) + pz)))) := hD
                                  refine lv_aload_n hx hb dX6_step_281 rfl (lv_at hl 4 rfl) ?_
                                  refine va_get (D := (dC, dI)) (ci := 6) (v := .ref (ma 24)) (C := RX6) (T := TX6) (N := 44) hx hb hts kt_X6 hown hK hP 0 rfl rfl 24 (by decide) (kx_word hG kq_05_morder_4 rfl) (fun _ h9 => h9) rfl dX6_step_282 ?_
                                  refine lv_iload_n hx hb dX6_step_285 rfl (lv_at hl 5 rfl) ?_
                                  refine lv_iload hx hb dX6_step_286 (lv_at hl 0 rfl) ?_
                                  refine lv_iload_n hx hb dX6_step_288 rfl (lv_at hl 3 rfl) ?_
                                  refine ki_isub hx hb dX6_step_289 ?_
                                  refine ki_iast (F := upI (F 24) sd 0) hx hb hK hP hD hS 19 18 rfl rfl (by omega) (by omega) (by decide) dX6_step_290 (fun H locs hP hD hS => ?_)
                                  have hP : va_P (dC, dI) kxCl (mW mo ma cs I (va_up (va_up (va_up (va_up (va_up (va_up (va_up (va_up F 20 (upI (F 20) sd pa)) 22 (upI (F 22) sd (-1))) 23 (upI (F 23) sd 0)) 24 (upI (F 24) sd 0)) 21 (upI (F 21) sd (vp_nar .boolean (iz 1)).toInt)) 22 (upI (upI (F 22) sd (-1)) sd 1)) 23 (upI (upI (F 23) sd 0) sd ((20 * p0) + pz))) 24 (upI (upI (F 24) sd 0) sd (en - pz)))) H := hP
                                  have hD : va_D A (mW mo ma cs I (va_up (va_up (va_up (va_up (va_up (va_up (va_up (va_up F 20 (upI (F 20) sd pa)) 22 (upI (F 22) sd (-1))) 23 (upI (F 23) sd 0)) 24 (upI (F 24) sd 0)) 21 (upI (F 21) sd (vp_nar .boolean (iz 1)).toInt)) 22 (upI (upI (F 22) sd (-1)) sd 1)) 23 (upI (upI (F 23) sd 0) sd ((20 * p0) + pz))) 24 (upI (upI (F 24) sd 0) sd (en - pz)))) := hD
                                  refine lv_aload_n hx hb dX6_step_291 rfl (lv_at hl 4 rfl) ?_
                                  refine va_get (D := (dC, dI)) (ci := 6) (v := .ref (ma 20)) (C := RX6) (T := TX6) (N := 44) hx hb hts kt_X6 hown hK hP 0 rfl rfl 20 (by decide) (kx_word hG kq_05_morder_0 rfl) (fun _ h9 => h9) rfl dX6_step_292 ?_
                                  refine lv_iload_n hx hb dX6_step_295 rfl (lv_at hl 5 rfl) ?_
                                  refine lv_iload hx hb dX6_step_296 (lv_at hl 0 rfl) ?_
                                  refine ki_iast (F := upI (F 20) sd pa) hx hb hK hP hD hS 15 14 rfl rfl (by omega) (by omega) (by decide) dX6_step_298 (fun H locs hP hD hS => ?_)
                                  have hP : va_P (dC, dI) kxCl (mW mo ma cs I (va_up (va_up (va_up (va_up (va_up (va_up (va_up (va_up (va_up F 20 (upI (F 20) sd pa)) 22 (upI (F 22) sd (-1))) 23 (upI (F 23) sd 0)) 24 (upI (F 24) sd 0)) 21 (upI (F 21) sd (vp_nar .boolean (iz 1)).toInt)) 22 (upI (upI (F 22) sd (-1)) sd 1)) 23 (upI (upI (F 23) sd 0) sd ((20 * p0) + pz))) 24 (upI (upI (F 24) sd 0) sd (en - pz))) 20 (upI (upI (F 20) sd pa) sd en))) H := hP
                                  have hD : va_D A (mW mo ma cs I (va_up (va_up (va_up (va_up (va_up (va_up (va_up (va_up (va_up F 20 (upI (F 20) sd pa)) 22 (upI (F 22) sd (-1))) 23 (upI (F 23) sd 0)) 24 (upI (F 24) sd 0)) 21 (upI (F 21) sd (vp_nar .boolean (iz 1)).toInt)) 22 (upI (upI (F 22) sd (-1)) sd 1)) 23 (upI (upI (F 23) sd 0) sd ((20 * p0) + pz))) 24 (upI (upI (F 24) sd 0) sd (en - pz))) 20 (upI (upI (F 20) sd pa) sd en))) := hD
                                  have e_324 : (va_up (va_up (va_up (va_up (va_up (va_up (va_up (va_up (va_up F 20 (upI (F 20) sd pa)) 22 (upI (F 22) sd (-1))) 23 (upI (F 23) sd 0)) 24 (upI (F 24) sd 0)) 21 (upI (F 21) sd (vp_nar .boolean (iz 1)).toInt)) 22 (upI (upI (F 22) sd (-1)) sd 1)) 23 (upI (upI (F 23) sd 0) sd ((20 * p0) + pz))) 24 (upI (upI (F 24) sd 0) sd (en - pz))) 20 (upI (upI (F 20) sd pa) sd en)) 20 sd = en := upI_self _ _ _
                                  have e_325 : (va_up (va_up (va_up (va_up (va_up (va_up (va_up (va_up (va_up F 20 (upI (F 20) sd pa)) 22 (upI (F 22) sd (-1))) 23 (upI (F 23) sd 0)) 24 (upI (F 24) sd 0)) 21 (upI (F 21) sd (vp_nar .boolean (iz 1)).toInt)) 22 (upI (upI (F 22) sd (-1)) sd 1)) 23 (upI (upI (F 23) sd 0) sd ((20 * p0) + pz))) 24 (upI (upI (F 24) sd 0) sd (en - pz))) 20 (upI (upI (F 20) sd pa) sd en)) 22 sd = 1 := upI_self _ _ _
                                  have e_326 : (va_up (va_up (va_up (va_up (va_up (va_up (va_up (va_up (va_up F 20 (upI (F 20) sd pa)) 22 (upI (F 22) sd (-1))) 23 (upI (F 23) sd 0)) 24 (upI (F 24) sd 0)) 21 (upI (F 21) sd (vp_nar .boolean (iz 1)).toInt)) 22 (upI (upI (F 22) sd (-1)) sd 1)) 23 (upI (upI (F 23) sd 0) sd ((20 * p0) + pz))) 24 (upI (upI (F 24) sd 0) sd (en - pz))) 20 (upI (upI (F 20) sd pa) sd en)) 23 sd = (20 * p0) + pz := upI_self _ _ _
                                  have e_327 : (va_up (va_up (va_up (va_up (va_up (va_up (va_up (va_up (va_up F 20 (upI (F 20) sd pa)) 22 (upI (F 22) sd (-1))) 23 (upI (F 23) sd 0)) 24 (upI (F 24) sd 0)) 21 (upI (F 21) sd (vp_nar .boolean (iz 1)).toInt)) 22 (upI (upI (F 22) sd (-1)) sd 1)) 23 (upI (upI (F 23) sd 0) sd ((20 * p0) + pz))) 24 (upI (upI (F 24) sd 0) sd (en - pz))) 20 (upI (upI (F 20) sd pa) sd en)) 24 sd = en - pz := upI_self _ _ _
                                  have e_328 : (va_up (va_up (va_up (va_up (va_up (va_up (va_up (va_up (va_up F 20 (upI (F 20) sd pa)) 22 (upI (F 22) sd (-1))) 23 (upI (F 23) sd 0)) 24 (upI (F 24) sd 0)) 21 (upI (F 21) sd (vp_nar .boolean (iz 1)).toInt)) 22 (upI (upI (F 22) sd (-1)) sd 1)) 23 (upI (upI (F 23) sd 0) sd ((20 * p0) + pz))) 24 (upI (upI (F 24) sd 0) sd (en - pz))) 20 (upI (upI (F 20) sd pa) sd en)) 21 sd = (vp_nar .boolean (iz 1)).toInt := upI_self _ _ _
                                  rw [← hQe]
                                  exact mk_ret hx hb hr hlocks hP hD hK hS dX6_step_299 (⟨rfl, (mB_f (mB_f (mB_f (mB_f (mB_f (mB_f (mB_f (mB_f (mB_f hB 20 sd (by omega) (by omega)) 22 sd (by omega) (by omega)) 23 sd (by omega) (by omega)) 24 sd (by omega) (by omega)) 21 sd (iz_lo _) (iz_hi _)) 22 sd (by omega) (by omega)) 23 sd (by omega) (by omega)) 24 sd (by omega) (by omega)) 20 sd (by omega) (by omega)), (mfr.upF (mfr.upF (mfr.upF (mfr.upF (mfr.upF (mfr.upF (mfr.upF (mfr.upF (mfr.upF mfr.rf (by decide) _) (by decide) _) (by decide) _) (by decide) _) (by decide) _) (by decide) _) (by decide) _) (by decide) _) (by decide) _), (mo1.up (mo1.up (mo1.up (mo1.up (mo1.up (mo1.up (mo1.up (mo1.up (mo1.up mo1.rf 20 _) 22 _) 23 _) 24 _) 21 _) 22 _) 23 _) 24 _) 20 _), by omega, by omega, by omega⟩)
                                · skip
                                  refine lv_iinc (v := iz (pz + 1)) (lv' := [(3, .int (iz (pz + 1))), (6, .int (iz en)), (5, .int (iz (F 4 ((20 * p0) + pa)))), (4, .int (iz ps)), (0, .ref mo), (1, .int (iz sd)), (2, .int (iz p0))]) hx hb dX6_step_256 hl (k := 3) rfl (iz_add pz 1) (by decide) rfl (fun ls hl => ?_)
                                  refine lv_goto (tgt := 234) hx hb dX6_step_259 (by decide) ?_
                                  exact ih234 (pz + 1) (by omega) (by omega) _ _ hP hD hS ls (lv_sub hl [1, 2, 3, 0, 4, 5, 6] rfl)
                          exact lp234 _ pa (by omega) (Nat.lt_succ_self _) _ _ hP hD hS ls (lv_sub hl [0, 1, 2, 3, 4, 5, 6] rfl)
                        · skip
                          refine lv_iload hx hb dX6_step_199 (lv_at hl 0 rfl) ?_
                          refine lv_aload_n hx hb dX6_step_201 rfl (lv_at hl 4 rfl) ?_
                          refine va_get (D := (dC, dI)) (ci := 6) (v := .ref (ma 5)) (C := RX6) (T := TX6) (N := 44) hx hb hts kt_X6 hown hK hP 0 rfl rfl 5 (by decide) (kx_word hG kq_04_msmall_15 rfl) (fun _ h9 => h9) rfl dX6_step_202 ?_
                          refine lv_iload_n hx hb dX6_step_205 rfl (lv_at hl 6 rfl) ?_
                          refine ki_iald (F := F 5) hx hb hK hP 4 3 rfl rfl (by omega) (by omega) (by decide) dX6_step_206 ?_
                          refine ki_icmp_ge (tgt := 234) hx hb dX6_step_207 (by decide) (by omega) (by omega) (by omega) (by omega) (fun c_329 => ?_) (fun c_329 => ?_)
                          · skip
                            have lp234 : ∀ (n : Nat) (pz : Int), ((pa ≤ pz ∧ pz ≤ en)) → (en - pz).toNat < n → ∀ (H : Heap) (locs : List Loc), va_P (dC, dI) kxCl (mW mo ma cs I (va_up (va_up (va_up (va_up (va_up F 20 (upI (F 20) sd pa)) 22 (upI (F 22) sd (-1))) 23 (upI (F 23) sd 0)) 24 (upI (F 24) sd 0)) 21 (upI (F 21) sd (vp_nar .boolean (iz 1)).toInt))) H → va_D A (mW mo ma cs I (va_up (va_up (va_up (va_up (va_up F 20 (upI (F 20) sd pa)) 22 (upI (F 22) sd (-1))) 23 (upI (F 23) sd 0)) 24 (upI (F 24) sd 0)) 21 (upI (F 21) sd (vp_nar .boolean (iz 1)).toInt))) → va_S A s.heap H locs → ∀ ls : Array Slot, lv_has ls 7 [(6, .int (iz en)), (5, .int (iz (F 4 ((20 * p0) + pa)))), (4, .int (iz ps)), (3, .int (iz pz)), (0, .ref mo), (1, .int (iz sd)), (2, .int (iz p0))] → W p l e (headSpec [.code yX6_step cX6_step 7 none] ({ frames := 1, cells := 0, slots := 0, locals := 21 })).room s m ([.ref mo, .int (iz sd), .int (iz p0)] : List Value).toArray below meth c H locs 0 0 QQ (F0 m 234 ls []) := by
                              intro n
                              induction n with
                              | zero => intro pz hinv hm; exact absurd hm (Nat.not_lt_zero _)
                              | succ n ih234 =>
                                intro pz hinv hm H locs hP hD hS ls hl
                                have hpz := hinv
                                refine lv_iload_n hx hb dX6_step_234 rfl (lv_at hl 3 rfl) ?_
                                refine lv_iload hx hb dX6_step_235 (lv_at hl 0 rfl) ?_
                                refine ki_icmp_ge (tgt := 262) hx hb dX6_step_237 (by decide) (by omega) (by omega) (by omega) (by omega) (fun c_330 => ?_) (fun c_330 => ?_)
                                · skip
                                  refine lv_aload_n hx hb dX6_step_262 rfl (lv_at hl 4 rfl) ?_
                                  refine va_get (D := (dC, dI)) (ci := 6) (v := .ref (ma 22)) (C := RX6) (T := TX6) (N := 44) hx hb hts kt_X6 hown hK hP 0 rfl rfl 22 (by decide) (kx_word hG kq_05_morder_2 rfl) (fun _ h9 => h9) rfl dX6_step_263 ?_
                                  refine lv_iload_n hx hb dX6_step_266 rfl (lv_at hl 5 rfl) ?_
                                  refine lv_iconst (v := iz 1) hx hb dX6_step_267 (by decide) ?_
                                  refine ki_iast (F := upI (F 22) sd (-1)) hx hb hK hP hD hS 17 16 rfl rfl (by omega) (by omega) (by decide) dX6_step_268 (fun H locs hP hD hS => ?_)
                                  have hP : va_P (dC, dI) kxCl (mW mo ma cs I (va_up (va_up (va_up (va_up (va_up (va_up F 20 (upI (F 20) sd pa)) 22 (upI (F 22) sd (-1))) 23 (upI (F 23) sd 0)) 24 (upI (F 24) sd 0)) 21 (upI (F 21) sd (vp_nar .boolean (iz 1)).toInt)) 22 (upI (upI (F 22) sd (-1)) sd 1))) H := hP
                                  have hD : va_D A (mW mo ma cs I (va_up (va_up (va_up (va_up (va_up (va_up F 20 (upI (F 20) sd pa)) 22 (upI (F 22) sd (-1))) 23 (upI (F 23) sd 0)) 24 (upI (F 24) sd 0)) 21 (upI (F 21) sd (vp_nar .boolean (iz 1)).toInt)) 22 (upI (upI (F 22) sd (-1)) sd 1))) := hD
                                  refine lv_aload_n hx hb dX6_step_269 rfl (lv_at hl 4 rfl) ?_
                                  refine va_get (D := (dC, dI)) (ci := 6) (v := .ref (ma 23)) (C := RX6) (T := TX6) (N := 44) hx hb hts kt_X6 hown hK hP 0 rfl rfl 23 (by decide) (kx_word hG kq_05_morder_3 rfl) (fun _ h9 => h9) rfl dX6_step_270 ?_
                                  refine lv_iload_n hx hb dX6_step_273 rfl (lv_at hl 5 rfl) ?_
                                  refine lv_bipush (v := iz 20) hx hb dX6_step_274 (by decide) ?_
                                  refine lv_iload_n hx hb dX6_step_276 rfl (lv_at hl 6 rfl) ?_
                                  refine ki_imul hx hb dX6_step_277 ?_
                                  refine lv_iload_n hx hb dX6_step_278 rfl (lv_at hl 3 rfl) ?_
                                  refine ki_iadd hx hb dX6_step_279 ?_
                                  refine ki_iast (F := upI (F 23) sd 0) hx hb hK hP hD hS 18 17 rfl rfl (by omega) (by omega) (by decide) dX6_step_280 (fun H locs hP hD hS => ?_)
                                  have hP : va_P (dC, dI) kxCl (mW mo ma cs I (va_up (va_up (va_up (va_up (va_up (va_up (va_up F 20 (upI (F 20) sd pa)) 22 (upI (F 22) sd (-1))) 23 (upI (F 23) sd 0)) 24 (upI (F 24) sd 0)) 21 (upI (F 21) sd (vp_nar .boolean (iz 1)).toInt)) 22 (upI (upI (F 22) sd (-1)) sd 1)) 23 (upI (upI (F 23) sd 0) sd ((20 * p0) + pz)))) H := hP
                                  have hD : va_D A (mW mo ma cs I (va_up (va_up (va_up (va_up (va_up (va_up (va_up F 20 (upI (F 20) sd pa)) 22 (upI (F 22) sd (-1))) 23 (upI (F 23) sd 0)) 24 (upI (F 24) sd 0)) 21 (upI (F 21) sd (vp_nar .boolean (iz 1)).toInt)) 22 (upI (upI (F 22) sd (-1)) sd 1)) 23 (upI (upI (F 23) sd 0) sd ((20 * p0) + pz)))) := hD
                                  refine lv_aload_n hx hb dX6_step_281 rfl (lv_at hl 4 rfl) ?_
                                  refine va_get (D := (dC, dI)) (ci := 6) (v := .ref (ma 24)) (C := RX6) (T := TX6) (N := 44) hx hb hts kt_X6 hown hK hP 0 rfl rfl 24 (by decide) (kx_word hG kq_05_morder_4 rfl) (fun _ h9 => h9) rfl dX6_step_282 ?_
                                  refine lv_iload_n hx hb dX6_step_285 rfl (lv_at hl 5 rfl) ?_
                                  refine lv_iload hx hb dX6_step_286 (lv_at hl 0 rfl) ?_
                                  refine lv_iload_n hx hb dX6_step_288 rfl (lv_at hl 3 rfl) ?_
                                  refine ki_isub hx hb dX6_step_289 ?_
                                  refine ki_iast (F := upI (F 24) sd 0) hx hb hK hP hD hS 19 18 rfl rfl (by omega) (by omega) (by decide) dX6_step_290 (fun H locs hP hD hS => ?_)
                                  have hP : va_P (dC, dI) kxCl (mW mo ma cs I (va_up (va_up (va_up (va_up (va_up (va_up (va_up (va_up F 20 (upI (F 20) sd pa)) 22 (upI (F 22) sd (-1))) 23 (upI (F 23) sd 0)) 24 (upI (F 24) sd 0)) 21 (upI (F 21) sd (vp_nar .boolean (iz 1)).toInt)) 22 (upI (upI (F 22) sd (-1)) sd 1)) 23 (upI (upI (F 23) sd 0) sd ((20 * p0) + pz))) 24 (upI (upI (F 24) sd 0) sd (en - pz)))) H := hP
                                  have hD : va_D A (mW mo ma cs I (va_up (va_up (va_up (va_up (va_up (va_up (va_up (va_up F 20 (upI (F 20) sd pa)) 22 (upI (F 22) sd (-1))) 23 (upI (F 23) sd 0)) 24 (upI (F 24) sd 0)) 21 (upI (F 21) sd (vp_nar .boolean (iz 1)).toInt)) 22 (upI (upI (F 22) sd (-1)) sd 1)) 23 (upI (upI (F 23) sd 0) sd ((20 * p0) + pz))) 24 (upI (upI (F 24) sd 0) sd (en - pz)))) := hD
                                  refine lv_aload_n hx hb dX6_step_291 rfl (lv_at hl 4 rfl) ?_
                                  refine va_get (D := (dC, dI)) (ci := 6) (v := .ref (ma 20)) (C := RX6) (T := TX6) (N := 44) hx hb hts kt_X6 hown hK hP 0 rfl rfl 20 (by decide) (kx_word hG kq_05_morder_0 rfl) (fun _ h9 => h9) rfl dX6_step_292 ?_
                                  refine lv_iload_n hx hb dX6_step_295 rfl (lv_at hl 5 rfl) ?_
                                  refine lv_iload hx hb dX6_step_296 (lv_at hl 0 rfl) ?_
                                  refine ki_iast (F := upI (F 20) sd pa) hx hb hK hP hD hS 15 14 rfl rfl (by omega) (by omega) (by decide) dX6_step_298 (fun H locs hP hD hS => ?_)
                                  have hP : va_P (dC, dI) kxCl (mW mo ma cs I (va_up (va_up (va_up (va_up (va_up (va_up (va_up (va_up (va_up F 20 (upI (F 20) sd pa)) 22 (upI (F 22) sd (-1))) 23 (upI (F 23) sd 0)) 24 (upI (F 24) sd 0)) 21 (upI (F 21) sd (vp_nar .boolean (iz 1)).toInt)) 22 (upI (upI (F 22) sd (-1)) sd 1)) 23 (upI (upI (F 23) sd 0) sd ((20 * p0) + pz))) 24 (upI (upI (F 24) sd 0) sd (en - pz))) 20 (upI (upI (F 20) sd pa) sd en))) H := hP
                                  have hD : va_D A (mW mo ma cs I (va_up (va_up (va_up (va_up (va_up (va_up (va_up (va_up (va_up F 20 (upI (F 20) sd pa)) 22 (upI (F 22) sd (-1))) 23 (upI (F 23) sd 0)) 24 (upI (F 24) sd 0)) 21 (upI (F 21) sd (vp_nar .boolean (iz 1)).toInt)) 22 (upI (upI (F 22) sd (-1)) sd 1)) 23 (upI (upI (F 23) sd 0) sd ((20 * p0) + pz))) 24 (upI (upI (F 24) sd 0) sd (en - pz))) 20 (upI (upI (F 20) sd pa) sd en))) := hD
                                  have e_331 : (va_up (va_up (va_up (va_up (va_up (va_up (va_up (va_up (va_up F 20 (upI (F 20) sd pa)) 22 (upI (F 22) sd (-1))) 23 (upI (F 23) sd 0)) 24 (upI (F 24) sd 0)) 21 (upI (F 21) sd (vp_nar .boolean (iz 1)).toInt)) 22 (upI (upI (F 22) sd (-1)) sd 1)) 23 (upI (upI (F 23) sd 0) sd ((20 * p0) + pz))) 24 (upI (upI (F 24) sd 0) sd (en - pz))) 20 (upI (upI (F 20) sd pa) sd en)) 20 sd = en := upI_self _ _ _
                                  have e_332 : (va_up (va_up (va_up (va_up (va_up (va_up (va_up (va_up (va_up F 20 (upI (F 20) sd pa)) 22 (upI (F 22) sd (-1))) 23 (upI (F 23) sd 0)) 24 (upI (F 24) sd 0)) 21 (upI (F 21) sd (vp_nar .boolean (iz 1)).toInt)) 22 (upI (upI (F 22) sd (-1)) sd 1)) 23 (upI (upI (F 23) sd 0) sd ((20 * p0) + pz))) 24 (upI (upI (F 24) sd 0) sd (en - pz))) 20 (upI (upI (F 20) sd pa) sd en)) 22 sd = 1 := upI_self _ _ _
                                  have e_333 : (va_up (va_up (va_up (va_up (va_up (va_up (va_up (va_up (va_up F 20 (upI (F 20) sd pa)) 22 (upI (F 22) sd (-1))) 23 (upI (F 23) sd 0)) 24 (upI (F 24) sd 0)) 21 (upI (F 21) sd (vp_nar .boolean (iz 1)).toInt)) 22 (upI (upI (F 22) sd (-1)) sd 1)) 23 (upI (upI (F 23) sd 0) sd ((20 * p0) + pz))) 24 (upI (upI (F 24) sd 0) sd (en - pz))) 20 (upI (upI (F 20) sd pa) sd en)) 23 sd = (20 * p0) + pz := upI_self _ _ _
                                  have e_334 : (va_up (va_up (va_up (va_up (va_up (va_up (va_up (va_up (va_up F 20 (upI (F 20) sd pa)) 22 (upI (F 22) sd (-1))) 23 (upI (F 23) sd 0)) 24 (upI (F 24) sd 0)) 21 (upI (F 21) sd (vp_nar .boolean (iz 1)).toInt)) 22 (upI (upI (F 22) sd (-1)) sd 1)) 23 (upI (upI (F 23) sd 0) sd ((20 * p0) + pz))) 24 (upI (upI (F 24) sd 0) sd (en - pz))) 20 (upI (upI (F 20) sd pa) sd en)) 24 sd = en - pz := upI_self _ _ _
                                  have e_335 : (va_up (va_up (va_up (va_up (va_up (va_up (va_up (va_up (va_up F 20 (upI (F 20) sd pa)) 22 (upI (F 22) sd (-1))) 23 (upI (F 23) sd 0)) 24 (upI (F 24) sd 0)) 21 (upI (F 21) sd (vp_nar .boolean (iz 1)).toInt)) 22 (upI (upI (F 22) sd (-1)) sd 1)) 23 (upI (upI (F 23) sd 0) sd ((20 * p0) + pz))) 24 (upI (upI (F 24) sd 0) sd (en - pz))) 20 (upI (upI (F 20) sd pa) sd en)) 21 sd = (vp_nar .boolean (iz 1)).toInt := upI_self _ _ _
                                  rw [← hQe]
                                  exact mk_ret hx hb hr hlocks hP hD hK hS dX6_step_299 (⟨rfl, (mB_f (mB_f (mB_f (mB_f (mB_f (mB_f (mB_f (mB_f (mB_f hB 20 sd (by omega) (by omega)) 22 sd (by omega) (by omega)) 23 sd (by omega) (by omega)) 24 sd (by omega) (by omega)) 21 sd (iz_lo _) (iz_hi _)) 22 sd (by omega) (by omega)) 23 sd (by omega) (by omega)) 24 sd (by omega) (by omega)) 20 sd (by omega) (by omega)), (mfr.upF (mfr.upF (mfr.upF (mfr.upF (mfr.upF (mfr.upF (mfr.upF (mfr.upF (mfr.upF mfr.rf (by decide) _) (by decide) _) (by decide) _) (by decide) _) (by decide) _) (by decide) _) (by decide) _) (by decide) _) (by decide) _), (mo1.up (mo1.up (mo1.up (mo1.up (mo1.up (mo1.up (mo1.up (mo1.up (mo1.up mo1.rf 20 _) 22 _) 23 _) 24 _) 21 _) 22 _) 23 _) 24 _) 20 _), by omega, by omega, by omega⟩)
                                · skip
                                  refine lv_aload_n hx hb dX6_step_240 rfl (lv_at hl 4 rfl) ?_
                                  refine va_get (D := (dC, dI)) (ci := 6) (v := .ref (ma 4)) (C := RX6) (T := TX6) (N := 44) hx hb hts kt_X6 hown hK hP 0 rfl rfl 4 (by decide) (kx_word hG kq_04_msmall_16 rfl) (fun _ h9 => h9) rfl dX6_step_241 ?_
                                  refine lv_bipush (v := iz 20) hx hb dX6_step_244 (by decide) ?_
                                  refine lv_iload_n hx hb dX6_step_246 rfl (lv_at hl 6 rfl) ?_
                                  refine ki_imul hx hb dX6_step_247 ?_
                                  refine lv_iload_n hx hb dX6_step_248 rfl (lv_at hl 3 rfl) ?_
                                  refine ki_iadd hx hb dX6_step_249 ?_
                                  refine ki_iald (F := F 4) hx hb hK hP 3 2 rfl rfl (by omega) (by omega) (by decide) dX6_step_250 ?_
                                  have hbd_336 := hB.2 4 ((20 * p0) + pz)
                                  refine lv_bipush (v := iz 48) hx hb dX6_step_251 (by decide) ?_
                                  refine ki_icmp_ne (tgt := 262) hx hb dX6_step_253 (by decide) (by omega) (by omega) (by omega) (by omega) (fun c_337 => ?_) (fun c_337 => ?_)
                                  · skip
                                    refine lv_aload_n hx hb dX6_step_262 rfl (lv_at hl 4 rfl) ?_
                                    refine va_get (D := (dC, dI)) (ci := 6) (v := .ref (ma 22)) (C := RX6) (T := TX6) (N := 44) hx hb hts kt_X6 hown hK hP 0 rfl rfl 22 (by decide) (kx_word hG kq_05_morder_2 rfl) (fun _ h9 => h9) rfl dX6_step_263 ?_
                                    refine lv_iload_n hx hb dX6_step_266 rfl (lv_at hl 5 rfl) ?_
                                    refine lv_iconst (v := iz 1) hx hb dX6_step_267 (by decide) ?_
                                    refine ki_iast (F := upI (F 22) sd (-1)) hx hb hK hP hD hS 17 16 rfl rfl (by omega) (by omega) (by decide) dX6_step_268 (fun H locs hP hD hS => ?_)
                                    have hP : va_P (dC, dI) kxCl (mW mo ma cs I (va_up (va_up (va_up (va_up (va_up (va_up F 20 (upI (F 20) sd pa)) 22 (upI (F 22) sd (-1))) 23 (upI (F 23) sd 0)) 24 (upI (F 24) sd 0)) 21 (upI (F 21) sd (vp_nar .boolean (iz 1)).toInt)) 22 (upI (upI (F 22) sd (-1)) sd 1))) H := hP
                                    have hD : va_D A (mW mo ma cs I (va_up (va_up (va_up (va_up (va_up (va_up F 20 (upI (F 20) sd pa)) 22 (upI (F 22) sd (-1))) 23 (upI (F 23) sd 0)) 24 (upI (F 24) sd 0)) 21 (upI (F 21) sd (vp_nar .boolean (iz 1)).toInt)) 22 (upI (upI (F 22) sd (-1)) sd 1))) := hD
                                    refine lv_aload_n hx hb dX6_step_269 rfl (lv_at hl 4 rfl) ?_
                                    refine va_get (D := (dC, dI)) (ci := 6) (v := .ref (ma 23)) (C := RX6) (T := TX6) (N := 44) hx hb hts kt_X6 hown hK hP 0 rfl rfl 23 (by decide) (kx_word hG kq_05_morder_3 rfl) (fun _ h9 => h9) rfl dX6_step_270 ?_
                                    refine lv_iload_n hx hb dX6_step_273 rfl (lv_at hl 5 rfl) ?_
                                    refine lv_bipush (v := iz 20) hx hb dX6_step_274 (by decide) ?_
                                    refine lv_iload_n hx hb dX6_step_276 rfl (lv_at hl 6 rfl) ?_
                                    refine ki_imul hx hb dX6_step_277 ?_
                                    refine lv_iload_n hx hb dX6_step_278 rfl (lv_at hl 3 rfl) ?_
                                    refine ki_iadd hx hb dX6_step_279 ?_
                                    refine ki_iast (F := upI (F 23) sd 0) hx hb hK hP hD hS 18 17 rfl rfl (by omega) (by omega) (by decide) dX6_step_280 (fun H locs hP hD hS => ?_)
                                    have hP : va_P (dC, dI) kxCl (mW mo ma cs I (va_up (va_up (va_up (va_up (va_up (va_up (va_up F 20 (upI (F 20) sd pa)) 22 (upI (F 22) sd (-1))) 23 (upI (F 23) sd 0)) 24 (upI (F 24) sd 0)) 21 (upI (F 21) sd (vp_nar .boolean (iz 1)).toInt)) 22 (upI (upI (F 22) sd (-1)) sd 1)) 23 (upI (upI (F 23) sd 0) sd ((20 * p0) + pz)))) H := hP
                                    have hD : va_D A (mW mo ma cs I (va_up (va_up (va_up (va_up (va_up (va_up (va_up F 20 (upI (F 20) sd pa)) 22 (upI (F 22) sd (-1))) 23 (upI (F 23) sd 0)) 24 (upI (F 24) sd 0)) 21 (upI (F 21) sd (vp_nar .boolean (iz 1)).toInt)) 22 (upI (upI (F 22) sd (-1)) sd 1)) 23 (upI (upI (F 23) sd 0) sd ((20 * p0) + pz)))) := hD
                                    refine lv_aload_n hx hb dX6_step_281 rfl (lv_at hl 4 rfl) ?_
                                    refine va_get (D := (dC, dI)) (ci := 6) (v := .ref (ma 24)) (C := RX6) (T := TX6) (N := 44) hx hb hts kt_X6 hown hK hP 0 rfl rfl 24 (by decide) (kx_word hG kq_05_morder_4 rfl) (fun _ h9 => h9) rfl dX6_step_282 ?_
                                    refine lv_iload_n hx hb dX6_step_285 rfl (lv_at hl 5 rfl) ?_
                                    refine lv_iload hx hb dX6_step_286 (lv_at hl 0 rfl) ?_
                                    refine lv_iload_n hx hb dX6_step_288 rfl (lv_at hl 3 rfl) ?_
                                    refine ki_isub hx hb dX6_step_289 ?_
                                    refine ki_iast (F := upI (F 24) sd 0) hx hb hK hP hD hS 19 18 rfl rfl (by omega) (by omega) (by decide) dX6_step_290 (fun H locs hP hD hS => ?_)
                                    have hP : va_P (dC, dI) kxCl (mW mo ma cs I (va_up (va_up (va_up (va_up (va_up (va_up (va_up (va_up F 20 (upI (F 20) sd pa)) 22 (upI (F 22) sd (-1))) 23 (upI (F 23) sd 0)) 24 (upI (F 24) sd 0)) 21 (upI (F 21) sd (vp_nar .boolean (iz 1)).toInt)) 22 (upI (upI (F 22) sd (-1)) sd 1)) 23 (upI (upI (F 23) sd 0) sd ((20 * p0) + pz))) 24 (upI (upI (F 24) sd 0) sd (en - pz)))) H := hP
                                    have hD : va_D A (mW mo ma cs I (va_up (va_up (va_up (va_up (va_up (va_up (va_up (va_up F 20 (upI (F 20) sd pa)) 22 (upI (F 22) sd (-1))) 23 (upI (F 23) sd 0)) 24 (upI (F 24) sd 0)) 21 (upI (F 21) sd (vp_nar .boolean (iz 1)).toInt)) 22 (upI (upI (F 22) sd (-1)) sd 1)) 23 (upI (upI (F 23) sd 0) sd ((20 * p0) + pz))) 24 (upI (upI (F 24) sd 0) sd (en - pz)))) := hD
                                    refine lv_aload_n hx hb dX6_step_291 rfl (lv_at hl 4 rfl) ?_
                                    refine va_get (D := (dC, dI)) (ci := 6) (v := .ref (ma 20)) (C := RX6) (T := TX6) (N := 44) hx hb hts kt_X6 hown hK hP 0 rfl rfl 20 (by decide) (kx_word hG kq_05_morder_0 rfl) (fun _ h9 => h9) rfl dX6_step_292 ?_
                                    refine lv_iload_n hx hb dX6_step_295 rfl (lv_at hl 5 rfl) ?_
                                    refine lv_iload hx hb dX6_step_296 (lv_at hl 0 rfl) ?_
                                    refine ki_iast (F := upI (F 20) sd pa) hx hb hK hP hD hS 15 14 rfl rfl (by omega) (by omega) (by decide) dX6_step_298 (fun H locs hP hD hS => ?_)
                                    have hP : va_P (dC, dI) kxCl (mW mo ma cs I (va_up (va_up (va_up (va_up (va_up (va_up (va_up (va_up (va_up F 20 (upI (F 20) sd pa)) 22 (upI (F 22) sd (-1))) 23 (upI (F 23) sd 0)) 24 (upI (F 24) sd 0)) 21 (upI (F 21) sd (vp_nar .boolean (iz 1)).toInt)) 22 (upI (upI (F 22) sd (-1)) sd 1)) 23 (upI (upI (F 23) sd 0) sd ((20 * p0) + pz))) 24 (upI (upI (F 24) sd 0) sd (en - pz))) 20 (upI (upI (F 20) sd pa) sd en))) H := hP
                                    have hD : va_D A (mW mo ma cs I (va_up (va_up (va_up (va_up (va_up (va_up (va_up (va_up (va_up F 20 (upI (F 20) sd pa)) 22 (upI (F 22) sd (-1))) 23 (upI (F 23) sd 0)) 24 (upI (F 24) sd 0)) 21 (upI (F 21) sd (vp_nar .boolean (iz 1)).toInt)) 22 (upI (upI (F 22) sd (-1)) sd 1)) 23 (upI (upI (F 23) sd 0) sd ((20 * p0) + pz))) 24 (upI (upI (F 24) sd 0) sd (en - pz))) 20 (upI (upI (F 20) sd pa) sd en))) := hD
                                    have e_338 : (va_up (va_up (va_up (va_up (va_up (va_up (va_up (va_up (va_up F 20 (upI (F 20) sd pa)) 22 (upI (F 22) sd (-1))) 23 (upI (F 23) sd 0)) 24 (upI (F 24) sd 0)) 21 (upI (F 21) sd (vp_nar .boolean (iz 1)).toInt)) 22 (upI (upI (F 22) sd (-1)) sd 1)) 23 (upI (upI (F 23) sd 0) sd ((20 * p0) + pz))) 24 (upI (upI (F 24) sd 0) sd (en - pz))) 20 (upI (upI (F 20) sd pa) sd en)) 20 sd = en := upI_self _ _ _
                                    have e_339 : (va_up (va_up (va_up (va_up (va_up (va_up (va_up (va_up (va_up F 20 (upI (F 20) sd pa)) 22 (upI (F 22) sd (-1))) 23 (upI (F 23) sd 0)) 24 (upI (F 24) sd 0)) 21 (upI (F 21) sd (vp_nar .boolean (iz 1)).toInt)) 22 (upI (upI (F 22) sd (-1)) sd 1)) 23 (upI (upI (F 23) sd 0) sd ((20 * p0) + pz))) 24 (upI (upI (F 24) sd 0) sd (en - pz))) 20 (upI (upI (F 20) sd pa) sd en)) 22 sd = 1 := upI_self _ _ _
                                    have e_340 : (va_up (va_up (va_up (va_up (va_up (va_up (va_up (va_up (va_up F 20 (upI (F 20) sd pa)) 22 (upI (F 22) sd (-1))) 23 (upI (F 23) sd 0)) 24 (upI (F 24) sd 0)) 21 (upI (F 21) sd (vp_nar .boolean (iz 1)).toInt)) 22 (upI (upI (F 22) sd (-1)) sd 1)) 23 (upI (upI (F 23) sd 0) sd ((20 * p0) + pz))) 24 (upI (upI (F 24) sd 0) sd (en - pz))) 20 (upI (upI (F 20) sd pa) sd en)) 23 sd = (20 * p0) + pz := upI_self _ _ _
                                    have e_341 : (va_up (va_up (va_up (va_up (va_up (va_up (va_up (va_up (va_up F 20 (upI (F 20) sd pa)) 22 (upI (F 22) sd (-1))) 23 (upI (F 23) sd 0)) 24 (upI (F 24) sd 0)) 21 (upI (F 21) sd (vp_nar .boolean (iz 1)).toInt)) 22 (upI (upI (F 22) sd (-1)) sd 1)) 23 (upI (upI (F 23) sd 0) sd ((20 * p0) + pz))) 24 (upI (upI (F 24) sd 0) sd (en - pz))) 20 (upI (upI (F 20) sd pa) sd en)) 24 sd = en - pz := upI_self _ _ _
                                    have e_342 : (va_up (va_up (va_up (va_up (va_up (va_up (va_up (va_up (va_up F 20 (upI (F 20) sd pa)) 22 (upI (F 22) sd (-1))) 23 (upI (F 23) sd 0)) 24 (upI (F 24) sd 0)) 21 (upI (F 21) sd (vp_nar .boolean (iz 1)).toInt)) 22 (upI (upI (F 22) sd (-1)) sd 1)) 23 (upI (upI (F 23) sd 0) sd ((20 * p0) + pz))) 24 (upI (upI (F 24) sd 0) sd (en - pz))) 20 (upI (upI (F 20) sd pa) sd en)) 21 sd = (vp_nar .boolean (iz 1)).toInt := upI_self _ _ _
                                    rw [← hQe]
                                    exact mk_ret hx hb hr hlocks hP hD hK hS dX6_step_299 (⟨rfl, (mB_f (mB_f (mB_f (mB_f (mB_f (mB_f (mB_f (mB_f (mB_f hB 20 sd (by omega) (by omega)) 22 sd (by omega) (by omega)) 23 sd (by omega) (by omega)) 24 sd (by omega) (by omega)) 21 sd (iz_lo _) (iz_hi _)) 22 sd (by omega) (by omega)) 23 sd (by omega) (by omega)) 24 sd (by omega) (by omega)) 20 sd (by omega) (by omega)), (mfr.upF (mfr.upF (mfr.upF (mfr.upF (mfr.upF (mfr.upF (mfr.upF (mfr.upF (mfr.upF mfr.rf (by decide) _) (by decide) _) (by decide) _) (by decide) _) (by decide) _) (by decide) _) (by decide) _) (by decide) _) (by decide) _), (mo1.up (mo1.up (mo1.up (mo1.up (mo1.up (mo1.up (mo1.up (mo1.up (mo1.up mo1.rf 20 _) 22 _) 23 _) 24 _) 21 _) 22 _) 23 _) 24 _) 20 _), by omega, by omega, by omega⟩)
                                  · skip
                                    refine lv_iinc (v := iz (pz + 1)) (lv' := [(3, .int (iz (pz + 1))), (6, .int (iz en)), (5, .int (iz (F 4 ((20 * p0) + pa)))), (4, .int (iz ps)), (0, .ref mo), (1, .int (iz sd)), (2, .int (iz p0))]) hx hb dX6_step_256 hl (k := 3) rfl (iz_add pz 1) (by decide) rfl (fun ls hl => ?_)
                                    refine lv_goto (tgt := 234) hx hb dX6_step_259 (by decide) ?_
                                    exact ih234 (pz + 1) (by omega) (by omega) _ _ hP hD hS ls (lv_sub hl [1, 2, 3, 0, 4, 5, 6] rfl)
                            exact lp234 _ pa (by omega) (Nat.lt_succ_self _) _ _ hP hD hS ls (lv_sub hl [0, 1, 2, 3, 4, 5, 6] rfl)
                          · skip
                            refine lv_aload_n hx hb dX6_step_210 rfl (lv_at hl 4 rfl) ?_
                            refine va_get (D := (dC, dI)) (ci := 6) (v := .ref (ma 4)) (C := RX6) (T := TX6) (N := 44) hx hb hts kt_X6 hown hK hP 0 rfl rfl 4 (by decide) (kx_word hG kq_04_msmall_16 rfl) (fun _ h9 => h9) rfl dX6_step_211 ?_
                            refine lv_bipush (v := iz 20) hx hb dX6_step_214 (by decide) ?_
                            refine lv_iload_n hx hb dX6_step_216 rfl (lv_at hl 6 rfl) ?_
                            refine ki_imul hx hb dX6_step_217 ?_
                            refine lv_iload hx hb dX6_step_218 (lv_at hl 0 rfl) ?_
                            refine ki_iadd hx hb dX6_step_220 ?_
                            refine ki_iald (F := F 4) hx hb hK hP 3 2 rfl rfl (by omega) (by omega) (by decide) dX6_step_221 ?_
                            have hbd_343 := hB.2 4 ((20 * p0) + en)
                            refine mk_calls (As := [.int (iz (F 4 ((20 * p0) + en)))]) (rest := []) ⟨hx, hb, hml, hown, hts⟩ (k_isNumber l dC dI (F 4 ((20 * p0) + en)) H.size (by omega) (by omega)) (va_cwS 1 hts (kx_gS kq_05_morder_8 kq_05_morder_9 kq_04_msmall_6 kq_05_morder_10 rfl) rfl rfl rfl (by decide +kernel) ⟨Nat.le_of_ble_eq_true rfl, Nat.le_of_ble_eq_true rfl⟩) hP hD hK hG hZ hS hA rfl hl.1 rfl (Nat.le_of_ble_eq_true rfl) dX6_step_222 ⟨Nat.le_of_ble_eq_true rfl, Nat.le_of_ble_eq_true rfl⟩ (fun z_344 H locs hq_345 hP hS => ?_)
                            try dsimp only at hq_345
                            refine ki_if_eq (tgt := 234) hx hb dX6_step_225 (by decide) (by omega) (by omega) (fun c_346 => ?_) (fun c_346 => ?_)
                            · skip
                              have lp234 : ∀ (n : Nat) (pz : Int), ((pa ≤ pz ∧ pz ≤ en)) → (en - pz).toNat < n → ∀ (H : Heap) (locs : List Loc), va_P (dC, dI) kxCl (mW mo ma cs I (va_up (va_up (va_up (va_up (va_up F 20 (upI (F 20) sd pa)) 22 (upI (F 22) sd (-1))) 23 (upI (F 23) sd 0)) 24 (upI (F 24) sd 0)) 21 (upI (F 21) sd (vp_nar .boolean (iz 1)).toInt))) H → va_D A (mW mo ma cs I (va_up (va_up (va_up (va_up (va_up F 20 (upI (F 20) sd pa)) 22 (upI (F 22) sd (-1))) 23 (upI (F 23) sd 0)) 24 (upI (F 24) sd 0)) 21 (upI (F 21) sd (vp_nar .boolean (iz 1)).toInt))) → va_S A s.heap H locs → ∀ ls : Array Slot, lv_has ls 7 [(6, .int (iz en)), (5, .int (iz (F 4 ((20 * p0) + pa)))), (4, .int (iz ps)), (3, .int (iz pz)), (0, .ref mo), (1, .int (iz sd)), (2, .int (iz p0))] → W p l e (headSpec [.code yX6_step cX6_step 7 none] ({ frames := 1, cells := 0, slots := 0, locals := 21 })).room s m ([.ref mo, .int (iz sd), .int (iz p0)] : List Value).toArray below meth c H locs 0 0 QQ (F0 m 234 ls []) := by
                                intro n
                                induction n with
                                | zero => intro pz hinv hm; exact absurd hm (Nat.not_lt_zero _)
                                | succ n ih234 =>
                                  intro pz hinv hm H locs hP hD hS ls hl
                                  have hpz := hinv
                                  refine lv_iload_n hx hb dX6_step_234 rfl (lv_at hl 3 rfl) ?_
                                  refine lv_iload hx hb dX6_step_235 (lv_at hl 0 rfl) ?_
                                  refine ki_icmp_ge (tgt := 262) hx hb dX6_step_237 (by decide) (by omega) (by omega) (by omega) (by omega) (fun c_347 => ?_) (fun c_347 => ?_)
                                  · skip
                                    refine lv_aload_n hx hb dX6_step_262 rfl (lv_at hl 4 rfl) ?_
                                    refine va_get (D := (dC, dI)) (ci := 6) (v := .ref (ma 22)) (C := RX6) (T := TX6) (N := 44) hx hb hts kt_X6 hown hK hP 0 rfl rfl 22 (by decide) (kx_word hG kq_05_morder_2 rfl) (fun _ h9 => h9) rfl dX6_step_263 ?_
                                    refine lv_iload_n hx hb dX6_step_266 rfl (lv_at hl 5 rfl) ?_
                                    refine lv_iconst (v := iz 1) hx hb dX6_step_267 (by decide) ?_
                                    refine ki_iast (F := upI (F 22) sd (-1)) hx hb hK hP hD hS 17 16 rfl rfl (by omega) (by omega) (by decide) dX6_step_268 (fun H locs hP hD hS => ?_)
                                    have hP : va_P (dC, dI) kxCl (mW mo ma cs I (va_up (va_up (va_up (va_up (va_up (va_up F 20 (upI (F 20) sd pa)) 22 (upI (F 22) sd (-1))) 23 (upI (F 23) sd 0)) 24 (upI (F 24) sd 0)) 21 (upI (F 21) sd (vp_nar .boolean (iz 1)).toInt)) 22 (upI (upI (F 22) sd (-1)) sd 1))) H := hP
                                    have hD : va_D A (mW mo ma cs I (va_up (va_up (va_up (va_up (va_up (va_up F 20 (upI (F 20) sd pa)) 22 (upI (F 22) sd (-1))) 23 (upI (F 23) sd 0)) 24 (upI (F 24) sd 0)) 21 (upI (F 21) sd (vp_nar .boolean (iz 1)).toInt)) 22 (upI (upI (F 22) sd (-1)) sd 1))) := hD
                                    refine lv_aload_n hx hb dX6_step_269 rfl (lv_at hl 4 rfl) ?_
                                    refine va_get (D := (dC, dI)) (ci := 6) (v := .ref (ma 23)) (C := RX6) (T := TX6) (N := 44) hx hb hts kt_X6 hown hK hP 0 rfl rfl 23 (by decide) (kx_word hG kq_05_morder_3 rfl) (fun _ h9 => h9) rfl dX6_step_270 ?_
                                    refine lv_iload_n hx hb dX6_step_273 rfl (lv_at hl 5 rfl) ?_
                                    refine lv_bipush (v := iz 20) hx hb dX6_step_274 (by decide) ?_
                                    refine lv_iload_n hx hb dX6_step_276 rfl (lv_at hl 6 rfl) ?_
                                    refine ki_imul hx hb dX6_step_277 ?_
                                    refine lv_iload_n hx hb dX6_step_278 rfl (lv_at hl 3 rfl) ?_
                                    refine ki_iadd hx hb dX6_step_279 ?_
                                    refine ki_iast (F := upI (F 23) sd 0) hx hb hK hP hD hS 18 17 rfl rfl (by omega) (by omega) (by decide) dX6_step_280 (fun H locs hP hD hS => ?_)
                                    have hP : va_P (dC, dI) kxCl (mW mo ma cs I (va_up (va_up (va_up (va_up (va_up (va_up (va_up F 20 (upI (F 20) sd pa)) 22 (upI (F 22) sd (-1))) 23 (upI (F 23) sd 0)) 24 (upI (F 24) sd 0)) 21 (upI (F 21) sd (vp_nar .boolean (iz 1)).toInt)) 22 (upI (upI (F 22) sd (-1)) sd 1)) 23 (upI (upI (F 23) sd 0) sd ((20 * p0) + pz)))) H := hP
                                    have hD : va_D A (mW mo ma cs I (va_up (va_up (va_up (va_up (va_up (va_up (va_up F 20 (upI (F 20) sd pa)) 22 (upI (F 22) sd (-1))) 23 (upI (F 23) sd 0)) 24 (upI (F 24) sd 0)) 21 (upI (F 21) sd (vp_nar .boolean (iz 1)).toInt)) 22 (upI (upI (F 22) sd (-1)) sd 1)) 23 (upI (upI (F 23) sd 0) sd ((20 * p0) + pz)))) := hD
                                    refine lv_aload_n hx hb dX6_step_281 rfl (lv_at hl 4 rfl) ?_
                                    refine va_get (D := (dC, dI)) (ci := 6) (v := .ref (ma 24)) (C := RX6) (T := TX6) (N := 44) hx hb hts kt_X6 hown hK hP 0 rfl rfl 24 (by decide) (kx_word hG kq_05_morder_4 rfl) (fun _ h9 => h9) rfl dX6_step_282 ?_
                                    refine lv_iload_n hx hb dX6_step_285 rfl (lv_at hl 5 rfl) ?_
                                    refine lv_iload hx hb dX6_step_286 (lv_at hl 0 rfl) ?_
                                    refine lv_iload_n hx hb dX6_step_288 rfl (lv_at hl 3 rfl) ?_
                                    refine ki_isub hx hb dX6_step_289 ?_
                                    refine ki_iast (F := upI (F 24) sd 0) hx hb hK hP hD hS 19 18 rfl rfl (by omega) (by omega) (by decide) dX6_step_290 (fun H locs hP hD hS => ?_)
                                    have hP : va_P (dC, dI) kxCl (mW mo ma cs I (va_up (va_up (va_up (va_up (va_up (va_up (va_up (va_up F 20 (upI (F 20) sd pa)) 22 (upI (F 22) sd (-1))) 23 (upI (F 23) sd 0)) 24 (upI (F 24) sd 0)) 21 (upI (F 21) sd (vp_nar .boolean (iz 1)).toInt)) 22 (upI (upI (F 22) sd (-1)) sd 1)) 23 (upI (upI (F 23) sd 0) sd ((20 * p0) + pz))) 24 (upI (upI (F 24) sd 0) sd (en - pz)))) H := hP
                                    have hD : va_D A (mW mo ma cs I (va_up (va_up (va_up (va_up (va_up (va_up (va_up (va_up F 20 (upI (F 20) sd pa)) 22 (upI (F 22) sd (-1))) 23 (upI (F 23) sd 0)) 24 (upI (F 24) sd 0)) 21 (upI (F 21) sd (vp_nar .boolean (iz 1)).toInt)) 22 (upI (upI (F 22) sd (-1)) sd 1)) 23 (upI (upI (F 23) sd 0) sd ((20 * p0) + pz))) 24 (upI (upI (F 24) sd 0) sd (en - pz)))) := hD
                                    refine lv_aload_n hx hb dX6_step_291 rfl (lv_at hl 4 rfl) ?_
                                    refine va_get (D := (dC, dI)) (ci := 6) (v := .ref (ma 20)) (C := RX6) (T := TX6) (N := 44) hx hb hts kt_X6 hown hK hP 0 rfl rfl 20 (by decide) (kx_word hG kq_05_morder_0 rfl) (fun _ h9 => h9) rfl dX6_step_292 ?_
                                    refine lv_iload_n hx hb dX6_step_295 rfl (lv_at hl 5 rfl) ?_
                                    refine lv_iload hx hb dX6_step_296 (lv_at hl 0 rfl) ?_
                                    refine ki_iast (F := upI (F 20) sd pa) hx hb hK hP hD hS 15 14 rfl rfl (by omega) (by omega) (by decide) dX6_step_298 (fun H locs hP hD hS => ?_)
                                    have hP : va_P (dC, dI) kxCl (mW mo ma cs I (va_up (va_up (va_up (va_up (va_up (va_up (va_up (va_up (va_up F 20 (upI (F 20) sd pa)) 22 (upI (F 22) sd (-1))) 23 (upI (F 23) sd 0)) 24 (upI (F 24) sd 0)) 21 (upI (F 21) sd (vp_nar .boolean (iz 1)).toInt)) 22 (upI (upI (F 22) sd (-1)) sd 1)) 23 (upI (upI (F 23) sd 0) sd ((20 * p0) + pz))) 24 (upI (upI (F 24) sd 0) sd (en - pz))) 20 (upI (upI (F 20) sd pa) sd en))) H := hP
                                    have hD : va_D A (mW mo ma cs I (va_up (va_up (va_up (va_up (va_up (va_up (va_up (va_up (va_up F 20 (upI (F 20) sd pa)) 22 (upI (F 22) sd (-1))) 23 (upI (F 23) sd 0)) 24 (upI (F 24) sd 0)) 21 (upI (F 21) sd (vp_nar .boolean (iz 1)).toInt)) 22 (upI (upI (F 22) sd (-1)) sd 1)) 23 (upI (upI (F 23) sd 0) sd ((20 * p0) + pz))) 24 (upI (upI (F 24) sd 0) sd (en - pz))) 20 (upI (upI (F 20) sd pa) sd en))) := hD
                                    have e_348 : (va_up (va_up (va_up (va_up (va_up (va_up (va_up (va_up (va_up F 20 (upI (F 20) sd pa)) 22 (upI (F 22) sd (-1))) 23 (upI (F 23) sd 0)) 24 (upI (F 24) sd 0)) 21 (upI (F 21) sd (vp_nar .boolean (iz 1)).toInt)) 22 (upI (upI (F 22) sd (-1)) sd 1)) 23 (upI (upI (F 23) sd 0) sd ((20 * p0) + pz))) 24 (upI (upI (F 24) sd 0) sd (en - pz))) 20 (upI (upI (F 20) sd pa) sd en)) 20 sd = en := upI_self _ _ _
                                    have e_349 : (va_up (va_up (va_up (va_up (va_up (va_up (va_up (va_up (va_up F 20 (upI (F 20) sd pa)) 22 (upI (F 22) sd (-1))) 23 (upI (F 23) sd 0)) 24 (upI (F 24) sd 0)) 21 (upI (F 21) sd (vp_nar .boolean (iz 1)).toInt)) 22 (upI (upI (F 22) sd (-1)) sd 1)) 23 (upI (upI (F 23) sd 0) sd ((20 * p0) + pz))) 24 (upI (upI (F 24) sd 0) sd (en - pz))) 20 (upI (upI (F 20) sd pa) sd en)) 22 sd = 1 := upI_self _ _ _
                                    have e_350 : (va_up (va_up (va_up (va_up (va_up (va_up (va_up (va_up (va_up F 20 (upI (F 20) sd pa)) 22 (upI (F 22) sd (-1))) 23 (upI (F 23) sd 0)) 24 (upI (F 24) sd 0)) 21 (upI (F 21) sd (vp_nar .boolean (iz 1)).toInt)) 22 (upI (upI (F 22) sd (-1)) sd 1)) 23 (upI (upI (F 23) sd 0) sd ((20 * p0) + pz))) 24 (upI (upI (F 24) sd 0) sd (en - pz))) 20 (upI (upI (F 20) sd pa) sd en)) 23 sd = (20 * p0) + pz := upI_self _ _ _
                                    have e_351 : (va_up (va_up (va_up (va_up (va_up (va_up (va_up (va_up (va_up F 20 (upI (F 20) sd pa)) 22 (upI (F 22) sd (-1))) 23 (upI (F 23) sd 0)) 24 (upI (F 24) sd 0)) 21 (upI (F 21) sd (vp_nar .boolean (iz 1)).toInt)) 22 (upI (upI (F 22) sd (-1)) sd 1)) 23 (upI (upI (F 23) sd 0) sd ((20 * p0) + pz))) 24 (upI (upI (F 24) sd 0) sd (en - pz))) 20 (upI (upI (F 20) sd pa) sd en)) 24 sd = en - pz := upI_self _ _ _
                                    have e_352 : (va_up (va_up (va_up (va_up (va_up (va_up (va_up (va_up (va_up F 20 (upI (F 20) sd pa)) 22 (upI (F 22) sd (-1))) 23 (upI (F 23) sd 0)) 24 (upI (F 24) sd 0)) 21 (upI (F 21) sd (vp_nar .boolean (iz 1)).toInt)) 22 (upI (upI (F 22) sd (-1)) sd 1)) 23 (upI (upI (F 23) sd 0) sd ((20 * p0) + pz))) 24 (upI (upI (F 24) sd 0) sd (en - pz))) 20 (upI (upI (F 20) sd pa) sd en)) 21 sd = (vp_nar .boolean (iz 1)).toInt := upI_self _ _ _
                                    rw [← hQe]
                                    exact mk_ret hx hb hr hlocks hP hD hK hS dX6_step_299 (⟨rfl, (mB_f (mB_f (mB_f (mB_f (mB_f (mB_f (mB_f (mB_f (mB_f hB 20 sd (by omega) (by omega)) 22 sd (by omega) (by omega)) 23 sd (by omega) (by omega)) 24 sd (by omega) (by omega)) 21 sd (iz_lo _) (iz_hi _)) 22 sd (by omega) (by omega)) 23 sd (by omega) (by omega)) 24 sd (by omega) (by omega)) 20 sd (by omega) (by omega)), (mfr.upF (mfr.upF (mfr.upF (mfr.upF (mfr.upF (mfr.upF (mfr.upF (mfr.upF (mfr.upF mfr.rf (by decide) _) (by decide) _) (by decide) _) (by decide) _) (by decide) _) (by decide) _) (by decide) _) (by decide) _) (by decide) _), (mo1.up (mo1.up (mo1.up (mo1.up (mo1.up (mo1.up (mo1.up (mo1.up (mo1.up mo1.rf 20 _) 22 _) 23 _) 24 _) 21 _) 22 _) 23 _) 24 _) 20 _), by omega, by omega, by omega⟩)
                                  · skip
                                    refine lv_aload_n hx hb dX6_step_240 rfl (lv_at hl 4 rfl) ?_
                                    refine va_get (D := (dC, dI)) (ci := 6) (v := .ref (ma 4)) (C := RX6) (T := TX6) (N := 44) hx hb hts kt_X6 hown hK hP 0 rfl rfl 4 (by decide) (kx_word hG kq_04_msmall_16 rfl) (fun _ h9 => h9) rfl dX6_step_241 ?_
                                    refine lv_bipush (v := iz 20) hx hb dX6_step_244 (by decide) ?_
                                    refine lv_iload_n hx hb dX6_step_246 rfl (lv_at hl 6 rfl) ?_
                                    refine ki_imul hx hb dX6_step_247 ?_
                                    refine lv_iload_n hx hb dX6_step_248 rfl (lv_at hl 3 rfl) ?_
                                    refine ki_iadd hx hb dX6_step_249 ?_
                                    refine ki_iald (F := F 4) hx hb hK hP 3 2 rfl rfl (by omega) (by omega) (by decide) dX6_step_250 ?_
                                    have hbd_353 := hB.2 4 ((20 * p0) + pz)
                                    refine lv_bipush (v := iz 48) hx hb dX6_step_251 (by decide) ?_
                                    refine ki_icmp_ne (tgt := 262) hx hb dX6_step_253 (by decide) (by omega) (by omega) (by omega) (by omega) (fun c_354 => ?_) (fun c_354 => ?_)
                                    · skip
                                      refine lv_aload_n hx hb dX6_step_262 rfl (lv_at hl 4 rfl) ?_
                                      refine va_get (D := (dC, dI)) (ci := 6) (v := .ref (ma 22)) (C := RX6) (T := TX6) (N := 44) hx hb hts kt_X6 hown hK hP 0 rfl rfl 22 (by decide) (kx_word hG kq_05_morder_2 rfl) (fun _ h9 => h9) rfl dX6_step_263 ?_
                                      refine lv_iload_n hx hb dX6_step_266 rfl (lv_at hl 5 rfl) ?_
                                      refine lv_iconst (v := iz 1) hx hb dX6_step_267 (by decide) ?_
                                      refine ki_iast (F := upI (F 22) sd (-1)) hx hb hK hP hD hS 17 16 rfl rfl (by omega) (by omega) (by decide) dX6_step_268 (fun H locs hP hD hS => ?_)
                                      have hP : va_P (dC, dI) kxCl (mW mo ma cs I (va_up (va_up (va_up (va_up (va_up (va_up F 20 (upI (F 20) sd pa)) 22 (upI (F 22) sd (-1))) 23 (upI (F 23) sd 0)) 24 (upI (F 24) sd 0)) 21 (upI (F 21) sd (vp_nar .boolean (iz 1)).toInt)) 22 (upI (upI (F 22) sd (-1)) sd 1))) H := hP
                                      have hD : va_D A (mW mo ma cs I (va_up (va_up (va_up (va_up (va_up (va_up F 20 (upI (F 20) sd pa)) 22 (upI (F 22) sd (-1))) 23 (upI (F 23) sd 0)) 24 (upI (F 24) sd 0)) 21 (upI (F 21) sd (vp_nar .boolean (iz 1)).toInt)) 22 (upI (upI (F 22) sd (-1)) sd 1))) := hD
                                      refine lv_aload_n hx hb dX6_step_269 rfl (lv_at hl 4 rfl) ?_
                                      refine va_get (D := (dC, dI)) (ci := 6) (v := .ref (ma 23)) (C := RX6) (T := TX6) (N := 44) hx hb hts kt_X6 hown hK hP 0 rfl rfl 23 (by decide) (kx_word hG kq_05_morder_3 rfl) (fun _ h9 => h9) rfl dX6_step_270 ?_
                                      refine lv_iload_n hx hb dX6_step_273 rfl (lv_at hl 5 rfl) ?_
                                      refine lv_bipush (v := iz 20) hx hb dX6_step_274 (by decide) ?_
                                      refine lv_iload_n hx hb dX6_step_276 rfl (lv_at hl 6 rfl) ?_
                                      refine ki_imul hx hb dX6_step_277 ?_
                                      refine lv_iload_n hx hb dX6_step_278 rfl (lv_at hl 3 rfl) ?_
                                      refine ki_iadd hx hb dX6_step_279 ?_
                                      refine ki_iast (F := upI (F 23) sd 0) hx hb hK hP hD hS 18 17 rfl rfl (by omega) (by omega) (by decide) dX6_step_280 (fun H locs hP hD hS => ?_)
                                      have hP : va_P (dC, dI) kxCl (mW mo ma cs I (va_up (va_up (va_up (va_up (va_up (va_up (va_up F 20 (upI (F 20) sd pa)) 22 (upI (F 22) sd (-1))) 23 (upI (F 23) sd 0)) 24 (upI (F 24) sd 0)) 21 (upI (F 21) sd (vp_nar .boolean (iz 1)).toInt)) 22 (upI (upI (F 22) sd (-1)) sd 1)) 23 (upI (upI (F 23) sd 0) sd ((20 * p0) + pz)))) H := hP
                                      have hD : va_D A (mW mo ma cs I (va_up (va_up (va_up (va_up (va_up (va_up (va_up F 20 (upI (F 20) sd pa)) 22 (upI (F 22) sd (-1))) 23 (upI (F 23) sd 0)) 24 (upI (F 24) sd 0)) 21 (upI (F 21) sd (vp_nar .boolean (iz 1)).toInt)) 22 (upI (upI (F 22) sd (-1)) sd 1)) 23 (upI (upI (F 23) sd 0) sd ((20 * p0) + pz)))) := hD
                                      refine lv_aload_n hx hb dX6_step_281 rfl (lv_at hl 4 rfl) ?_
                                      refine va_get (D := (dC, dI)) (ci := 6) (v := .ref (ma 24)) (C := RX6) (T := TX6) (N := 44) hx hb hts kt_X6 hown hK hP 0 rfl rfl 24 (by decide) (kx_word hG kq_05_morder_4 rfl) (fun _ h9 => h9) rfl dX6_step_282 ?_
                                      refine lv_iload_n hx hb dX6_step_285 rfl (lv_at hl 5 rfl) ?_
                                      refine lv_iload hx hb dX6_step_286 (lv_at hl 0 rfl) ?_
                                      refine lv_iload_n hx hb dX6_step_288 rfl (lv_at hl 3 rfl) ?_
                                      refine ki_isub hx hb dX6_step_289 ?_
                                      refine ki_iast (F := upI (F 24) sd 0) hx hb hK hP hD hS 19 18 rfl rfl (by omega) (by omega) (by decide) dX6_step_290 (fun H locs hP hD hS => ?_)
                                      have hP : va_P (dC, dI) kxCl (mW mo ma cs I (va_up (va_up (va_up (va_up (va_up (va_up (va_up (va_up F 20 (upI (F 20) sd pa)) 22 (upI (F 22) sd (-1))) 23 (upI (F 23) sd 0)) 24 (upI (F 24) sd 0)) 21 (upI (F 21) sd (vp_nar .boolean (iz 1)).toInt)) 22 (upI (upI (F 22) sd (-1)) sd 1)) 23 (upI (upI (F 23) sd 0) sd ((20 * p0) + pz))) 24 (upI (upI (F 24) sd 0) sd (en - pz)))) H := hP
                                      have hD : va_D A (mW mo ma cs I (va_up (va_up (va_up (va_up (va_up (va_up (va_up (va_up F 20 (upI (F 20) sd pa)) 22 (upI (F 22) sd (-1))) 23 (upI (F 23) sd 0)) 24 (upI (F 24) sd 0)) 21 (upI (F 21) sd (vp_nar .boolean (iz 1)).toInt)) 22 (upI (upI (F 22) sd (-1)) sd 1)) 23 (upI (upI (F 23) sd 0) sd ((20 * p0) + pz))) 24 (upI (upI (F 24) sd 0) sd (en - pz)))) := hD
                                      refine lv_aload_n hx hb dX6_step_291 rfl (lv_at hl 4 rfl) ?_
                                      refine va_get (D := (dC, dI)) (ci := 6) (v := .ref (ma 20)) (C := RX6) (T := TX6) (N := 44) hx hb hts kt_X6 hown hK hP 0 rfl rfl 20 (by decide) (kx_word hG kq_05_morder_0 rfl) (fun _ h9 => h9) rfl dX6_step_292 ?_
                                      refine lv_iload_n hx hb dX6_step_295 rfl (lv_at hl 5 rfl) ?_
                                      refine lv_iload hx hb dX6_step_296 (lv_at hl 0 rfl) ?_
                                      refine ki_iast (F := upI (F 20) sd pa) hx hb hK hP hD hS 15 14 rfl rfl (by omega) (by omega) (by decide) dX6_step_298 (fun H locs hP hD hS => ?_)
                                      have hP : va_P (dC, dI) kxCl (mW mo ma cs I (va_up (va_up (va_up (va_up (va_up (va_up (va_up (va_up (va_up F 20 (upI (F 20) sd pa)) 22 (upI (F 22) sd (-1))) 23 (upI (F 23) sd 0)) 24 (upI (F 24) sd 0)) 21 (upI (F 21) sd (vp_nar .boolean (iz 1)).toInt)) 22 (upI (upI (F 22) sd (-1)) sd 1)) 23 (upI (upI (F 23) sd 0) sd ((20 * p0) + pz))) 24 (upI (upI (F 24) sd 0) sd (en - pz))) 20 (upI (upI (F 20) sd pa) sd en))) H := hP
                                      have hD : va_D A (mW mo ma cs I (va_up (va_up (va_up (va_up (va_up (va_up (va_up (va_up (va_up F 20 (upI (F 20) sd pa)) 22 (upI (F 22) sd (-1))) 23 (upI (F 23) sd 0)) 24 (upI (F 24) sd 0)) 21 (upI (F 21) sd (vp_nar .boolean (iz 1)).toInt)) 22 (upI (upI (F 22) sd (-1)) sd 1)) 23 (upI (upI (F 23) sd 0) sd ((20 * p0) + pz))) 24 (upI (upI (F 24) sd 0) sd (en - pz))) 20 (upI (upI (F 20) sd pa) sd en))) := hD
                                      have e_355 : (va_up (va_up (va_up (va_up (va_up (va_up (va_up (va_up (va_up F 20 (upI (F 20) sd pa)) 22 (upI (F 22) sd (-1))) 23 (upI (F 23) sd 0)) 24 (upI (F 24) sd 0)) 21 (upI (F 21) sd (vp_nar .boolean (iz 1)).toInt)) 22 (upI (upI (F 22) sd (-1)) sd 1)) 23 (upI (upI (F 23) sd 0) sd ((20 * p0) + pz))) 24 (upI (upI (F 24) sd 0) sd (en - pz))) 20 (upI (upI (F 20) sd pa) sd en)) 20 sd = en := upI_self _ _ _
                                      have e_356 : (va_up (va_up (va_up (va_up (va_up (va_up (va_up (va_up (va_up F 20 (upI (F 20) sd pa)) 22 (upI (F 22) sd (-1))) 23 (upI (F 23) sd 0)) 24 (upI (F 24) sd 0)) 21 (upI (F 21) sd (vp_nar .boolean (iz 1)).toInt)) 22 (upI (upI (F 22) sd (-1)) sd 1)) 23 (upI (upI (F 23) sd 0) sd ((20 * p0) + pz))) 24 (upI (upI (F 24) sd 0) sd (en - pz))) 20 (upI (upI (F 20) sd pa) sd en)) 22 sd = 1 := upI_self _ _ _
                                      have e_357 : (va_up (va_up (va_up (va_up (va_up (va_up (va_up (va_up (va_up F 20 (upI (F 20) sd pa)) 22 (upI (F 22) sd (-1))) 23 (upI (F 23) sd 0)) 24 (upI (F 24) sd 0)) 21 (upI (F 21) sd (vp_nar .boolean (iz 1)).toInt)) 22 (upI (upI (F 22) sd (-1)) sd 1)) 23 (upI (upI (F 23) sd 0) sd ((20 * p0) + pz))) 24 (upI (upI (F 24) sd 0) sd (en - pz))) 20 (upI (upI (F 20) sd pa) sd en)) 23 sd = (20 * p0) + pz := upI_self _ _ _
                                      have e_358 : (va_up (va_up (va_up (va_up (va_up (va_up (va_up (va_up (va_up F 20 (upI (F 20) sd pa)) 22 (upI (F 22) sd (-1))) 23 (upI (F 23) sd 0)) 24 (upI (F 24) sd 0)) 21 (upI (F 21) sd (vp_nar .boolean (iz 1)).toInt)) 22 (upI (upI (F 22) sd (-1)) sd 1)) 23 (upI (upI (F 23) sd 0) sd ((20 * p0) + pz))) 24 (upI (upI (F 24) sd 0) sd (en - pz))) 20 (upI (upI (F 20) sd pa) sd en)) 24 sd = en - pz := upI_self _ _ _
                                      have e_359 : (va_up (va_up (va_up (va_up (va_up (va_up (va_up (va_up (va_up F 20 (upI (F 20) sd pa)) 22 (upI (F 22) sd (-1))) 23 (upI (F 23) sd 0)) 24 (upI (F 24) sd 0)) 21 (upI (F 21) sd (vp_nar .boolean (iz 1)).toInt)) 22 (upI (upI (F 22) sd (-1)) sd 1)) 23 (upI (upI (F 23) sd 0) sd ((20 * p0) + pz))) 24 (upI (upI (F 24) sd 0) sd (en - pz))) 20 (upI (upI (F 20) sd pa) sd en)) 21 sd = (vp_nar .boolean (iz 1)).toInt := upI_self _ _ _
                                      rw [← hQe]
                                      exact mk_ret hx hb hr hlocks hP hD hK hS dX6_step_299 (⟨rfl, (mB_f (mB_f (mB_f (mB_f (mB_f (mB_f (mB_f (mB_f (mB_f hB 20 sd (by omega) (by omega)) 22 sd (by omega) (by omega)) 23 sd (by omega) (by omega)) 24 sd (by omega) (by omega)) 21 sd (iz_lo _) (iz_hi _)) 22 sd (by omega) (by omega)) 23 sd (by omega) (by omega)) 24 sd (by omega) (by omega)) 20 sd (by omega) (by omega)), (mfr.upF (mfr.upF (mfr.upF (mfr.upF (mfr.upF (mfr.upF (mfr.upF (mfr.upF (mfr.upF mfr.rf (by decide) _) (by decide) _) (by decide) _) (by decide) _) (by decide) _) (by decide) _) (by decide) _) (by decide) _) (by decide) _), (mo1.up (mo1.up (mo1.up (mo1.up (mo1.up (mo1.up (mo1.up (mo1.up (mo1.up mo1.rf 20 _) 22 _) 23 _) 24 _) 21 _) 22 _) 23 _) 24 _) 20 _), by omega, by omega, by omega⟩)
                                    · skip
                                      refine lv_iinc (v := iz (pz + 1)) (lv' := [(3, .int (iz (pz + 1))), (6, .int (iz en)), (5, .int (iz (F 4 ((20 * p0) + pa)))), (4, .int (iz ps)), (0, .ref mo), (1, .int (iz sd)), (2, .int (iz p0))]) hx hb dX6_step_256 hl (k := 3) rfl (iz_add pz 1) (by decide) rfl (fun ls hl => ?_)
                                      refine lv_goto (tgt := 234) hx hb dX6_step_259 (by decide) ?_
                                      exact ih234 (pz + 1) (by omega) (by omega) _ _ hP hD hS ls (lv_sub hl [1, 2, 3, 0, 4, 5, 6] rfl)
                              exact lp234 _ pa (by omega) (Nat.lt_succ_self _) _ _ hP hD hS ls (lv_sub hl [0, 1, 2, 3, 4, 5, 6] rfl)
                            · skip
                              refine lv_iinc (v := iz (en + 1)) (lv' := [(6, .int (iz (en + 1))), (5, .int (iz (F 4 ((20 * p0) + pa)))), (4, .int (iz ps)), (3, .int (iz pa)), (0, .ref mo), (1, .int (iz sd)), (2, .int (iz p0))]) hx hb dX6_step_228 hl (k := 0) rfl (iz_add en 1) (by decide) rfl (fun ls hl => ?_)
                              refine lv_goto (tgt := 192) hx hb dX6_step_231 (by decide) ?_
                              exact ih192 (en + 1) (by omega) (by omega) _ _ hP hD hS ls (lv_sub hl [0, 1, 2, 3, 4, 5, 6] rfl)
                    exact lp192 _ (pa + 1) (by omega) (Nat.lt_succ_self _) _ _ hP hD hS ls (lv_sub hl [0, 1, 2, 3, 4, 5, 6] rfl)
                  · skip
                    refine lv_aload_n hx hb dX6_step_159 rfl (lv_at hl 3 rfl) ?_
                    refine va_get (D := (dC, dI)) (ci := 6) (v := .ref (ma 22)) (C := RX6) (T := TX6) (N := 44) hx hb hts kt_X6 hown hK hP 0 rfl rfl 22 (by decide) (kx_word hG kq_05_morder_2 rfl) (fun _ h9 => h9) rfl dX6_step_160 ?_
                    refine lv_iload_n hx hb dX6_step_163 rfl (lv_at hl 4 rfl) ?_
                    refine lv_iconst (v := iz 2) hx hb dX6_step_164 (by decide) ?_
                    refine ki_iast (F := upI (F 22) sd (-1)) hx hb hK hP hD hS 17 16 rfl rfl (by omega) (by omega) (by decide) dX6_step_165 (fun H locs hP hD hS => ?_)
                    have hP : va_P (dC, dI) kxCl (mW mo ma cs I (va_up (va_up (va_up (va_up (va_up (va_up F 20 (upI (F 20) sd pa)) 22 (upI (F 22) sd (-1))) 23 (upI (F 23) sd 0)) 24 (upI (F 24) sd 0)) 21 (upI (F 21) sd (vp_nar .boolean (iz 1)).toInt)) 22 (upI (upI (F 22) sd (-1)) sd 2))) H := hP
                    have hD : va_D A (mW mo ma cs I (va_up (va_up (va_up (va_up (va_up (va_up F 20 (upI (F 20) sd pa)) 22 (upI (F 22) sd (-1))) 23 (upI (F 23) sd 0)) 24 (upI (F 24) sd 0)) 21 (upI (F 21) sd (vp_nar .boolean (iz 1)).toInt)) 22 (upI (upI (F 22) sd (-1)) sd 2))) := hD
                    refine lv_aload_n hx hb dX6_step_166 rfl (lv_at hl 3 rfl) ?_
                    refine va_get (D := (dC, dI)) (ci := 6) (v := .ref (ma 23)) (C := RX6) (T := TX6) (N := 44) hx hb hts kt_X6 hown hK hP 0 rfl rfl 23 (by decide) (kx_word hG kq_05_morder_3 rfl) (fun _ h9 => h9) rfl dX6_step_167 ?_
                    refine lv_iload_n hx hb dX6_step_170 rfl (lv_at hl 4 rfl) ?_
                    refine lv_iload hx hb dX6_step_171 (lv_at hl 0 rfl) ?_
                    refine mk_calls (As := [.int (iz (F 4 ((20 * p0) + pa)))]) (rest := [.int (iz sd), .ref (ma 23)]) ⟨hx, hb, hml, hown, hts⟩ (k_letterOf l dC dI (F 4 ((20 * p0) + pa)) H.size (by omega) (by omega)) (va_cwS 1 hts (kx_gS kq_05_morder_5 kq_05_morder_6 kq_04_msmall_6 kq_05_morder_7 rfl) rfl rfl rfl (by decide +kernel) ⟨Nat.le_of_ble_eq_true rfl, Nat.le_of_ble_eq_true rfl⟩) hP hD hK hG hZ hS hA rfl hl.1 rfl (Nat.le_of_ble_eq_true rfl) dX6_step_173 ⟨Nat.le_of_ble_eq_true rfl, Nat.le_of_ble_eq_true rfl⟩ (fun z_360 H locs hq_361 hP hS => ?_)
                    try dsimp only at hq_361
                    refine ki_iast (F := upI (F 23) sd 0) hx hb hK hP hD hS 18 17 rfl rfl (by omega) (by omega) (by decide) dX6_step_176 (fun H locs hP hD hS => ?_)
                    have hP : va_P (dC, dI) kxCl (mW mo ma cs I (va_up (va_up (va_up (va_up (va_up (va_up (va_up F 20 (upI (F 20) sd pa)) 22 (upI (F 22) sd (-1))) 23 (upI (F 23) sd 0)) 24 (upI (F 24) sd 0)) 21 (upI (F 21) sd (vp_nar .boolean (iz 1)).toInt)) 22 (upI (upI (F 22) sd (-1)) sd 2)) 23 (upI (upI (F 23) sd 0) sd z_360))) H := hP
                    have hD : va_D A (mW mo ma cs I (va_up (va_up (va_up (va_up (va_up (va_up (va_up F 20 (upI (F 20) sd pa)) 22 (upI (F 22) sd (-1))) 23 (upI (F 23) sd 0)) 24 (upI (F 24) sd 0)) 21 (upI (F 21) sd (vp_nar .boolean (iz 1)).toInt)) 22 (upI (upI (F 22) sd (-1)) sd 2)) 23 (upI (upI (F 23) sd 0) sd z_360))) := hD
                    refine lv_aload_n hx hb dX6_step_177 rfl (lv_at hl 3 rfl) ?_
                    refine va_get (D := (dC, dI)) (ci := 6) (v := .ref (ma 20)) (C := RX6) (T := TX6) (N := 44) hx hb hts kt_X6 hown hK hP 0 rfl rfl 20 (by decide) (kx_word hG kq_05_morder_0 rfl) (fun _ h9 => h9) rfl dX6_step_178 ?_
                    refine lv_iload_n hx hb dX6_step_181 rfl (lv_at hl 4 rfl) ?_
                    refine lv_iload_n hx hb dX6_step_182 rfl (lv_at hl 2 rfl) ?_
                    refine lv_iconst (v := iz 1) hx hb dX6_step_183 (by decide) ?_
                    refine ki_iadd hx hb dX6_step_184 ?_
                    refine ki_iast (F := upI (F 20) sd pa) hx hb hK hP hD hS 15 14 rfl rfl (by omega) (by omega) (by decide) dX6_step_185 (fun H locs hP hD hS => ?_)
                    have hP : va_P (dC, dI) kxCl (mW mo ma cs I (va_up (va_up (va_up (va_up (va_up (va_up (va_up (va_up F 20 (upI (F 20) sd pa)) 22 (upI (F 22) sd (-1))) 23 (upI (F 23) sd 0)) 24 (upI (F 24) sd 0)) 21 (upI (F 21) sd (vp_nar .boolean (iz 1)).toInt)) 22 (upI (upI (F 22) sd (-1)) sd 2)) 23 (upI (upI (F 23) sd 0) sd z_360)) 20 (upI (upI (F 20) sd pa) sd (pa + 1)))) H := hP
                    have hD : va_D A (mW mo ma cs I (va_up (va_up (va_up (va_up (va_up (va_up (va_up (va_up F 20 (upI (F 20) sd pa)) 22 (upI (F 22) sd (-1))) 23 (upI (F 23) sd 0)) 24 (upI (F 24) sd 0)) 21 (upI (F 21) sd (vp_nar .boolean (iz 1)).toInt)) 22 (upI (upI (F 22) sd (-1)) sd 2)) 23 (upI (upI (F 23) sd 0) sd z_360)) 20 (upI (upI (F 20) sd pa) sd (pa + 1)))) := hD
                    have e_362 : (va_up (va_up (va_up (va_up (va_up (va_up (va_up (va_up F 20 (upI (F 20) sd pa)) 22 (upI (F 22) sd (-1))) 23 (upI (F 23) sd 0)) 24 (upI (F 24) sd 0)) 21 (upI (F 21) sd (vp_nar .boolean (iz 1)).toInt)) 22 (upI (upI (F 22) sd (-1)) sd 2)) 23 (upI (upI (F 23) sd 0) sd z_360)) 20 (upI (upI (F 20) sd pa) sd (pa + 1))) 20 sd = pa + 1 := upI_self _ _ _
                    have e_363 : (va_up (va_up (va_up (va_up (va_up (va_up (va_up (va_up F 20 (upI (F 20) sd pa)) 22 (upI (F 22) sd (-1))) 23 (upI (F 23) sd 0)) 24 (upI (F 24) sd 0)) 21 (upI (F 21) sd (vp_nar .boolean (iz 1)).toInt)) 22 (upI (upI (F 22) sd (-1)) sd 2)) 23 (upI (upI (F 23) sd 0) sd z_360)) 20 (upI (upI (F 20) sd pa) sd (pa + 1))) 22 sd = 2 := upI_self _ _ _
                    have e_364 : (va_up (va_up (va_up (va_up (va_up (va_up (va_up (va_up F 20 (upI (F 20) sd pa)) 22 (upI (F 22) sd (-1))) 23 (upI (F 23) sd 0)) 24 (upI (F 24) sd 0)) 21 (upI (F 21) sd (vp_nar .boolean (iz 1)).toInt)) 22 (upI (upI (F 22) sd (-1)) sd 2)) 23 (upI (upI (F 23) sd 0) sd z_360)) 20 (upI (upI (F 20) sd pa) sd (pa + 1))) 23 sd = z_360 := upI_self _ _ _
                    have e_365 : (va_up (va_up (va_up (va_up (va_up (va_up (va_up (va_up F 20 (upI (F 20) sd pa)) 22 (upI (F 22) sd (-1))) 23 (upI (F 23) sd 0)) 24 (upI (F 24) sd 0)) 21 (upI (F 21) sd (vp_nar .boolean (iz 1)).toInt)) 22 (upI (upI (F 22) sd (-1)) sd 2)) 23 (upI (upI (F 23) sd 0) sd z_360)) 20 (upI (upI (F 20) sd pa) sd (pa + 1))) 24 sd = 0 := upI_self _ _ _
                    have e_366 : (va_up (va_up (va_up (va_up (va_up (va_up (va_up (va_up F 20 (upI (F 20) sd pa)) 22 (upI (F 22) sd (-1))) 23 (upI (F 23) sd 0)) 24 (upI (F 24) sd 0)) 21 (upI (F 21) sd (vp_nar .boolean (iz 1)).toInt)) 22 (upI (upI (F 22) sd (-1)) sd 2)) 23 (upI (upI (F 23) sd 0) sd z_360)) 20 (upI (upI (F 20) sd pa) sd (pa + 1))) 21 sd = (vp_nar .boolean (iz 1)).toInt := upI_self _ _ _
                    rw [← hQe]
                    exact mk_ret hx hb hr hlocks hP hD hK hS dX6_step_186 (⟨rfl, (mB_f (mB_f (mB_f (mB_f (mB_f (mB_f (mB_f (mB_f hB 20 sd (by omega) (by omega)) 22 sd (by omega) (by omega)) 23 sd (by omega) (by omega)) 24 sd (by omega) (by omega)) 21 sd (iz_lo _) (iz_hi _)) 22 sd (by omega) (by omega)) 23 sd (by omega) (by omega)) 20 sd (by omega) (by omega)), (mfr.upF (mfr.upF (mfr.upF (mfr.upF (mfr.upF (mfr.upF (mfr.upF (mfr.upF mfr.rf (by decide) _) (by decide) _) (by decide) _) (by decide) _) (by decide) _) (by decide) _) (by decide) _) (by decide) _), (mo1.up (mo1.up (mo1.up (mo1.up (mo1.up (mo1.up (mo1.up (mo1.up mo1.rf 20 _) 22 _) 23 _) 24 _) 21 _) 22 _) 23 _) 20 _), by omega, by omega, by omega⟩)
                · skip
                  refine lv_aload_n hx hb dX6_step_123 rfl (lv_at hl 2 rfl) ?_
                  refine va_get (D := (dC, dI)) (ci := 6) (v := .ref (ma 22)) (C := RX6) (T := TX6) (N := 44) hx hb hts kt_X6 hown hK hP 0 rfl rfl 22 (by decide) (kx_word hG kq_05_morder_2 rfl) (fun _ h9 => h9) rfl dX6_step_124 ?_
                  refine lv_iload_n hx hb dX6_step_127 rfl (lv_at hl 3 rfl) ?_
                  refine lv_iconst (v := iz 0) hx hb dX6_step_128 (by decide) ?_
                  refine ki_iast (F := upI (F 22) sd (-1)) hx hb hK hP hD hS 17 16 rfl rfl (by omega) (by omega) (by decide) dX6_step_129 (fun H locs hP hD hS => ?_)
                  have hP : va_P (dC, dI) kxCl (mW mo ma cs I (va_up (va_up (va_up (va_up (va_up F 20 (upI (F 20) sd pa)) 22 (upI (F 22) sd (-1))) 23 (upI (F 23) sd 0)) 24 (upI (F 24) sd 0)) 22 (upI (upI (F 22) sd (-1)) sd 0))) H := hP
                  have hD : va_D A (mW mo ma cs I (va_up (va_up (va_up (va_up (va_up F 20 (upI (F 20) sd pa)) 22 (upI (F 22) sd (-1))) 23 (upI (F 23) sd 0)) 24 (upI (F 24) sd 0)) 22 (upI (upI (F 22) sd (-1)) sd 0))) := hD
                  have e_367 : (va_up (va_up (va_up (va_up (va_up F 20 (upI (F 20) sd pa)) 22 (upI (F 22) sd (-1))) 23 (upI (F 23) sd 0)) 24 (upI (F 24) sd 0)) 22 (upI (upI (F 22) sd (-1)) sd 0)) 20 sd = pa := upI_self _ _ _
                  have e_368 : (va_up (va_up (va_up (va_up (va_up F 20 (upI (F 20) sd pa)) 22 (upI (F 22) sd (-1))) 23 (upI (F 23) sd 0)) 24 (upI (F 24) sd 0)) 22 (upI (upI (F 22) sd (-1)) sd 0)) 22 sd = 0 := upI_self _ _ _
                  have e_369 : (va_up (va_up (va_up (va_up (va_up F 20 (upI (F 20) sd pa)) 22 (upI (F 22) sd (-1))) 23 (upI (F 23) sd 0)) 24 (upI (F 24) sd 0)) 22 (upI (upI (F 22) sd (-1)) sd 0)) 23 sd = 0 := upI_self _ _ _
                  have e_370 : (va_up (va_up (va_up (va_up (va_up F 20 (upI (F 20) sd pa)) 22 (upI (F 22) sd (-1))) 23 (upI (F 23) sd 0)) 24 (upI (F 24) sd 0)) 22 (upI (upI (F 22) sd (-1)) sd 0)) 24 sd = 0 := upI_self _ _ _
                  rw [← hQe]
                  exact mk_ret hx hb hr hlocks hP hD hK hS dX6_step_130 (⟨rfl, (mB_f (mB_f (mB_f (mB_f (mB_f hB 20 sd (by omega) (by omega)) 22 sd (by omega) (by omega)) 23 sd (by omega) (by omega)) 24 sd (by omega) (by omega)) 22 sd (by omega) (by omega)), (mfr.upF (mfr.upF (mfr.upF (mfr.upF (mfr.upF mfr.rf (by decide) _) (by decide) _) (by decide) _) (by decide) _) (by decide) _), (mo1.up (mo1.up (mo1.up (mo1.up (mo1.up mo1.rf 20 _) 22 _) 23 _) 24 _) 22 _), by omega, by omega, by omega⟩)
          · skip
            have e_371 : (va_up (va_up (va_up (va_up F 20 (upI (F 20) sd pa)) 22 (upI (F 22) sd (-1))) 23 (upI (F 23) sd 0)) 24 (upI (F 24) sd 0)) 20 sd = pa := upI_self _ _ _
            have e_372 : (va_up (va_up (va_up (va_up F 20 (upI (F 20) sd pa)) 22 (upI (F 22) sd (-1))) 23 (upI (F 23) sd 0)) 24 (upI (F 24) sd 0)) 22 sd = (-1) := upI_self _ _ _
            have e_373 : (va_up (va_up (va_up (va_up F 20 (upI (F 20) sd pa)) 22 (upI (F 22) sd (-1))) 23 (upI (F 23) sd 0)) 24 (upI (F 24) sd 0)) 23 sd = 0 := upI_self _ _ _
            have e_374 : (va_up (va_up (va_up (va_up F 20 (upI (F 20) sd pa)) 22 (upI (F 22) sd (-1))) 23 (upI (F 23) sd 0)) 24 (upI (F 24) sd 0)) 24 sd = 0 := upI_self _ _ _
            rw [← hQe]
            exact mk_ret hx hb hr hlocks hP hD hK hS dX6_step_101 (⟨rfl, (mB_f (mB_f (mB_f (mB_f hB 20 sd (by omega) (by omega)) 22 sd (by omega) (by omega)) 23 sd (by omega) (by omega)) 24 sd (by omega) (by omega)), (mfr.upF (mfr.upF (mfr.upF (mfr.upF mfr.rf (by decide) _) (by decide) _) (by decide) _) (by decide) _), (mo1.up (mo1.up (mo1.up (mo1.up mo1.rf 20 _) 22 _) 23 _) 24 _), by omega, by omega, by omega⟩)
        · skip
          refine lv_aload_n hx hb dX6_step_37 rfl (lv_at hl 2 rfl) ?_
          refine va_get (D := (dC, dI)) (ci := 6) (v := .ref (ma 4)) (C := RX6) (T := TX6) (N := 44) hx hb hts kt_X6 hown hK hP 0 rfl rfl 4 (by decide) (kx_word hG kq_04_msmall_16 rfl) (fun _ h9 => h9) rfl dX6_step_38 ?_
          refine lv_bipush (v := iz 20) hx hb dX6_step_41 (by decide) ?_
          refine lv_iload_n hx hb dX6_step_43 rfl (lv_at hl 4 rfl) ?_
          refine ki_imul hx hb dX6_step_44 ?_
          refine lv_iload_n hx hb dX6_step_45 rfl (lv_at hl 1 rfl) ?_
          refine ki_iadd hx hb dX6_step_46 ?_
          refine ki_iald (F := F 4) hx hb hK hP 3 2 rfl rfl (by omega) (by omega) (by decide) dX6_step_47 ?_
          refine mk_calls (As := [.int (iz (F 4 ((20 * p0) + pa)))]) (rest := []) ⟨hx, hb, hml, hown, hts⟩ (k_isNumber l dC dI (F 4 ((20 * p0) + pa)) H.size (by omega) (by omega)) (va_cwS 1 hts (kx_gS kq_05_morder_8 kq_05_morder_9 kq_04_msmall_6 kq_05_morder_10 rfl) rfl rfl rfl (by decide +kernel) ⟨Nat.le_of_ble_eq_true rfl, Nat.le_of_ble_eq_true rfl⟩) hP hD hK hG hZ hS hA rfl hl.1 rfl (Nat.le_of_ble_eq_true rfl) dX6_step_48 ⟨Nat.le_of_ble_eq_true rfl, Nat.le_of_ble_eq_true rfl⟩ (fun z_375 H locs hq_376 hP hS => ?_)
          try dsimp only at hq_376
          refine ki_if_ne (tgt := 63) hx hb dX6_step_51 (by decide) (by omega) (by omega) (fun c_377 => ?_) (fun c_377 => ?_)
          · skip
            refine lv_aload_n hx hb dX6_step_63 rfl (lv_at hl 2 rfl) ?_
            refine va_get (D := (dC, dI)) (ci := 6) (v := .ref (ma 20)) (C := RX6) (T := TX6) (N := 44) hx hb hts kt_X6 hown hK hP 0 rfl rfl 20 (by decide) (kx_word hG kq_05_morder_0 rfl) (fun _ h9 => h9) rfl dX6_step_64 ?_
            refine lv_iload_n hx hb dX6_step_67 rfl (lv_at hl 3 rfl) ?_
            refine lv_iload_n hx hb dX6_step_68 rfl (lv_at hl 1 rfl) ?_
            refine ki_iast (F := F 20) hx hb hK hP hD hS 15 14 rfl rfl (by omega) (by omega) (by decide) dX6_step_69 (fun H locs hP hD hS => ?_)
            have hP : va_P (dC, dI) kxCl (mW mo ma cs I (va_up F 20 (upI (F 20) sd pa))) H := hP
            have hD : va_D A (mW mo ma cs I (va_up F 20 (upI (F 20) sd pa))) := hD
            refine lv_aload_n hx hb dX6_step_70 rfl (lv_at hl 2 rfl) ?_
            refine va_get (D := (dC, dI)) (ci := 6) (v := .ref (ma 22)) (C := RX6) (T := TX6) (N := 44) hx hb hts kt_X6 hown hK hP 0 rfl rfl 22 (by decide) (kx_word hG kq_05_morder_2 rfl) (fun _ h9 => h9) rfl dX6_step_71 ?_
            refine lv_iload_n hx hb dX6_step_74 rfl (lv_at hl 3 rfl) ?_
            refine lv_iconst (v := iz (-1)) hx hb dX6_step_75 (by decide) ?_
            refine ki_iast (F := F 22) hx hb hK hP hD hS 17 16 rfl rfl (by omega) (by omega) (by decide) dX6_step_76 (fun H locs hP hD hS => ?_)
            have hP : va_P (dC, dI) kxCl (mW mo ma cs I (va_up (va_up F 20 (upI (F 20) sd pa)) 22 (upI (F 22) sd (-1)))) H := hP
            have hD : va_D A (mW mo ma cs I (va_up (va_up F 20 (upI (F 20) sd pa)) 22 (upI (F 22) sd (-1)))) := hD
            refine lv_aload_n hx hb dX6_step_77 rfl (lv_at hl 2 rfl) ?_
            refine va_get (D := (dC, dI)) (ci := 6) (v := .ref (ma 23)) (C := RX6) (T := TX6) (N := 44) hx hb hts kt_X6 hown hK hP 0 rfl rfl 23 (by decide) (kx_word hG kq_05_morder_3 rfl) (fun _ h9 => h9) rfl dX6_step_78 ?_
            refine lv_iload_n hx hb dX6_step_81 rfl (lv_at hl 3 rfl) ?_
            refine lv_iconst (v := iz 0) hx hb dX6_step_82 (by decide) ?_
            refine ki_iast (F := F 23) hx hb hK hP hD hS 18 17 rfl rfl (by omega) (by omega) (by decide) dX6_step_83 (fun H locs hP hD hS => ?_)
            have hP : va_P (dC, dI) kxCl (mW mo ma cs I (va_up (va_up (va_up F 20 (upI (F 20) sd pa)) 22 (upI (F 22) sd (-1))) 23 (upI (F 23) sd 0))) H := hP
            have hD : va_D A (mW mo ma cs I (va_up (va_up (va_up F 20 (upI (F 20) sd pa)) 22 (upI (F 22) sd (-1))) 23 (upI (F 23) sd 0))) := hD
            refine lv_aload_n hx hb dX6_step_84 rfl (lv_at hl 2 rfl) ?_
            refine va_get (D := (dC, dI)) (ci := 6) (v := .ref (ma 24)) (C := RX6) (T := TX6) (N := 44) hx hb hts kt_X6 hown hK hP 0 rfl rfl 24 (by decide) (kx_word hG kq_05_morder_4 rfl) (fun _ h9 => h9) rfl dX6_step_85 ?_
            refine lv_iload_n hx hb dX6_step_88 rfl (lv_at hl 3 rfl) ?_
            refine lv_iconst (v := iz 0) hx hb dX6_step_89 (by decide) ?_
            refine ki_iast (F := F 24) hx hb hK hP hD hS 19 18 rfl rfl (by omega) (by omega) (by decide) dX6_step_90 (fun H locs hP hD hS => ?_)
            have hP : va_P (dC, dI) kxCl (mW mo ma cs I (va_up (va_up (va_up (va_up F 20 (upI (F 20) sd pa)) 22 (upI (F 22) sd (-1))) 23 (upI (F 23) sd 0)) 24 (upI (F 24) sd 0))) H := hP
            have hD : va_D A (mW mo ma cs I (va_up (va_up (va_up (va_up F 20 (upI (F 20) sd pa)) 22 (upI (F 22) sd (-1))) 23 (upI (F 23) sd 0)) 24 (upI (F 24) sd 0))) := hD
            refine lv_iload_n hx hb dX6_step_91 rfl (lv_at hl 1 rfl) ?_
            refine lv_aload_n hx hb dX6_step_92 rfl (lv_at hl 2 rfl) ?_
            refine va_get (D := (dC, dI)) (ci := 6) (v := .ref (ma 5)) (C := RX6) (T := TX6) (N := 44) hx hb hts kt_X6 hown hK hP 0 rfl rfl 5 (by decide) (kx_word hG kq_04_msmall_15 rfl) (fun _ h9 => h9) rfl dX6_step_93 ?_
            refine lv_iload_n hx hb dX6_step_96 rfl (lv_at hl 4 rfl) ?_
            refine ki_iald (F := F 5) hx hb hK hP 4 3 rfl rfl (by omega) (by omega) (by decide) dX6_step_97 ?_
            refine ki_icmp_ne (tgt := 102) hx hb dX6_step_98 (by decide) (by omega) (by omega) (by omega) (by omega) (fun c_378 => ?_) (fun c_378 => ?_)
            · skip
              refine lv_iload hx hb dX6_step_102 (lv_at hl 0 rfl) ?_
              refine ki_if_eq (tgt := 131) hx hb dX6_step_104 (by decide) (by omega) (by omega) (fun c_379 => ?_) (fun c_379 => ?_)
              · skip
                refine lv_aload_n hx hb dX6_step_131 rfl (lv_at hl 2 rfl) ?_
                refine va_get (D := (dC, dI)) (ci := 6) (v := .ref (ma 21)) (C := RX6) (T := TX6) (N := 44) hx hb hts kt_X6 hown hK hP 0 rfl rfl 21 (by decide) (kx_word hG kq_05_morder_1 rfl) (fun _ h9 => h9) rfl dX6_step_132 ?_
                refine lv_iload_n hx hb dX6_step_135 rfl (lv_at hl 3 rfl) ?_
                refine lv_iconst (v := iz 1) hx hb dX6_step_136 (by decide) ?_
                refine ki_zast (F := F 21) hx hb hK hP hD hS 16 15 rfl rfl (by omega) (by omega) (by decide) dX6_step_137 (fun H locs hP hD hS => ?_)
                have hP : va_P (dC, dI) kxCl (mW mo ma cs I (va_up (va_up (va_up (va_up (va_up F 20 (upI (F 20) sd pa)) 22 (upI (F 22) sd (-1))) 23 (upI (F 23) sd 0)) 24 (upI (F 24) sd 0)) 21 (upI (F 21) sd (vp_nar .boolean (iz 1)).toInt))) H := hP
                have hD : va_D A (mW mo ma cs I (va_up (va_up (va_up (va_up (va_up F 20 (upI (F 20) sd pa)) 22 (upI (F 22) sd (-1))) 23 (upI (F 23) sd 0)) 24 (upI (F 24) sd 0)) 21 (upI (F 21) sd (vp_nar .boolean (iz 1)).toInt))) := hD
                refine lv_aload_n hx hb dX6_step_138 rfl (lv_at hl 2 rfl) ?_
                refine va_get (D := (dC, dI)) (ci := 6) (v := .ref (ma 4)) (C := RX6) (T := TX6) (N := 44) hx hb hts kt_X6 hown hK hP 0 rfl rfl 4 (by decide) (kx_word hG kq_04_msmall_16 rfl) (fun _ h9 => h9) rfl dX6_step_139 ?_
                refine lv_bipush (v := iz 20) hx hb dX6_step_142 (by decide) ?_
                refine lv_iload_n hx hb dX6_step_144 rfl (lv_at hl 4 rfl) ?_
                refine ki_imul hx hb dX6_step_145 ?_
                refine lv_iload_n hx hb dX6_step_146 rfl (lv_at hl 1 rfl) ?_
                refine ki_iadd hx hb dX6_step_147 ?_
                refine ki_iald (F := F 4) hx hb hK hP 3 2 rfl rfl (by omega) (by omega) (by decide) dX6_step_148 ?_
                refine lv_istore (lv' := [(5, .int (iz (F 4 ((20 * p0) + pa)))), (4, .int (iz ps)), (3, .int (iz pa)), (0, .ref mo), (1, .int (iz sd)), (2, .int (iz p0))]) hx hb dX6_step_149 hl (by decide) rfl (fun ls hl => ?_)
                refine lv_iload hx hb dX6_step_151 (lv_at hl 0 rfl) ?_
                refine mk_calls (As := [.int (iz (F 4 ((20 * p0) + pa)))]) (rest := []) ⟨hx, hb, hml, hown, hts⟩ (k_letterOf l dC dI (F 4 ((20 * p0) + pa)) H.size (by omega) (by omega)) (va_cwS 1 hts (kx_gS kq_05_morder_5 kq_05_morder_6 kq_04_msmall_6 kq_05_morder_7 rfl) rfl rfl rfl (by decide +kernel) ⟨Nat.le_of_ble_eq_true rfl, Nat.le_of_ble_eq_true rfl⟩) hP hD hK hG hZ hS hA rfl hl.1 rfl (Nat.le_of_ble_eq_true rfl) dX6_step_153 ⟨Nat.le_of_ble_eq_true rfl, Nat.le_of_ble_eq_true rfl⟩ (fun z_380 H locs hq_381 hP hS => ?_)
                try dsimp only at hq_381
                refine ki_if_le (tgt := 187) hx hb dX6_step_156 (by decide) (by omega) (by omega) (fun c_382 => ?_) (fun c_382 => ?_)
                · skip
                  refine lv_iload_n hx hb dX6_step_187 rfl (lv_at hl 2 rfl) ?_
                  refine lv_iconst (v := iz 1) hx hb dX6_step_188 (by decide) ?_
                  refine ki_iadd hx hb dX6_step_189 ?_
                  refine lv_istore (lv' := [(6, .int (iz (pa + 1))), (5, .int (iz (F 4 ((20 * p0) + pa)))), (4, .int (iz ps)), (3, .int (iz pa)), (0, .ref mo), (1, .int (iz sd)), (2, .int (iz p0))]) hx hb dX6_step_190 hl (by decide) rfl (fun ls hl => ?_)
                  have lp192 : ∀ (n : Nat) (en : Int), ((pa + 1 ≤ en ∧ en ≤ F 5 p0)) → (F 5 p0 - en).toNat < n → ∀ (H : Heap) (locs : List Loc), va_P (dC, dI) kxCl (mW mo ma cs I (va_up (va_up (va_up (va_up (va_up F 20 (upI (F 20) sd pa)) 22 (upI (F 22) sd (-1))) 23 (upI (F 23) sd 0)) 24 (upI (F 24) sd 0)) 21 (upI (F 21) sd (vp_nar .boolean (iz 1)).toInt))) H → va_D A (mW mo ma cs I (va_up (va_up (va_up (va_up (va_up F 20 (upI (F 20) sd pa)) 22 (upI (F 22) sd (-1))) 23 (upI (F 23) sd 0)) 24 (upI (F 24) sd 0)) 21 (upI (F 21) sd (vp_nar .boolean (iz 1)).toInt))) → va_S A s.heap H locs → ∀ ls : Array Slot, lv_has ls 7 [(6, .int (iz en)), (5, .int (iz (F 4 ((20 * p0) + pa)))), (4, .int (iz ps)), (3, .int (iz pa)), (0, .ref mo), (1, .int (iz sd)), (2, .int (iz p0))] → W p l e (headSpec [.code yX6_step cX6_step 7 none] ({ frames := 1, cells := 0, slots := 0, locals := 21 })).room s m ([.ref mo, .int (iz sd), .int (iz p0)] : List Value).toArray below meth c H locs 0 0 QQ (F0 m 192 ls []) := by
                    intro n
                    induction n with
                    | zero => intro en hinv hm; exact absurd hm (Nat.not_lt_zero _)
                    | succ n ih192 =>
                      intro en hinv hm H locs hP hD hS ls hl
                      have hen := hinv
                      refine lv_aload_n hx hb dX6_step_192 rfl (lv_at hl 4 rfl) ?_
                      refine va_get (D := (dC, dI)) (ci := 6) (v := .int (iz (I 14))) (C := RX6) (T := TX6) (N := 44) hx hb hts kt_X6 hown hK hP 0 rfl rfl 14 (by decide) (kx_word hG kq_04_msmall_17 rfl) (fun _ h9 => h9) rfl dX6_step_193 ?_
                      have hbd_383 := hB.1 14
                      refine ki_if_eq (tgt := 234) hx hb dX6_step_196 (by decide) (by omega) (by omega) (fun c_384 => ?_) (fun c_384 => ?_)
                      · skip
                        have lp234 : ∀ (n : Nat) (pz : Int), ((pa ≤ pz ∧ pz ≤ en)) → (en - pz).toNat < n → ∀ (H : Heap) (locs : List Loc), va_P (dC, dI) kxCl (mW mo ma cs I (va_up (va_up (va_up (va_up (va_up F 20 (upI (F 20) sd pa)) 22 (upI (F 22) sd (-1))) 23 (upI (F 23) sd 0)) 24 (upI (F 24) sd 0)) 21 (upI (F 21) sd (vp_nar .boolean (iz 1)).toInt))) H → va_D A (mW mo ma cs I (va_up (va_up (va_up (va_up (va_up F 20 (upI (F 20) sd pa)) 22 (upI (F 22) sd (-1))) 23 (upI (F 23) sd 0)) 24 (upI (F 24) sd 0)) 21 (upI (F 21) sd (vp_nar .boolean (iz 1)).toInt))) → va_S A s.heap H locs → ∀ ls : Array Slot, lv_has ls 7 [(6, .int (iz en)), (5, .int (iz (F 4 ((20 * p0) + pa)))), (4, .int (iz ps)), (3, .int (iz pz)), (0, .ref mo), (1, .int (iz sd)), (2, .int (iz p0))] → W p l e (headSpec [.code yX6_step cX6_step 7 none] ({ frames := 1, cells := 0, slots := 0, locals := 21 })).room s m ([.ref mo, .int (iz sd), .int (iz p0)] : List Value).toArray below meth c H locs 0 0 QQ (F0 m 234 ls []) := by
                          intro n
                          induction n with
                          | zero => intro pz hinv hm; exact absurd hm (Nat.not_lt_zero _)
                          | succ n ih234 =>
                            intro pz hinv hm H locs hP hD hS ls hl
                            have hpz := hinv
                            refine lv_iload_n hx hb dX6_step_234 rfl (lv_at hl 3 rfl) ?_
                            refine lv_iload hx hb dX6_step_235 (lv_at hl 0 rfl) ?_
                            refine ki_icmp_ge (tgt := 262) hx hb dX6_step_237 (by decide) (by omega) (by omega) (by omega) (by omega) (fun c_385 => ?_) (fun c_385 => ?_)
                            · skip
                              refine lv_aload_n hx hb dX6_step_262 rfl (lv_at hl 4 rfl) ?_
                              refine va_get (D := (dC, dI)) (ci := 6) (v := .ref (ma 22)) (C := RX6) (T := TX6) (N := 44) hx hb hts kt_X6 hown hK hP 0 rfl rfl 22 (by decide) (kx_word hG kq_05_morder_2 rfl) (fun _ h9 => h9) rfl dX6_step_263 ?_
                              refine lv_iload_n hx hb dX6_step_266 rfl (lv_at hl 5 rfl) ?_
                              refine lv_iconst (v := iz 1) hx hb dX6_step_267 (by decide) ?_
                              refine ki_iast (F := upI (F 22) sd (-1)) hx hb hK hP hD hS 17 16 rfl rfl (by omega) (by omega) (by decide) dX6_step_268 (fun H locs hP hD hS => ?_)
                              have hP : va_P (dC, dI) kxCl (mW mo ma cs I (va_up (va_up (va_up (va_up (va_up (va_up F 20 (upI (F 20) sd pa)) 22 (upI (F 22) sd (-1))) 23 (upI (F 23) sd 0)) 24 (upI (F 24) sd 0)) 21 (upI (F 21) sd (vp_nar .boolean (iz 1)).toInt)) 22 (upI (upI (F 22) sd (-1)) sd 1))) H := hP
                              have hD : va_D A (mW mo ma cs I (va_up (va_up (va_up (va_up (va_up (va_up F 20 (upI (F 20) sd pa)) 22 (upI (F 22) sd (-1))) 23 (upI (F 23) sd 0)) 24 (upI (F 24) sd 0)) 21 (upI (F 21) sd (vp_nar .boolean (iz 1)).toInt)) 22 (upI (upI (F 22) sd (-1)) sd 1))) := hD
                              refine lv_aload_n hx hb dX6_step_269 rfl (lv_at hl 4 rfl) ?_
                              refine va_get (D := (dC, dI)) (ci := 6) (v := .ref (ma 23)) (C := RX6) (T := TX6) (N := 44) hx hb hts kt_X6 hown hK hP 0 rfl rfl 23 (by decide) (kx_word hG kq_05_morder_3 rfl) (fun _ h9 => h9) rfl dX6_step_270 ?_
                              refine lv_iload_n hx hb dX6_step_273 rfl (lv_at hl 5 rfl) ?_
                              refine lv_bipush (v := iz 20) hx hb dX6_step_274 (by decide) ?_
                              refine lv_iload_n hx hb dX6_step_276 rfl (lv_at hl 6 rfl) ?_
                              refine ki_imul hx hb dX6_step_277 ?_
                              refine lv_iload_n hx hb dX6_step_278 rfl (lv_at hl 3 rfl) ?_
                              refine ki_iadd hx hb dX6_step_279 ?_
                              refine ki_iast (F := upI (F 23) sd 0) hx hb hK hP hD hS 18 17 rfl rfl (by omega) (by omega) (by decide) dX6_step_280 (fun H locs hP hD hS => ?_)
                              have hP : va_P (dC, dI) kxCl (mW mo ma cs I (va_up (va_up (va_up (va_up (va_up (va_up (va_up F 20 (upI (F 20) sd pa)) 22 (upI (F 22) sd (-1))) 23 (upI (F 23) sd 0)) 24 (upI (F 24) sd 0)) 21 (upI (F 21) sd (vp_nar .boolean (iz 1)).toInt)) 22 (upI (upI (F 22) sd (-1)) sd 1)) 23 (upI (upI (F 23) sd 0) sd ((20 * p0) + pz)))) H := hP
                              have hD : va_D A (mW mo ma cs I (va_up (va_up (va_up (va_up (va_up (va_up (va_up F 20 (upI (F 20) sd pa)) 22 (upI (F 22) sd (-1))) 23 (upI (F 23) sd 0)) 24 (upI (F 24) sd 0)) 21 (upI (F 21) sd (vp_nar .boolean (iz 1)).toInt)) 22 (upI (upI (F 22) sd (-1)) sd 1)) 23 (upI (upI (F 23) sd 0) sd ((20 * p0) + pz)))) := hD
                              refine lv_aload_n hx hb dX6_step_281 rfl (lv_at hl 4 rfl) ?_
                              refine va_get (D := (dC, dI)) (ci := 6) (v := .ref (ma 24)) (C := RX6) (T := TX6) (N := 44) hx hb hts kt_X6 hown hK hP 0 rfl rfl 24 (by decide) (kx_word hG kq_05_morder_4 rfl) (fun _ h9 => h9) rfl dX6_step_282 ?_
                              refine lv_iload_n hx hb dX6_step_285 rfl (lv_at hl 5 rfl) ?_
                              refine lv_iload hx hb dX6_step_286 (lv_at hl 0 rfl) ?_
                              refine lv_iload_n hx hb dX6_step_288 rfl (lv_at hl 3 rfl) ?_
                              refine ki_isub hx hb dX6_step_289 ?_
                              refine ki_iast (F := upI (F 24) sd 0) hx hb hK hP hD hS 19 18 rfl rfl (by omega) (by omega) (by decide) dX6_step_290 (fun H locs hP hD hS => ?_)
                              have hP : va_P (dC, dI) kxCl (mW mo ma cs I (va_up (va_up (va_up (va_up (va_up (va_up (va_up (va_up F 20 (upI (F 20) sd pa)) 22 (upI (F 22) sd (-1))) 23 (upI (F 23) sd 0)) 24 (upI (F 24) sd 0)) 21 (upI (F 21) sd (vp_nar .boolean (iz 1)).toInt)) 22 (upI (upI (F 22) sd (-1)) sd 1)) 23 (upI (upI (F 23) sd 0) sd ((20 * p0) + pz))) 24 (upI (upI (F 24) sd 0) sd (en - pz)))) H := hP
                              have hD : va_D A (mW mo ma cs I (va_up (va_up (va_up (va_up (va_up (va_up (va_up (va_up F 20 (upI (F 20) sd pa)) 22 (upI (F 22) sd (-1))) 23 (upI (F 23) sd 0)) 24 (upI (F 24) sd 0)) 21 (upI (F 21) sd (vp_nar .boolean (iz 1)).toInt)) 22 (upI (upI (F 22) sd (-1)) sd 1)) 23 (upI (upI (F 23) sd 0) sd ((20 * p0) + pz))) 24 (upI (upI (F 24) sd 0) sd (en - pz)))) := hD
                              refine lv_aload_n hx hb dX6_step_291 rfl (lv_at hl 4 rfl) ?_
                              refine va_get (D := (dC, dI)) (ci := 6) (v := .ref (ma 20)) (C := RX6) (T := TX6) (N := 44) hx hb hts kt_X6 hown hK hP 0 rfl rfl 20 (by decide) (kx_word hG kq_05_morder_0 rfl) (fun _ h9 => h9) rfl dX6_step_292 ?_
                              refine lv_iload_n hx hb dX6_step_295 rfl (lv_at hl 5 rfl) ?_
                              refine lv_iload hx hb dX6_step_296 (lv_at hl 0 rfl) ?_
                              refine ki_iast (F := upI (F 20) sd pa) hx hb hK hP hD hS 15 14 rfl rfl (by omega) (by omega) (by decide) dX6_step_298 (fun H locs hP hD hS => ?_)
                              have hP : va_P (dC, dI) kxCl (mW mo ma cs I (va_up (va_up (va_up (va_up (va_up (va_up (va_up (va_up (va_up F 20 (upI (F 20) sd pa)) 22 (upI (F 22) sd (-1))) 23 (upI (F 23) sd 0)) 24 (upI (F 24) sd 0)) 21 (upI (F 21) sd (vp_nar .boolean (iz 1)).toInt)) 22 (upI (upI (F 22) sd (-1)) sd 1)) 23 (upI (upI (F 23) sd 0) sd ((20 * p0) + pz))) 24 (upI (upI (F 24) sd 0) sd (en - pz))) 20 (upI (upI (F 20) sd pa) sd en))) H := hP
                              have hD : va_D A (mW mo ma cs I (va_up (va_up (va_up (va_up (va_up (va_up (va_up (va_up (va_up F 20 (upI (F 20) sd pa)) 22 (upI (F 22) sd (-1))) 23 (upI (F 23) sd 0)) 24 (upI (F 24) sd 0)) 21 (upI (F 21) sd (vp_nar .boolean (iz 1)).toInt)) 22 (upI (upI (F 22) sd (-1)) sd 1)) 23 (upI (upI (F 23) sd 0) sd ((20 * p0) + pz))) 24 (upI (upI (F 24) sd 0) sd (en - pz))) 20 (upI (upI (F 20) sd pa) sd en))) := hD
                              have e_386 : (va_up (va_up (va_up (va_up (va_up (va_up (va_up (va_up (va_up F 20 (upI (F 20) sd pa)) 22 (upI (F 22) sd (-1))) 23 (upI (F 23) sd 0)) 24 (upI (F 24) sd 0)) 21 (upI (F 21) sd (vp_nar .boolean (iz 1)).toInt)) 22 (upI (upI (F 22) sd (-1)) sd 1)) 23 (upI (upI (F 23) sd 0) sd ((20 * p0) + pz))) 24 (upI (upI (F 24) sd 0) sd (en - pz))) 20 (upI (upI (F 20) sd pa) sd en)) 20 sd = en := upI_self _ _ _
                              have e_387 : (va_up (va_up (va_up (va_up (va_up (va_up (va_up (va_up (va_up F 20 (upI (F 20) sd pa)) 22 (upI (F 22) sd (-1))) 23 (upI (F 23) sd 0)) 24 (upI (F 24) sd 0)) 21 (upI (F 21) sd (vp_nar .boolean (iz 1)).toInt)) 22 (upI (upI (F 22) sd (-1)) sd 1)) 23 (upI (upI (F 23) sd 0) sd ((20 * p0) + pz))) 24 (upI (upI (F 24) sd 0) sd (en - pz))) 20 (upI (upI (F 20) sd pa) sd en)) 22 sd = 1 := upI_self _ _ _
                              have e_388 : (va_up (va_up (va_up (va_up (va_up (va_up (va_up (va_up (va_up F 20 (upI (F 20) sd pa)) 22 (upI (F 22) sd (-1))) 23 (upI (F 23) sd 0)) 24 (upI (F 24) sd 0)) 21 (upI (F 21) sd (vp_nar .boolean (iz 1)).toInt)) 22 (upI (upI (F 22) sd (-1)) sd 1)) 23 (upI (upI (F 23) sd 0) sd ((20 * p0) + pz))) 24 (upI (upI (F 24) sd 0) sd (en - pz))) 20 (upI (upI (F 20) sd pa) sd en)) 23 sd = (20 * p0) + pz := upI_self _ _ _
                              have e_389 : (va_up (va_up (va_up (va_up (va_up (va_up (va_up (va_up (va_up F 20 (upI (F 20) sd pa)) 22 (upI (F 22) sd (-1))) 23 (upI (F 23) sd 0)) 24 (upI (F 24) sd 0)) 21 (upI (F 21) sd (vp_nar .boolean (iz 1)).toInt)) 22 (upI (upI (F 22) sd (-1)) sd 1)) 23 (upI (upI (F 23) sd 0) sd ((20 * p0) + pz))) 24 (upI (upI (F 24) sd 0) sd (en - pz))) 20 (upI (upI (F 20) sd pa) sd en)) 24 sd = en - pz := upI_self _ _ _
                              have e_390 : (va_up (va_up (va_up (va_up (va_up (va_up (va_up (va_up (va_up F 20 (upI (F 20) sd pa)) 22 (upI (F 22) sd (-1))) 23 (upI (F 23) sd 0)) 24 (upI (F 24) sd 0)) 21 (upI (F 21) sd (vp_nar .boolean (iz 1)).toInt)) 22 (upI (upI (F 22) sd (-1)) sd 1)) 23 (upI (upI (F 23) sd 0) sd ((20 * p0) + pz))) 24 (upI (upI (F 24) sd 0) sd (en - pz))) 20 (upI (upI (F 20) sd pa) sd en)) 21 sd = (vp_nar .boolean (iz 1)).toInt := upI_self _ _ _
                              rw [← hQe]
                              exact mk_ret hx hb hr hlocks hP hD hK hS dX6_step_299 (⟨rfl, (mB_f (mB_f (mB_f (mB_f (mB_f (mB_f (mB_f (mB_f (mB_f hB 20 sd (by omega) (by omega)) 22 sd (by omega) (by omega)) 23 sd (by omega) (by omega)) 24 sd (by omega) (by omega)) 21 sd (iz_lo _) (iz_hi _)) 22 sd (by omega) (by omega)) 23 sd (by omega) (by omega)) 24 sd (by omega) (by omega)) 20 sd (by omega) (by omega)), (mfr.upF (mfr.upF (mfr.upF (mfr.upF (mfr.upF (mfr.upF (mfr.upF (mfr.upF (mfr.upF mfr.rf (by decide) _) (by decide) _) (by decide) _) (by decide) _) (by decide) _) (by decide) _) (by decide) _) (by decide) _) (by decide) _), (mo1.up (mo1.up (mo1.up (mo1.up (mo1.up (mo1.up (mo1.up (mo1.up (mo1.up mo1.rf 20 _) 22 _) 23 _) 24 _) 21 _) 22 _) 23 _) 24 _) 20 _), by omega, by omega, by omega⟩)
                            · skip
                              refine lv_aload_n hx hb dX6_step_240 rfl (lv_at hl 4 rfl) ?_
                              refine va_get (D := (dC, dI)) (ci := 6) (v := .ref (ma 4)) (C := RX6) (T := TX6) (N := 44) hx hb hts kt_X6 hown hK hP 0 rfl rfl 4 (by decide) (kx_word hG kq_04_msmall_16 rfl) (fun _ h9 => h9) rfl dX6_step_241 ?_
                              refine lv_bipush (v := iz 20) hx hb dX6_step_244 (by decide) ?_
                              refine lv_iload_n hx hb dX6_step_246 rfl (lv_at hl 6 rfl) ?_
                              refine ki_imul hx hb dX6_step_247 ?_
                              refine lv_iload_n hx hb dX6_step_248 rfl (lv_at hl 3 rfl) ?_
                              refine ki_iadd hx hb dX6_step_249 ?_
                              refine ki_iald (F := F 4) hx hb hK hP 3 2 rfl rfl (by omega) (by omega) (by decide) dX6_step_250 ?_
                              have hbd_391 := hB.2 4 ((20 * p0) + pz)
                              refine lv_bipush (v := iz 48) hx hb dX6_step_251 (by decide) ?_
                              refine ki_icmp_ne (tgt := 262) hx hb dX6_step_253 (by decide) (by omega) (by omega) (by omega) (by omega) (fun c_392 => ?_) (fun c_392 => ?_)
                              · skip
                                refine lv_aload_n hx hb dX6_step_262 rfl (lv_at hl 4 rfl) ?_
                                refine va_get (D := (dC, dI)) (ci := 6) (v := .ref (ma 22)) (C := RX6) (T := TX6) (N := 44) hx hb hts kt_X6 hown hK hP 0 rfl rfl 22 (by decide) (kx_word hG kq_05_morder_2 rfl) (fun _ h9 => h9) rfl dX6_step_263 ?_
                                refine lv_iload_n hx hb dX6_step_266 rfl (lv_at hl 5 rfl) ?_
                                refine lv_iconst (v := iz 1) hx hb dX6_step_267 (by decide) ?_
                                refine ki_iast (F := upI (F 22) sd (-1)) hx hb hK hP hD hS 17 16 rfl rfl (by omega) (by omega) (by decide) dX6_step_268 (fun H locs hP hD hS => ?_)
                                have hP : va_P (dC, dI) kxCl (mW mo ma cs I (va_up (va_up (va_up (va_up (va_up (va_up F 20 (upI (F 20) sd pa)) 22 (upI (F 22) sd (-1))) 23 (upI (F 23) sd 0)) 24 (upI (F 24) sd 0)) 21 (upI (F 21) sd (vp_nar .boolean (iz 1)).toInt)) 22 (upI (upI (F 22) sd (-1)) sd 1))) H := hP
                                have hD : va_D A (mW mo ma cs I (va_up (va_up (va_up (va_up (va_up (va_up F 20 (upI (F 20) sd pa)) 22 (upI (F 22) sd (-1))) 23 (upI (F 23) sd 0)) 24 (upI (F 24) sd 0)) 21 (upI (F 21) sd (vp_nar .boolean (iz 1)).toInt)) 22 (upI (upI (F 22) sd (-1)) sd 1))) := hD
                                refine lv_aload_n hx hb dX6_step_269 rfl (lv_at hl 4 rfl) ?_
                                refine va_get (D := (dC, dI)) (ci := 6) (v := .ref (ma 23)) (C := RX6) (T := TX6) (N := 44) hx hb hts kt_X6 hown hK hP 0 rfl rfl 23 (by decide) (kx_word hG kq_05_morder_3 rfl) (fun _ h9 => h9) rfl dX6_step_270 ?_
                                refine lv_iload_n hx hb dX6_step_273 rfl (lv_at hl 5 rfl) ?_
                                refine lv_bipush (v := iz 20) hx hb dX6_step_274 (by decide) ?_
                                refine lv_iload_n hx hb dX6_step_276 rfl (lv_at hl 6 rfl) ?_
                                refine ki_imul hx hb dX6_step_277 ?_
                                refine lv_iload_n hx hb dX6_step_278 rfl (lv_at hl 3 rfl) ?_
                                refine ki_iadd hx hb dX6_step_279 ?_
                                refine ki_iast (F := upI (F 23) sd 0) hx hb hK hP hD hS 18 17 rfl rfl (by omega) (by omega) (by decide) dX6_step_280 (fun H locs hP hD hS => ?_)
                                have hP : va_P (dC, dI) kxCl (mW mo ma cs I (va_up (va_up (va_up (va_up (va_up (va_up (va_up F 20 (upI (F 20) sd pa)) 22 (upI (F 22) sd (-1))) 23 (upI (F 23) sd 0)) 24 (upI (F 24) sd 0)) 21 (upI (F 21) sd (vp_nar .boolean (iz 1)).toInt)) 22 (upI (upI (F 22) sd (-1)) sd 1)) 23 (upI (upI (F 23) sd 0) sd ((20 * p0) + pz)))) H := hP
                                have hD : va_D A (mW mo ma cs I (va_up (va_up (va_up (va_up (va_up (va_up (va_up F 20 (upI (F 20) sd pa)) 22 (upI (F 22) sd (-1))) 23 (upI (F 23) sd 0)) 24 (upI (F 24) sd 0)) 21 (upI (F 21) sd (vp_nar .boolean (iz 1)).toInt)) 22 (upI (upI (F 22) sd (-1)) sd 1)) 23 (upI (upI (F 23) sd 0) sd ((20 * p0) + pz)))) := hD
                                refine lv_aload_n hx hb dX6_step_281 rfl (lv_at hl 4 rfl) ?_
                                refine va_get (D := (dC, dI)) (ci := 6) (v := .ref (ma 24)) (C := RX6) (T := TX6) (N := 44) hx hb hts kt_X6 hown hK hP 0 rfl rfl 24 (by decide) (kx_word hG kq_05_morder_4 rfl) (fun _ h9 => h9) rfl dX6_step_282 ?_
                                refine lv_iload_n hx hb dX6_step_285 rfl (lv_at hl 5 rfl) ?_
                                refine lv_iload hx hb dX6_step_286 (lv_at hl 0 rfl) ?_
                                refine lv_iload_n hx hb dX6_step_288 rfl (lv_at hl 3 rfl) ?_
                                refine ki_isub hx hb dX6_step_289 ?_
                                refine ki_iast (F := upI (F 24) sd 0) hx hb hK hP hD hS 19 18 rfl rfl (by omega) (by omega) (by decide) dX6_step_290 (fun H locs hP hD hS => ?_)
                                have hP : va_P (dC, dI) kxCl (mW mo ma cs I (va_up (va_up (va_up (va_up (va_up (va_up (va_up (va_up F 20 (upI (F 20) sd pa)) 22 (upI (F 22) sd (-1))) 23 (upI (F 23) sd 0)) 24 (upI (F 24) sd 0)) 21 (upI (F 21) sd (vp_nar .boolean (iz 1)).toInt)) 22 (upI (upI (F 22) sd (-1)) sd 1)) 23 (upI (upI (F 23) sd 0) sd ((20 * p0) + pz))) 24 (upI (upI (F 24) sd 0) sd (en - pz)))) H := hP
                                have hD : va_D A (mW mo ma cs I (va_up (va_up (va_up (va_up (va_up (va_up (va_up (va_up F 20 (upI (F 20) sd pa)) 22 (upI (F 22) sd (-1))) 23 (upI (F 23) sd 0)) 24 (upI (F 24) sd 0)) 21 (upI (F 21) sd (vp_nar .boolean (iz 1)).toInt)) 22 (upI (upI (F 22) sd (-1)) sd 1)) 23 (upI (upI (F 23) sd 0) sd ((20 * p0) + pz))) 24 (upI (upI (F 24) sd 0) sd (en - pz)))) := hD
                                refine lv_aload_n hx hb dX6_step_291 rfl (lv_at hl 4 rfl) ?_
                                refine va_get (D := (dC, dI)) (ci := 6) (v := .ref (ma 20)) (C := RX6) (T := TX6) (N := 44) hx hb hts kt_X6 hown hK hP 0 rfl rfl 20 (by decide) (kx_word hG kq_05_morder_0 rfl) (fun _ h9 => h9) rfl dX6_step_292 ?_
                                refine lv_iload_n hx hb dX6_step_295 rfl (lv_at hl 5 rfl) ?_
                                refine lv_iload hx hb dX6_step_296 (lv_at hl 0 rfl) ?_
                                refine ki_iast (F := upI (F 20) sd pa) hx hb hK hP hD hS 15 14 rfl rfl (by omega) (by omega) (by decide) dX6_step_298 (fun H locs hP hD hS => ?_)
                                have hP : va_P (dC, dI) kxCl (mW mo ma cs I (va_up (va_up (va_up (va_up (va_up (va_up (va_up (va_up (va_up F 20 (upI (F 20) sd pa)) 22 (upI (F 22) sd (-1))) 23 (upI (F 23) sd 0)) 24 (upI (F 24) sd 0)) 21 (upI (F 21) sd (vp_nar .boolean (iz 1)).toInt)) 22 (upI (upI (F 22) sd (-1)) sd 1)) 23 (upI (upI (F 23) sd 0) sd ((20 * p0) + pz))) 24 (upI (upI (F 24) sd 0) sd (en - pz))) 20 (upI (upI (F 20) sd pa) sd en))) H := hP
                                have hD : va_D A (mW mo ma cs I (va_up (va_up (va_up (va_up (va_up (va_up (va_up (va_up (va_up F 20 (upI (F 20) sd pa)) 22 (upI (F 22) sd (-1))) 23 (upI (F 23) sd 0)) 24 (upI (F 24) sd 0)) 21 (upI (F 21) sd (vp_nar .boolean (iz 1)).toInt)) 22 (upI (upI (F 22) sd (-1)) sd 1)) 23 (upI (upI (F 23) sd 0) sd ((20 * p0) + pz))) 24 (upI (upI (F 24) sd 0) sd (en - pz))) 20 (upI (upI (F 20) sd pa) sd en))) := hD
                                have e_393 : (va_up (va_up (va_up (va_up (va_up (va_up (va_up (va_up (va_up F 20 (upI (F 20) sd pa)) 22 (upI (F 22) sd (-1))) 23 (upI (F 23) sd 0)) 24 (upI (F 24) sd 0)) 21 (upI (F 21) sd (vp_nar .boolean (iz 1)).toInt)) 22 (upI (upI (F 22) sd (-1)) sd 1)) 23 (upI (upI (F 23) sd 0) sd ((20 * p0) + pz))) 24 (upI (upI (F 24) sd 0) sd (en - pz))) 20 (upI (upI (F 20) sd pa) sd en)) 20 sd = en := upI_self _ _ _
                                have e_394 : (va_up (va_up (va_up (va_up (va_up (va_up (va_up (va_up (va_up F 20 (upI (F 20) sd pa)) 22 (upI (F 22) sd (-1))) 23 (upI (F 23) sd 0)) 24 (upI (F 24) sd 0)) 21 (upI (F 21) sd (vp_nar .boolean (iz 1)).toInt)) 22 (upI (upI (F 22) sd (-1)) sd 1)) 23 (upI (upI (F 23) sd 0) sd ((20 * p0) + pz))) 24 (upI (upI (F 24) sd 0) sd (en - pz))) 20 (upI (upI (F 20) sd pa) sd en)) 22 sd = 1 := upI_self _ _ _
                                have e_395 : (va_up (va_up (va_up (va_up (va_up (va_up (va_up (va_up (va_up F 20 (upI (F 20) sd pa)) 22 (upI (F 22) sd (-1))) 23 (upI (F 23) sd 0)) 24 (upI (F 24) sd 0)) 21 (upI (F 21) sd (vp_nar .boolean (iz 1)).toInt)) 22 (upI (upI (F 22) sd (-1)) sd 1)) 23 (upI (upI (F 23) sd 0) sd ((20 * p0) + pz))) 24 (upI (upI (F 24) sd 0) sd (en - pz))) 20 (upI (upI (F 20) sd pa) sd en)) 23 sd = (20 * p0) + pz := upI_self _ _ _
                                have e_396 : (va_up (va_up (va_up (va_up (va_up (va_up (va_up (va_up (va_up F 20 (upI (F 20) sd pa)) 22 (upI (F 22) sd (-1))) 23 (upI (F 23) sd 0)) 24 (upI (F 24) sd 0)) 21 (upI (F 21) sd (vp_nar .boolean (iz 1)).toInt)) 22 (upI (upI (F 22) sd (-1)) sd 1)) 23 (upI (upI (F 23) sd 0) sd ((20 * p0) + pz))) 24 (upI (upI (F 24) sd 0) sd (en - pz))) 20 (upI (upI (F 20) sd pa) sd en)) 24 sd = en - pz := upI_self _ _ _
                                have e_397 : (va_up (va_up (va_up (va_up (va_up (va_up (va_up (va_up (va_up F 20 (upI (F 20) sd pa)) 22 (upI (F 22) sd (-1))) 23 (upI (F 23) sd 0)) 24 (upI (F 24) sd 0)) 21 (upI (F 21) sd (vp_nar .boolean (iz 1)).toInt)) 22 (upI (upI (F 22) sd (-1)) sd 1)) 23 (upI (upI (F 23) sd 0) sd ((20 * p0) + pz))) 24 (upI (upI (F 24) sd 0) sd (en - pz))) 20 (upI (upI (F 20) sd pa) sd en)) 21 sd = (vp_nar .boolean (iz 1)).toInt := upI_self _ _ _
                                rw [← hQe]
                                exact mk_ret hx hb hr hlocks hP hD hK hS dX6_step_299 (⟨rfl, (mB_f (mB_f (mB_f (mB_f (mB_f (mB_f (mB_f (mB_f (mB_f hB 20 sd (by omega) (by omega)) 22 sd (by omega) (by omega)) 23 sd (by omega) (by omega)) 24 sd (by omega) (by omega)) 21 sd (iz_lo _) (iz_hi _)) 22 sd (by omega) (by omega)) 23 sd (by omega) (by omega)) 24 sd (by omega) (by omega)) 20 sd (by omega) (by omega)), (mfr.upF (mfr.upF (mfr.upF (mfr.upF (mfr.upF (mfr.upF (mfr.upF (mfr.upF (mfr.upF mfr.rf (by decide) _) (by decide) _) (by decide) _) (by decide) _) (by decide) _) (by decide) _) (by decide) _) (by decide) _) (by decide) _), (mo1.up (mo1.up (mo1.up (mo1.up (mo1.up (mo1.up (mo1.up (mo1.up (mo1.up mo1.rf 20 _) 22 _) 23 _) 24 _) 21 _) 22 _) 23 _) 24 _) 20 _), by omega, by omega, by omega⟩)
                              · skip
                                refine lv_iinc (v := iz (pz + 1)) (lv' := [(3, .int (iz (pz + 1))), (6, .int (iz en)), (5, .int (iz (F 4 ((20 * p0) + pa)))), (4, .int (iz ps)), (0, .ref mo), (1, .int (iz sd)), (2, .int (iz p0))]) hx hb dX6_step_256 hl (k := 3) rfl (iz_add pz 1) (by decide) rfl (fun ls hl => ?_)
                                refine lv_goto (tgt := 234) hx hb dX6_step_259 (by decide) ?_
                                exact ih234 (pz + 1) (by omega) (by omega) _ _ hP hD hS ls (lv_sub hl [1, 2, 3, 0, 4, 5, 6] rfl)
                        exact lp234 _ pa (by omega) (Nat.lt_succ_self _) _ _ hP hD hS ls (lv_sub hl [0, 1, 2, 3, 4, 5, 6] rfl)
                      · skip
                        refine lv_iload hx hb dX6_step_199 (lv_at hl 0 rfl) ?_
                        refine lv_aload_n hx hb dX6_step_201 rfl (lv_at hl 4 rfl) ?_
                        refine va_get (D := (dC, dI)) (ci := 6) (v := .ref (ma 5)) (C := RX6) (T := TX6) (N := 44) hx hb hts kt_X6 hown hK hP 0 rfl rfl 5 (by decide) (kx_word hG kq_04_msmall_15 rfl) (fun _ h9 => h9) rfl dX6_step_202 ?_
                        refine lv_iload_n hx hb dX6_step_205 rfl (lv_at hl 6 rfl) ?_
                        refine ki_iald (F := F 5) hx hb hK hP 4 3 rfl rfl (by omega) (by omega) (by decide) dX6_step_206 ?_
                        refine ki_icmp_ge (tgt := 234) hx hb dX6_step_207 (by decide) (by omega) (by omega) (by omega) (by omega) (fun c_398 => ?_) (fun c_398 => ?_)
                        · skip
                          have lp234 : ∀ (n : Nat) (pz : Int), ((pa ≤ pz ∧ pz ≤ en)) → (en - pz).toNat < n → ∀ (H : Heap) (locs : List Loc), va_P (dC, dI) kxCl (mW mo ma cs I (va_up (va_up (va_up (va_up (va_up F 20 (upI (F 20) sd pa)) 22 (upI (F 22) sd (-1))) 23 (upI (F 23) sd 0)) 24 (upI (F 24) sd 0)) 21 (upI (F 21) sd (vp_nar .boolean (iz 1)).toInt))) H → va_D A (mW mo ma cs I (va_up (va_up (va_up (va_up (va_up F 20 (upI (F 20) sd pa)) 22 (upI (F 22) sd (-1))) 23 (upI (F 23) sd 0)) 24 (upI (F 24) sd 0)) 21 (upI (F 21) sd (vp_nar .boolean (iz 1)).toInt))) → va_S A s.heap H locs → ∀ ls : Array Slot, lv_has ls 7 [(6, .int (iz en)), (5, .int (iz (F 4 ((20 * p0) + pa)))), (4, .int (iz ps)), (3, .int (iz pz)), (0, .ref mo), (1, .int (iz sd)), (2, .int (iz p0))] → W p l e (headSpec [.code yX6_step cX6_step 7 none] ({ frames := 1, cells := 0, slots := 0, locals := 21 })).room s m ([.ref mo, .int (iz sd), .int (iz p0)] : List Value).toArray below meth c H locs 0 0 QQ (F0 m 234 ls []) := by
                            intro n
                            induction n with
                            | zero => intro pz hinv hm; exact absurd hm (Nat.not_lt_zero _)
                            | succ n ih234 =>
                              intro pz hinv hm H locs hP hD hS ls hl
                              have hpz := hinv
                              refine lv_iload_n hx hb dX6_step_234 rfl (lv_at hl 3 rfl) ?_
                              refine lv_iload hx hb dX6_step_235 (lv_at hl 0 rfl) ?_
                              refine ki_icmp_ge (tgt := 262) hx hb dX6_step_237 (by decide) (by omega) (by omega) (by omega) (by omega) (fun c_399 => ?_) (fun c_399 => ?_)
                              · skip
                                refine lv_aload_n hx hb dX6_step_262 rfl (lv_at hl 4 rfl) ?_
                                refine va_get (D := (dC, dI)) (ci := 6) (v := .ref (ma 22)) (C := RX6) (T := TX6) (N := 44) hx hb hts kt_X6 hown hK hP 0 rfl rfl 22 (by decide) (kx_word hG kq_05_morder_2 rfl) (fun _ h9 => h9) rfl dX6_step_263 ?_
                                refine lv_iload_n hx hb dX6_step_266 rfl (lv_at hl 5 rfl) ?_
                                refine lv_iconst (v := iz 1) hx hb dX6_step_267 (by decide) ?_
                                refine ki_iast (F := upI (F 22) sd (-1)) hx hb hK hP hD hS 17 16 rfl rfl (by omega) (by omega) (by decide) dX6_step_268 (fun H locs hP hD hS => ?_)
                                have hP : va_P (dC, dI) kxCl (mW mo ma cs I (va_up (va_up (va_up (va_up (va_up (va_up F 20 (upI (F 20) sd pa)) 22 (upI (F 22) sd (-1))) 23 (upI (F 23) sd 0)) 24 (upI (F 24) sd 0)) 21 (upI (F 21) sd (vp_nar .boolean (iz 1)).toInt)) 22 (upI (upI (F 22) sd (-1)) sd 1))) H := hP
                                have hD : va_D A (mW mo ma cs I (va_up (va_up (va_up (va_up (va_up (va_up F 20 (upI (F 20) sd pa)) 22 (upI (F 22) sd (-1))) 23 (upI (F 23) sd 0)) 24 (upI (F 24) sd 0)) 21 (upI (F 21) sd (vp_nar .boolean (iz 1)).toInt)) 22 (upI (upI (F 22) sd (-1)) sd 1))) := hD
                                refine lv_aload_n hx hb dX6_step_269 rfl (lv_at hl 4 rfl) ?_
                                refine va_get (D := (dC, dI)) (ci := 6) (v := .ref (ma 23)) (C := RX6) (T := TX6) (N := 44) hx hb hts kt_X6 hown hK hP 0 rfl rfl 23 (by decide) (kx_word hG kq_05_morder_3 rfl) (fun _ h9 => h9) rfl dX6_step_270 ?_
                                refine lv_iload_n hx hb dX6_step_273 rfl (lv_at hl 5 rfl) ?_
                                refine lv_bipush (v := iz 20) hx hb dX6_step_274 (by decide) ?_
                                refine lv_iload_n hx hb dX6_step_276 rfl (lv_at hl 6 rfl) ?_
                                refine ki_imul hx hb dX6_step_277 ?_
                                refine lv_iload_n hx hb dX6_step_278 rfl (lv_at hl 3 rfl) ?_
                                refine ki_iadd hx hb dX6_step_279 ?_
                                refine ki_iast (F := upI (F 23) sd 0) hx hb hK hP hD hS 18 17 rfl rfl (by omega) (by omega) (by decide) dX6_step_280 (fun H locs hP hD hS => ?_)
                                have hP : va_P (dC, dI) kxCl (mW mo ma cs I (va_up (va_up (va_up (va_up (va_up (va_up (va_up F 20 (upI (F 20) sd pa)) 22 (upI (F 22) sd (-1))) 23 (upI (F 23) sd 0)) 24 (upI (F 24) sd 0)) 21 (upI (F 21) sd (vp_nar .boolean (iz 1)).toInt)) 22 (upI (upI (F 22) sd (-1)) sd 1)) 23 (upI (upI (F 23) sd 0) sd ((20 * p0) + pz)))) H := hP
                                have hD : va_D A (mW mo ma cs I (va_up (va_up (va_up (va_up (va_up (va_up (va_up F 20 (upI (F 20) sd pa)) 22 (upI (F 22) sd (-1))) 23 (upI (F 23) sd 0)) 24 (upI (F 24) sd 0)) 21 (upI (F 21) sd (vp_nar .boolean (iz 1)).toInt)) 22 (upI (upI (F 22) sd (-1)) sd 1)) 23 (upI (upI (F 23) sd 0) sd ((20 * p0) + pz)))) := hD
                                refine lv_aload_n hx hb dX6_step_281 rfl (lv_at hl 4 rfl) ?_
                                refine va_get (D := (dC, dI)) (ci := 6) (v := .ref (ma 24)) (C := RX6) (T := TX6) (N := 44) hx hb hts kt_X6 hown hK hP 0 rfl rfl 24 (by decide) (kx_word hG kq_05_morder_4 rfl) (fun _ h9 => h9) rfl dX6_step_282 ?_
                                refine lv_iload_n hx hb dX6_step_285 rfl (lv_at hl 5 rfl) ?_
                                refine lv_iload hx hb dX6_step_286 (lv_at hl 0 rfl) ?_
                                refine lv_iload_n hx hb dX6_step_288 rfl (lv_at hl 3 rfl) ?_
                                refine ki_isub hx hb dX6_step_289 ?_
                                refine ki_iast (F := upI (F 24) sd 0) hx hb hK hP hD hS 19 18 rfl rfl (by omega) (by omega) (by decide) dX6_step_290 (fun H locs hP hD hS => ?_)
                                have hP : va_P (dC, dI) kxCl (mW mo ma cs I (va_up (va_up (va_up (va_up (va_up (va_up (va_up (va_up F 20 (upI (F 20) sd pa)) 22 (upI (F 22) sd (-1))) 23 (upI (F 23) sd 0)) 24 (upI (F 24) sd 0)) 21 (upI (F 21) sd (vp_nar .boolean (iz 1)).toInt)) 22 (upI (upI (F 22) sd (-1)) sd 1)) 23 (upI (upI (F 23) sd 0) sd ((20 * p0) + pz))) 24 (upI (upI (F 24) sd 0) sd (en - pz)))) H := hP
                                have hD : va_D A (mW mo ma cs I (va_up (va_up (va_up (va_up (va_up (va_up (va_up (va_up F 20 (upI (F 20) sd pa)) 22 (upI (F 22) sd (-1))) 23 (upI (F 23) sd 0)) 24 (upI (F 24) sd 0)) 21 (upI (F 21) sd (vp_nar .boolean (iz 1)).toInt)) 22 (upI (upI (F 22) sd (-1)) sd 1)) 23 (upI (upI (F 23) sd 0) sd ((20 * p0) + pz))) 24 (upI (upI (F 24) sd 0) sd (en - pz)))) := hD
                                refine lv_aload_n hx hb dX6_step_291 rfl (lv_at hl 4 rfl) ?_
                                refine va_get (D := (dC, dI)) (ci := 6) (v := .ref (ma 20)) (C := RX6) (T := TX6) (N := 44) hx hb hts kt_X6 hown hK hP 0 rfl rfl 20 (by decide) (kx_word hG kq_05_morder_0 rfl) (fun _ h9 => h9) rfl dX6_step_292 ?_
                                refine lv_iload_n hx hb dX6_step_295 rfl (lv_at hl 5 rfl) ?_
                                refine lv_iload hx hb dX6_step_296 (lv_at hl 0 rfl) ?_
                                refine ki_iast (F := upI (F 20) sd pa) hx hb hK hP hD hS 15 14 rfl rfl (by omega) (by omega) (by decide) dX6_step_298 (fun H locs hP hD hS => ?_)
                                have hP : va_P (dC, dI) kxCl (mW mo ma cs I (va_up (va_up (va_up (va_up (va_up (va_up (va_up (va_up (va_up F 20 (upI (F 20) sd pa)) 22 (upI (F 22) sd (-1))) 23 (upI (F 23) sd 0)) 24 (upI (F 24) sd 0)) 21 (upI (F 21) sd (vp_nar .boolean (iz 1)).toInt)) 22 (upI (upI (F 22) sd (-1)) sd 1)) 23 (upI (upI (F 23) sd 0) sd ((20 * p0) + pz))) 24 (upI (upI (F 24) sd 0) sd (en - pz))) 20 (upI (upI (F 20) sd pa) sd en))) H := hP
                                have hD : va_D A (mW mo ma cs I (va_up (va_up (va_up (va_up (va_up (va_up (va_up (va_up (va_up F 20 (upI (F 20) sd pa)) 22 (upI (F 22) sd (-1))) 23 (upI (F 23) sd 0)) 24 (upI (F 24) sd 0)) 21 (upI (F 21) sd (vp_nar .boolean (iz 1)).toInt)) 22 (upI (upI (F 22) sd (-1)) sd 1)) 23 (upI (upI (F 23) sd 0) sd ((20 * p0) + pz))) 24 (upI (upI (F 24) sd 0) sd (en - pz))) 20 (upI (upI (F 20) sd pa) sd en))) := hD
                                have e_400 : (va_up (va_up (va_up (va_up (va_up (va_up (va_up (va_up (va_up F 20 (upI (F 20) sd pa)) 22 (upI (F 22) sd (-1))) 23 (upI (F 23) sd 0)) 24 (upI (F 24) sd 0)) 21 (upI (F 21) sd (vp_nar .boolean (iz 1)).toInt)) 22 (upI (upI (F 22) sd (-1)) sd 1)) 23 (upI (upI (F 23) sd 0) sd ((20 * p0) + pz))) 24 (upI (upI (F 24) sd 0) sd (en - pz))) 20 (upI (upI (F 20) sd pa) sd en)) 20 sd = en := upI_self _ _ _
                                have e_401 : (va_up (va_up (va_up (va_up (va_up (va_up (va_up (va_up (va_up F 20 (upI (F 20) sd pa)) 22 (upI (F 22) sd (-1))) 23 (upI (F 23) sd 0)) 24 (upI (F 24) sd 0)) 21 (upI (F 21) sd (vp_nar .boolean (iz 1)).toInt)) 22 (upI (upI (F 22) sd (-1)) sd 1)) 23 (upI (upI (F 23) sd 0) sd ((20 * p0) + pz))) 24 (upI (upI (F 24) sd 0) sd (en - pz))) 20 (upI (upI (F 20) sd pa) sd en)) 22 sd = 1 := upI_self _ _ _
                                have e_402 : (va_up (va_up (va_up (va_up (va_up (va_up (va_up (va_up (va_up F 20 (upI (F 20) sd pa)) 22 (upI (F 22) sd (-1))) 23 (upI (F 23) sd 0)) 24 (upI (F 24) sd 0)) 21 (upI (F 21) sd (vp_nar .boolean (iz 1)).toInt)) 22 (upI (upI (F 22) sd (-1)) sd 1)) 23 (upI (upI (F 23) sd 0) sd ((20 * p0) + pz))) 24 (upI (upI (F 24) sd 0) sd (en - pz))) 20 (upI (upI (F 20) sd pa) sd en)) 23 sd = (20 * p0) + pz := upI_self _ _ _
                                have e_403 : (va_up (va_up (va_up (va_up (va_up (va_up (va_up (va_up (va_up F 20 (upI (F 20) sd pa)) 22 (upI (F 22) sd (-1))) 23 (upI (F 23) sd 0)) 24 (upI (F 24) sd 0)) 21 (upI (F 21) sd (vp_nar .boolean (iz 1)).toInt)) 22 (upI (upI (F 22) sd (-1)) sd 1)) 23 (upI (upI (F 23) sd 0) sd ((20 * p0) + pz))) 24 (upI (upI (F 24) sd 0) sd (en - pz))) 20 (upI (upI (F 20) sd pa) sd en)) 24 sd = en - pz := upI_self _ _ _
                                have e_404 : (va_up (va_up (va_up (va_up (va_up (va_up (va_up (va_up (va_up F 20 (upI (F 20) sd pa)) 22 (upI (F 22) sd (-1))) 23 (upI (F 23) sd 0)) 24 (upI (F 24) sd 0)) 21 (upI (F 21) sd (vp_nar .boolean (iz 1)).toInt)) 22 (upI (upI (F 22) sd (-1)) sd 1)) 23 (upI (upI (F 23) sd 0) sd ((20 * p0) + pz))) 24 (upI (upI (F 24) sd 0) sd (en - pz))) 20 (upI (upI (F 20) sd pa) sd en)) 21 sd = (vp_nar .boolean (iz 1)).toInt := upI_self _ _ _
                                rw [← hQe]
                                exact mk_ret hx hb hr hlocks hP hD hK hS dX6_step_299 (⟨rfl, (mB_f (mB_f (mB_f (mB_f (mB_f (mB_f (mB_f (mB_f (mB_f hB 20 sd (by omega) (by omega)) 22 sd (by omega) (by omega)) 23 sd (by omega) (by omega)) 24 sd (by omega) (by omega)) 21 sd (iz_lo _) (iz_hi _)) 22 sd (by omega) (by omega)) 23 sd (by omega) (by omega)) 24 sd (by omega) (by omega)) 20 sd (by omega) (by omega)), (mfr.upF (mfr.upF (mfr.upF (mfr.upF (mfr.upF (mfr.upF (mfr.upF (mfr.upF (mfr.upF mfr.rf (by decide) _) (by decide) _) (by decide) _) (by decide) _) (by decide) _) (by decide) _) (by decide) _) (by decide) _) (by decide) _), (mo1.up (mo1.up (mo1.up (mo1.up (mo1.up (mo1.up (mo1.up (mo1.up (mo1.up mo1.rf 20 _) 22 _) 23 _) 24 _) 21 _) 22 _) 23 _) 24 _) 20 _), by omega, by omega, by omega⟩)
                              · skip
                                refine lv_aload_n hx hb dX6_step_240 rfl (lv_at hl 4 rfl) ?_
                                refine va_get (D := (dC, dI)) (ci := 6) (v := .ref (ma 4)) (C := RX6) (T := TX6) (N := 44) hx hb hts kt_X6 hown hK hP 0 rfl rfl 4 (by decide) (kx_word hG kq_04_msmall_16 rfl) (fun _ h9 => h9) rfl dX6_step_241 ?_
                                refine lv_bipush (v := iz 20) hx hb dX6_step_244 (by decide) ?_
                                refine lv_iload_n hx hb dX6_step_246 rfl (lv_at hl 6 rfl) ?_
                                refine ki_imul hx hb dX6_step_247 ?_
                                refine lv_iload_n hx hb dX6_step_248 rfl (lv_at hl 3 rfl) ?_
                                refine ki_iadd hx hb dX6_step_249 ?_
                                refine ki_iald (F := F 4) hx hb hK hP 3 2 rfl rfl (by omega) (by omega) (by decide) dX6_step_250 ?_
                                have hbd_405 := hB.2 4 ((20 * p0) + pz)
                                refine lv_bipush (v := iz 48) hx hb dX6_step_251 (by decide) ?_
                                refine ki_icmp_ne (tgt := 262) hx hb dX6_step_253 (by decide) (by omega) (by omega) (by omega) (by omega) (fun c_406 => ?_) (fun c_406 => ?_)
                                · skip
                                  refine lv_aload_n hx hb dX6_step_262 rfl (lv_at hl 4 rfl) ?_
                                  refine va_get (D := (dC, dI)) (ci := 6) (v := .ref (ma 22)) (C := RX6) (T := TX6) (N := 44) hx hb hts kt_X6 hown hK hP 0 rfl rfl 22 (by decide) (kx_word hG kq_05_morder_2 rfl) (fun _ h9 => h9) rfl dX6_step_263 ?_
                                  refine lv_iload_n hx hb dX6_step_266 rfl (lv_at hl 5 rfl) ?_
                                  refine lv_iconst (v := iz 1) hx hb dX6_step_267 (by decide) ?_
                                  refine ki_iast (F := upI (F 22) sd (-1)) hx hb hK hP hD hS 17 16 rfl rfl (by omega) (by omega) (by decide) dX6_step_268 (fun H locs hP hD hS => ?_)
                                  have hP : va_P (dC, dI) kxCl (mW mo ma cs I (va_up (va_up (va_up (va_up (va_up (va_up F 20 (upI (F 20) sd pa)) 22 (upI (F 22) sd (-1))) 23 (upI (F 23) sd 0)) 24 (upI (F 24) sd 0)) 21 (upI (F 21) sd (vp_nar .boolean (iz 1)).toInt)) 22 (upI (upI (F 22) sd (-1)) sd 1))) H := hP
                                  have hD : va_D A (mW mo ma cs I (va_up (va_up (va_up (va_up (va_up (va_up F 20 (upI (F 20) sd pa)) 22 (upI (F 22) sd (-1))) 23 (upI (F 23) sd 0)) 24 (upI (F 24) sd 0)) 21 (upI (F 21) sd (vp_nar .boolean (iz 1)).toInt)) 22 (upI (upI (F 22) sd (-1)) sd 1))) := hD
                                  refine lv_aload_n hx hb dX6_step_269 rfl (lv_at hl 4 rfl) ?_
                                  refine va_get (D := (dC, dI)) (ci := 6) (v := .ref (ma 23)) (C := RX6) (T := TX6) (N := 44) hx hb hts kt_X6 hown hK hP 0 rfl rfl 23 (by decide) (kx_word hG kq_05_morder_3 rfl) (fun _ h9 => h9) rfl dX6_step_270 ?_
                                  refine lv_iload_n hx hb dX6_step_273 rfl (lv_at hl 5 rfl) ?_
                                  refine lv_bipush (v := iz 20) hx hb dX6_step_274 (by decide) ?_
                                  refine lv_iload_n hx hb dX6_step_276 rfl (lv_at hl 6 rfl) ?_
                                  refine ki_imul hx hb dX6_step_277 ?_
                                  refine lv_iload_n hx hb dX6_step_278 rfl (lv_at hl 3 rfl) ?_
                                  refine ki_iadd hx hb dX6_step_279 ?_
                                  refine ki_iast (F := upI (F 23) sd 0) hx hb hK hP hD hS 18 17 rfl rfl (by omega) (by omega) (by decide) dX6_step_280 (fun H locs hP hD hS => ?_)
                                  have hP : va_P (dC, dI) kxCl (mW mo ma cs I (va_up (va_up (va_up (va_up (va_up (va_up (va_up F 20 (upI (F 20) sd pa)) 22 (upI (F 22) sd (-1))) 23 (upI (F 23) sd 0)) 24 (upI (F 24) sd 0)) 21 (upI (F 21) sd (vp_nar .boolean (iz 1)).toInt)) 22 (upI (upI (F 22) sd (-1)) sd 1)) 23 (upI (upI (F 23) sd 0) sd ((20 * p0) + pz)))) H := hP
                                  have hD : va_D A (mW mo ma cs I (va_up (va_up (va_up (va_up (va_up (va_up (va_up F 20 (upI (F 20) sd pa)) 22 (upI (F 22) sd (-1))) 23 (upI (F 23) sd 0)) 24 (upI (F 24) sd 0)) 21 (upI (F 21) sd (vp_nar .boolean (iz 1)).toInt)) 22 (upI (upI (F 22) sd (-1)) sd 1)) 23 (upI (upI (F 23) sd 0) sd ((20 * p0) + pz)))) := hD
                                  refine lv_aload_n hx hb dX6_step_281 rfl (lv_at hl 4 rfl) ?_
                                  refine va_get (D := (dC, dI)) (ci := 6) (v := .ref (ma 24)) (C := RX6) (T := TX6) (N := 44) hx hb hts kt_X6 hown hK hP 0 rfl rfl 24 (by decide) (kx_word hG kq_05_morder_4 rfl) (fun _ h9 => h9) rfl dX6_step_282 ?_
                                  refine lv_iload_n hx hb dX6_step_285 rfl (lv_at hl 5 rfl) ?_
                                  refine lv_iload hx hb dX6_step_286 (lv_at hl 0 rfl) ?_
                                  refine lv_iload_n hx hb dX6_step_288 rfl (lv_at hl 3 rfl) ?_
                                  refine ki_isub hx hb dX6_step_289 ?_
                                  refine ki_iast (F := upI (F 24) sd 0) hx hb hK hP hD hS 19 18 rfl rfl (by omega) (by omega) (by decide) dX6_step_290 (fun H locs hP hD hS => ?_)
                                  have hP : va_P (dC, dI) kxCl (mW mo ma cs I (va_up (va_up (va_up (va_up (va_up (va_up (va_up (va_up F 20 (upI (F 20) sd pa)) 22 (upI (F 22) sd (-1))) 23 (upI (F 23) sd 0)) 24 (upI (F 24) sd 0)) 21 (upI (F 21) sd (vp_nar .boolean (iz 1)).toInt)) 22 (upI (upI (F 22) sd (-1)) sd 1)) 23 (upI (upI (F 23) sd 0) sd ((20 * p0) + pz))) 24 (upI (upI (F 24) sd 0) sd (en - pz)))) H := hP
                                  have hD : va_D A (mW mo ma cs I (va_up (va_up (va_up (va_up (va_up (va_up (va_up (va_up F 20 (upI (F 20) sd pa)) 22 (upI (F 22) sd (-1))) 23 (upI (F 23) sd 0)) 24 (upI (F 24) sd 0)) 21 (upI (F 21) sd (vp_nar .boolean (iz 1)).toInt)) 22 (upI (upI (F 22) sd (-1)) sd 1)) 23 (upI (upI (F 23) sd 0) sd ((20 * p0) + pz))) 24 (upI (upI (F 24) sd 0) sd (en - pz)))) := hD
                                  refine lv_aload_n hx hb dX6_step_291 rfl (lv_at hl 4 rfl) ?_
                                  refine va_get (D := (dC, dI)) (ci := 6) (v := .ref (ma 20)) (C := RX6) (T := TX6) (N := 44) hx hb hts kt_X6 hown hK hP 0 rfl rfl 20 (by decide) (kx_word hG kq_05_morder_0 rfl) (fun _ h9 => h9) rfl dX6_step_292 ?_
                                  refine lv_iload_n hx hb dX6_step_295 rfl (lv_at hl 5 rfl) ?_
                                  refine lv_iload hx hb dX6_step_296 (lv_at hl 0 rfl) ?_
                                  refine ki_iast (F := upI (F 20) sd pa) hx hb hK hP hD hS 15 14 rfl rfl (by omega) (by omega) (by decide) dX6_step_298 (fun H locs hP hD hS => ?_)
                                  have hP : va_P (dC, dI) kxCl (mW mo ma cs I (va_up (va_up (va_up (va_up (va_up (va_up (va_up (va_up (va_up F 20 (upI (F 20) sd pa)) 22 (upI (F 22) sd (-1))) 23 (upI (F 23) sd 0)) 24 (upI (F 24) sd 0)) 21 (upI (F 21) sd (vp_nar .boolean (iz 1)).toInt)) 22 (upI (upI (F 22) sd (-1)) sd 1)) 23 (upI (upI (F 23) sd 0) sd ((20 * p0) + pz))) 24 (upI (upI (F 24) sd 0) sd (en - pz))) 20 (upI (upI (F 20) sd pa) sd en))) H := hP
                                  have hD : va_D A (mW mo ma cs I (va_up (va_up (va_up (va_up (va_up (va_up (va_up (va_up (va_up F 20 (upI (F 20) sd pa)) 22 (upI (F 22) sd (-1))) 23 (upI (F 23) sd 0)) 24 (upI (F 24) sd 0)) 21 (upI (F 21) sd (vp_nar .boolean (iz 1)).toInt)) 22 (upI (upI (F 22) sd (-1)) sd 1)) 23 (upI (upI (F 23) sd 0) sd ((20 * p0) + pz))) 24 (upI (upI (F 24) sd 0) sd (en - pz))) 20 (upI (upI (F 20) sd pa) sd en))) := hD
                                  have e_407 : (va_up (va_up (va_up (va_up (va_up (va_up (va_up (va_up (va_up F 20 (upI (F 20) sd pa)) 22 (upI (F 22) sd (-1))) 23 (upI (F 23) sd 0)) 24 (upI (F 24) sd 0)) 21 (upI (F 21) sd (vp_nar .boolean (iz 1)).toInt)) 22 (upI (upI (F 22) sd (-1)) sd 1)) 23 (upI (upI (F 23) sd 0) sd ((20 * p0) + pz))) 24 (upI (upI (F 24) sd 0) sd (en - pz))) 20 (upI (upI (F 20) sd pa) sd en)) 20 sd = en := upI_self _ _ _
                                  have e_408 : (va_up (va_up (va_up (va_up (va_up (va_up (va_up (va_up (va_up F 20 (upI (F 20) sd pa)) 22 (upI (F 22) sd (-1))) 23 (upI (F 23) sd 0)) 24 (upI (F 24) sd 0)) 21 (upI (F 21) sd (vp_nar .boolean (iz 1)).toInt)) 22 (upI (upI (F 22) sd (-1)) sd 1)) 23 (upI (upI (F 23) sd 0) sd ((20 * p0) + pz))) 24 (upI (upI (F 24) sd 0) sd (en - pz))) 20 (upI (upI (F 20) sd pa) sd en)) 22 sd = 1 := upI_self _ _ _
                                  have e_409 : (va_up (va_up (va_up (va_up (va_up (va_up (va_up (va_up (va_up F 20 (upI (F 20) sd pa)) 22 (upI (F 22) sd (-1))) 23 (upI (F 23) sd 0)) 24 (upI (F 24) sd 0)) 21 (upI (F 21) sd (vp_nar .boolean (iz 1)).toInt)) 22 (upI (upI (F 22) sd (-1)) sd 1)) 23 (upI (upI (F 23) sd 0) sd ((20 * p0) + pz))) 24 (upI (upI (F 24) sd 0) sd (en - pz))) 20 (upI (upI (F 20) sd pa) sd en)) 23 sd = (20 * p0) + pz := upI_self _ _ _
                                  have e_410 : (va_up (va_up (va_up (va_up (va_up (va_up (va_up (va_up (va_up F 20 (upI (F 20) sd pa)) 22 (upI (F 22) sd (-1))) 23 (upI (F 23) sd 0)) 24 (upI (F 24) sd 0)) 21 (upI (F 21) sd (vp_nar .boolean (iz 1)).toInt)) 22 (upI (upI (F 22) sd (-1)) sd 1)) 23 (upI (upI (F 23) sd 0) sd ((20 * p0) + pz))) 24 (upI (upI (F 24) sd 0) sd (en - pz))) 20 (upI (upI (F 20) sd pa) sd en)) 24 sd = en - pz := upI_self _ _ _
                                  have e_411 : (va_up (va_up (va_up (va_up (va_up (va_up (va_up (va_up (va_up F 20 (upI (F 20) sd pa)) 22 (upI (F 22) sd (-1))) 23 (upI (F 23) sd 0)) 24 (upI (F 24) sd 0)) 21 (upI (F 21) sd (vp_nar .boolean (iz 1)).toInt)) 22 (upI (upI (F 22) sd (-1)) sd 1)) 23 (upI (upI (F 23) sd 0) sd ((20 * p0) + pz))) 24 (upI (upI (F 24) sd 0) sd (en - pz))) 20 (upI (upI (F 20) sd pa) sd en)) 21 sd = (vp_nar .boolean (iz 1)).toInt := upI_self _ _ _
                                  rw [← hQe]
                                  exact mk_ret hx hb hr hlocks hP hD hK hS dX6_step_299 (⟨rfl, (mB_f (mB_f (mB_f (mB_f (mB_f (mB_f (mB_f (mB_f (mB_f hB 20 sd (by omega) (by omega)) 22 sd (by omega) (by omega)) 23 sd (by omega) (by omega)) 24 sd (by omega) (by omega)) 21 sd (iz_lo _) (iz_hi _)) 22 sd (by omega) (by omega)) 23 sd (by omega) (by omega)) 24 sd (by omega) (by omega)) 20 sd (by omega) (by omega)), (mfr.upF (mfr.upF (mfr.upF (mfr.upF (mfr.upF (mfr.upF (mfr.upF (mfr.upF (mfr.upF mfr.rf (by decide) _) (by decide) _) (by decide) _) (by decide) _) (by decide) _) (by decide) _) (by decide) _) (by decide) _) (by decide) _), (mo1.up (mo1.up (mo1.up (mo1.up (mo1.up (mo1.up (mo1.up (mo1.up (mo1.up mo1.rf 20 _) 22 _) 23 _) 24 _) 21 _) 22 _) 23 _) 24 _) 20 _), by omega, by omega, by omega⟩)
                                · skip
                                  refine lv_iinc (v := iz (pz + 1)) (lv' := [(3, .int (iz (pz + 1))), (6, .int (iz en)), (5, .int (iz (F 4 ((20 * p0) + pa)))), (4, .int (iz ps)), (0, .ref mo), (1, .int (iz sd)), (2, .int (iz p0))]) hx hb dX6_step_256 hl (k := 3) rfl (iz_add pz 1) (by decide) rfl (fun ls hl => ?_)
                                  refine lv_goto (tgt := 234) hx hb dX6_step_259 (by decide) ?_
                                  exact ih234 (pz + 1) (by omega) (by omega) _ _ hP hD hS ls (lv_sub hl [1, 2, 3, 0, 4, 5, 6] rfl)
                          exact lp234 _ pa (by omega) (Nat.lt_succ_self _) _ _ hP hD hS ls (lv_sub hl [0, 1, 2, 3, 4, 5, 6] rfl)
                        · skip
                          refine lv_aload_n hx hb dX6_step_210 rfl (lv_at hl 4 rfl) ?_
                          refine va_get (D := (dC, dI)) (ci := 6) (v := .ref (ma 4)) (C := RX6) (T := TX6) (N := 44) hx hb hts kt_X6 hown hK hP 0 rfl rfl 4 (by decide) (kx_word hG kq_04_msmall_16 rfl) (fun _ h9 => h9) rfl dX6_step_211 ?_
                          refine lv_bipush (v := iz 20) hx hb dX6_step_214 (by decide) ?_
                          refine lv_iload_n hx hb dX6_step_216 rfl (lv_at hl 6 rfl) ?_
                          refine ki_imul hx hb dX6_step_217 ?_
                          refine lv_iload hx hb dX6_step_218 (lv_at hl 0 rfl) ?_
                          refine ki_iadd hx hb dX6_step_220 ?_
                          refine ki_iald (F := F 4) hx hb hK hP 3 2 rfl rfl (by omega) (by omega) (by decide) dX6_step_221 ?_
                          have hbd_412 := hB.2 4 ((20 * p0) + en)
                          refine mk_calls (As := [.int (iz (F 4 ((20 * p0) + en)))]) (rest := []) ⟨hx, hb, hml, hown, hts⟩ (k_isNumber l dC dI (F 4 ((20 * p0) + en)) H.size (by omega) (by omega)) (va_cwS 1 hts (kx_gS kq_05_morder_8 kq_05_morder_9 kq_04_msmall_6 kq_05_morder_10 rfl) rfl rfl rfl (by decide +kernel) ⟨Nat.le_of_ble_eq_true rfl, Nat.le_of_ble_eq_true rfl⟩) hP hD hK hG hZ hS hA rfl hl.1 rfl (Nat.le_of_ble_eq_true rfl) dX6_step_222 ⟨Nat.le_of_ble_eq_true rfl, Nat.le_of_ble_eq_true rfl⟩ (fun z_413 H locs hq_414 hP hS => ?_)
                          try dsimp only at hq_414
                          refine ki_if_eq (tgt := 234) hx hb dX6_step_225 (by decide) (by omega) (by omega) (fun c_415 => ?_) (fun c_415 => ?_)
                          · skip
                            have lp234 : ∀ (n : Nat) (pz : Int), ((pa ≤ pz ∧ pz ≤ en)) → (en - pz).toNat < n → ∀ (H : Heap) (locs : List Loc), va_P (dC, dI) kxCl (mW mo ma cs I (va_up (va_up (va_up (va_up (va_up F 20 (upI (F 20) sd pa)) 22 (upI (F 22) sd (-1))) 23 (upI (F 23) sd 0)) 24 (upI (F 24) sd 0)) 21 (upI (F 21) sd (vp_nar .boolean (iz 1)).toInt))) H → va_D A (mW mo ma cs I (va_up (va_up (va_up (va_up (va_up F 20 (upI (F 20) sd pa)) 22 (upI (F 22) sd (-1))) 23 (upI (F 23) sd 0)) 24 (upI (F 24) sd 0)) 21 (upI (F 21) sd (vp_nar .boolean (iz 1)).toInt))) → va_S A s.heap H locs → ∀ ls : Array Slot, lv_has ls 7 [(6, .int (iz en)), (5, .int (iz (F 4 ((20 * p0) + pa)))), (4, .int (iz ps)), (3, .int (iz pz)), (0, .ref mo), (1, .int (iz sd)), (2, .int (iz p0))] → W p l e (headSpec [.code yX6_step cX6_step 7 none] ({ frames := 1, cells := 0, slots := 0, locals := 21 })).room s m ([.ref mo, .int (iz sd), .int (iz p0)] : List Value).toArray below meth c H locs 0 0 QQ (F0 m 234 ls []) := by
                              intro n
                              induction n with
                              | zero => intro pz hinv hm; exact absurd hm (Nat.not_lt_zero _)
                              | succ n ih234 =>
                                intro pz hinv hm H locs hP hD hS ls hl
                                have hpz := hinv
                                refine lv_iload_n hx hb dX6_step_234 rfl (lv_at hl 3 rfl) ?_
                                refine lv_iload hx hb dX6_step_235 (lv_at hl 0 rfl) ?_
                                refine ki_icmp_ge (tgt := 262) hx hb dX6_step_237 (by decide) (by omega) (by omega) (by omega) (by omega) (fun c_416 => ?_) (fun c_416 => ?_)
                                · skip
                                  refine lv_aload_n hx hb dX6_step_262 rfl (lv_at hl 4 rfl) ?_
                                  refine va_get (D := (dC, dI)) (ci := 6) (v := .ref (ma 22)) (C := RX6) (T := TX6) (N := 44) hx hb hts kt_X6 hown hK hP 0 rfl rfl 22 (by decide) (kx_word hG kq_05_morder_2 rfl) (fun _ h9 => h9) rfl dX6_step_263 ?_
                                  refine lv_iload_n hx hb dX6_step_266 rfl (lv_at hl 5 rfl) ?_
                                  refine lv_iconst (v := iz 1) hx hb dX6_step_267 (by decide) ?_
                                  refine ki_iast (F := upI (F 22) sd (-1)) hx hb hK hP hD hS 17 16 rfl rfl (by omega) (by omega) (by decide) dX6_step_268 (fun H locs hP hD hS => ?_)
                                  have hP : va_P (dC, dI) kxCl (mW mo ma cs I (va_up (va_up (va_up (va_up (va_up (va_up F 20 (upI (F 20) sd pa)) 22 (upI (F 22) sd (-1))) 23 (upI (F 23) sd 0)) 24 (upI (F 24) sd 0)) 21 (upI (F 21) sd (vp_nar .boolean (iz 1)).toInt)) 22 (upI (upI (F 22) sd (-1)) sd 1))) H := hP
                                  have hD : va_D A (mW mo ma cs I (va_up (va_up (va_up (va_up (va_up (va_up F 20 (upI (F 20) sd pa)) 22 (upI (F 22) sd (-1))) 23 (upI (F 23) sd 0)) 24 (upI (F 24) sd 0)) 21 (upI (F 21) sd (vp_nar .boolean (iz 1)).toInt)) 22 (upI (upI (F 22) sd (-1)) sd 1))) := hD
                                  refine lv_aload_n hx hb dX6_step_269 rfl (lv_at hl 4 rfl) ?_
                                  refine va_get (D := (dC, dI)) (ci := 6) (v := .ref (ma 23)) (C := RX6) (T := TX6) (N := 44) hx hb hts kt_X6 hown hK hP 0 rfl rfl 23 (by decide) (kx_word hG kq_05_morder_3 rfl) (fun _ h9 => h9) rfl dX6_step_270 ?_
                                  refine lv_iload_n hx hb dX6_step_273 rfl (lv_at hl 5 rfl) ?_
                                  refine lv_bipush (v := iz 20) hx hb dX6_step_274 (by decide) ?_
                                  refine lv_iload_n hx hb dX6_step_276 rfl (lv_at hl 6 rfl) ?_
                                  refine ki_imul hx hb dX6_step_277 ?_
                                  refine lv_iload_n hx hb dX6_step_278 rfl (lv_at hl 3 rfl) ?_
                                  refine ki_iadd hx hb dX6_step_279 ?_
                                  refine ki_iast (F := upI (F 23) sd 0) hx hb hK hP hD hS 18 17 rfl rfl (by omega) (by omega) (by decide) dX6_step_280 (fun H locs hP hD hS => ?_)
                                  have hP : va_P (dC, dI) kxCl (mW mo ma cs I (va_up (va_up (va_up (va_up (va_up (va_up (va_up F 20 (upI (F 20) sd pa)) 22 (upI (F 22) sd (-1))) 23 (upI (F 23) sd 0)) 24 (upI (F 24) sd 0)) 21 (upI (F 21) sd (vp_nar .boolean (iz 1)).toInt)) 22 (upI (upI (F 22) sd (-1)) sd 1)) 23 (upI (upI (F 23) sd 0) sd ((20 * p0) + pz)))) H := hP
                                  have hD : va_D A (mW mo ma cs I (va_up (va_up (va_up (va_up (va_up (va_up (va_up F 20 (upI (F 20) sd pa)) 22 (upI (F 22) sd (-1))) 23 (upI (F 23) sd 0)) 24 (upI (F 24) sd 0)) 21 (upI (F 21) sd (vp_nar .boolean (iz 1)).toInt)) 22 (upI (upI (F 22) sd (-1)) sd 1)) 23 (upI (upI (F 23) sd 0) sd ((20 * p0) + pz)))) := hD
                                  refine lv_aload_n hx hb dX6_step_281 rfl (lv_at hl 4 rfl) ?_
                                  refine va_get (D := (dC, dI)) (ci := 6) (v := .ref (ma 24)) (C := RX6) (T := TX6) (N := 44) hx hb hts kt_X6 hown hK hP 0 rfl rfl 24 (by decide) (kx_word hG kq_05_morder_4 rfl) (fun _ h9 => h9) rfl dX6_step_282 ?_
                                  refine lv_iload_n hx hb dX6_step_285 rfl (lv_at hl 5 rfl) ?_
                                  refine lv_iload hx hb dX6_step_286 (lv_at hl 0 rfl) ?_
                                  refine lv_iload_n hx hb dX6_step_288 rfl (lv_at hl 3 rfl) ?_
                                  refine ki_isub hx hb dX6_step_289 ?_
                                  refine ki_iast (F := upI (F 24) sd 0) hx hb hK hP hD hS 19 18 rfl rfl (by omega) (by omega) (by decide) dX6_step_290 (fun H locs hP hD hS => ?_)
                                  have hP : va_P (dC, dI) kxCl (mW mo ma cs I (va_up (va_up (va_up (va_up (va_up (va_up (va_up (va_up F 20 (upI (F 20) sd pa)) 22 (upI (F 22) sd (-1))) 23 (upI (F 23) sd 0)) 24 (upI (F 24) sd 0)) 21 (upI (F 21) sd (vp_nar .boolean (iz 1)).toInt)) 22 (upI (upI (F 22) sd (-1)) sd 1)) 23 (upI (upI (F 23) sd 0) sd ((20 * p0) + pz))) 24 (upI (upI (F 24) sd 0) sd (en - pz)))) H := hP
                                  have hD : va_D A (mW mo ma cs I (va_up (va_up (va_up (va_up (va_up (va_up (va_up (va_up F 20 (upI (F 20) sd pa)) 22 (upI (F 22) sd (-1))) 23 (upI (F 23) sd 0)) 24 (upI (F 24) sd 0)) 21 (upI (F 21) sd (vp_nar .boolean (iz 1)).toInt)) 22 (upI (upI (F 22) sd (-1)) sd 1)) 23 (upI (upI (F 23) sd 0) sd ((20 * p0) + pz))) 24 (upI (upI (F 24) sd 0) sd (en - pz)))) := hD
                                  refine lv_aload_n hx hb dX6_step_291 rfl (lv_at hl 4 rfl) ?_
                                  refine va_get (D := (dC, dI)) (ci := 6) (v := .ref (ma 20)) (C := RX6) (T := TX6) (N := 44) hx hb hts kt_X6 hown hK hP 0 rfl rfl 20 (by decide) (kx_word hG kq_05_morder_0 rfl) (fun _ h9 => h9) rfl dX6_step_292 ?_
                                  refine lv_iload_n hx hb dX6_step_295 rfl (lv_at hl 5 rfl) ?_
                                  refine lv_iload hx hb dX6_step_296 (lv_at hl 0 rfl) ?_
                                  refine ki_iast (F := upI (F 20) sd pa) hx hb hK hP hD hS 15 14 rfl rfl (by omega) (by omega) (by decide) dX6_step_298 (fun H locs hP hD hS => ?_)
                                  have hP : va_P (dC, dI) kxCl (mW mo ma cs I (va_up (va_up (va_up (va_up (va_up (va_up (va_up (va_up (va_up F 20 (upI (F 20) sd pa)) 22 (upI (F 22) sd (-1))) 23 (upI (F 23) sd 0)) 24 (upI (F 24) sd 0)) 21 (upI (F 21) sd (vp_nar .boolean (iz 1)).toInt)) 22 (upI (upI (F 22) sd (-1)) sd 1)) 23 (upI (upI (F 23) sd 0) sd ((20 * p0) + pz))) 24 (upI (upI (F 24) sd 0) sd (en - pz))) 20 (upI (upI (F 20) sd pa) sd en))) H := hP
                                  have hD : va_D A (mW mo ma cs I (va_up (va_up (va_up (va_up (va_up (va_up (va_up (va_up (va_up F 20 (upI (F 20) sd pa)) 22 (upI (F 22) sd (-1))) 23 (upI (F 23) sd 0)) 24 (upI (F 24) sd 0)) 21 (upI (F 21) sd (vp_nar .boolean (iz 1)).toInt)) 22 (upI (upI (F 22) sd (-1)) sd 1)) 23 (upI (upI (F 23) sd 0) sd ((20 * p0) + pz))) 24 (upI (upI (F 24) sd 0) sd (en - pz))) 20 (upI (upI (F 20) sd pa) sd en))) := hD
                                  have e_417 : (va_up (va_up (va_up (va_up (va_up (va_up (va_up (va_up (va_up F 20 (upI (F 20) sd pa)) 22 (upI (F 22) sd (-1))) 23 (upI (F 23) sd 0)) 24 (upI (F 24) sd 0)) 21 (upI (F 21) sd (vp_nar .boolean (iz 1)).toInt)) 22 (upI (upI (F 22) sd (-1)) sd 1)) 23 (upI (upI (F 23) sd 0) sd ((20 * p0) + pz))) 24 (upI (upI (F 24) sd 0) sd (en - pz))) 20 (upI (upI (F 20) sd pa) sd en)) 20 sd = en := upI_self _ _ _
                                  have e_418 : (va_up (va_up (va_up (va_up (va_up (va_up (va_up (va_up (va_up F 20 (upI (F 20) sd pa)) 22 (upI (F 22) sd (-1))) 23 (upI (F 23) sd 0)) 24 (upI (F 24) sd 0)) 21 (upI (F 21) sd (vp_nar .boolean (iz 1)).toInt)) 22 (upI (upI (F 22) sd (-1)) sd 1)) 23 (upI (upI (F 23) sd 0) sd ((20 * p0) + pz))) 24 (upI (upI (F 24) sd 0) sd (en - pz))) 20 (upI (upI (F 20) sd pa) sd en)) 22 sd = 1 := upI_self _ _ _
                                  have e_419 : (va_up (va_up (va_up (va_up (va_up (va_up (va_up (va_up (va_up F 20 (upI (F 20) sd pa)) 22 (upI (F 22) sd (-1))) 23 (upI (F 23) sd 0)) 24 (upI (F 24) sd 0)) 21 (upI (F 21) sd (vp_nar .boolean (iz 1)).toInt)) 22 (upI (upI (F 22) sd (-1)) sd 1)) 23 (upI (upI (F 23) sd 0) sd ((20 * p0) + pz))) 24 (upI (upI (F 24) sd 0) sd (en - pz))) 20 (upI (upI (F 20) sd pa) sd en)) 23 sd = (20 * p0) + pz := upI_self _ _ _
                                  have e_420 : (va_up (va_up (va_up (va_up (va_up (va_up (va_up (va_up (va_up F 20 (upI (F 20) sd pa)) 22 (upI (F 22) sd (-1))) 23 (upI (F 23) sd 0)) 24 (upI (F 24) sd 0)) 21 (upI (F 21) sd (vp_nar .boolean (iz 1)).toInt)) 22 (upI (upI (F 22) sd (-1)) sd 1)) 23 (upI (upI (F 23) sd 0) sd ((20 * p0) + pz))) 24 (upI (upI (F 24) sd 0) sd (en - pz))) 20 (upI (upI (F 20) sd pa) sd en)) 24 sd = en - pz := upI_self _ _ _
                                  have e_421 : (va_up (va_up (va_up (va_up (va_up (va_up (va_up (va_up (va_up F 20 (upI (F 20) sd pa)) 22 (upI (F 22) sd (-1))) 23 (upI (F 23) sd 0)) 24 (upI (F 24) sd 0)) 21 (upI (F 21) sd (vp_nar .boolean (iz 1)).toInt)) 22 (upI (upI (F 22) sd (-1)) sd 1)) 23 (upI (upI (F 23) sd 0) sd ((20 * p0) + pz))) 24 (upI (upI (F 24) sd 0) sd (en - pz))) 20 (upI (upI (F 20) sd pa) sd en)) 21 sd = (vp_nar .boolean (iz 1)).toInt := upI_self _ _ _
                                  rw [← hQe]
                                  exact mk_ret hx hb hr hlocks hP hD hK hS dX6_step_299 (⟨rfl, (mB_f (mB_f (mB_f (mB_f (mB_f (mB_f (mB_f (mB_f (mB_f hB 20 sd (by omega) (by omega)) 22 sd (by omega) (by omega)) 23 sd (by omega) (by omega)) 24 sd (by omega) (by omega)) 21 sd (iz_lo _) (iz_hi _)) 22 sd (by omega) (by omega)) 23 sd (by omega) (by omega)) 24 sd (by omega) (by omega)) 20 sd (by omega) (by omega)), (mfr.upF (mfr.upF (mfr.upF (mfr.upF (mfr.upF (mfr.upF (mfr.upF (mfr.upF (mfr.upF mfr.rf (by decide) _) (by decide) _) (by decide) _) (by decide) _) (by decide) _) (by decide) _) (by decide) _) (by decide) _) (by decide) _), (mo1.up (mo1.up (mo1.up (mo1.up (mo1.up (mo1.up (mo1.up (mo1.up (mo1.up mo1.rf 20 _) 22 _) 23 _) 24 _) 21 _) 22 _) 23 _) 24 _) 20 _), by omega, by omega, by omega⟩)
                                · skip
                                  refine lv_aload_n hx hb dX6_step_240 rfl (lv_at hl 4 rfl) ?_
                                  refine va_get (D := (dC, dI)) (ci := 6) (v := .ref (ma 4)) (C := RX6) (T := TX6) (N := 44) hx hb hts kt_X6 hown hK hP 0 rfl rfl 4 (by decide) (kx_word hG kq_04_msmall_16 rfl) (fun _ h9 => h9) rfl dX6_step_241 ?_
                                  refine lv_bipush (v := iz 20) hx hb dX6_step_244 (by decide) ?_
                                  refine lv_iload_n hx hb dX6_step_246 rfl (lv_at hl 6 rfl) ?_
                                  refine ki_imul hx hb dX6_step_247 ?_
                                  refine lv_iload_n hx hb dX6_step_248 rfl (lv_at hl 3 rfl) ?_
                                  refine ki_iadd hx hb dX6_step_249 ?_
                                  refine ki_iald (F := F 4) hx hb hK hP 3 2 rfl rfl (by omega) (by omega) (by decide) dX6_step_250 ?_
                                  have hbd_422 := hB.2 4 ((20 * p0) + pz)
                                  refine lv_bipush (v := iz 48) hx hb dX6_step_251 (by decide) ?_
                                  refine ki_icmp_ne (tgt := 262) hx hb dX6_step_253 (by decide) (by omega) (by omega) (by omega) (by omega) (fun c_423 => ?_) (fun c_423 => ?_)
                                  · skip
                                    refine lv_aload_n hx hb dX6_step_262 rfl (lv_at hl 4 rfl) ?_
                                    refine va_get (D := (dC, dI)) (ci := 6) (v := .ref (ma 22)) (C := RX6) (T := TX6) (N := 44) hx hb hts kt_X6 hown hK hP 0 rfl rfl 22 (by decide) (kx_word hG kq_05_morder_2 rfl) (fun _ h9 => h9) rfl dX6_step_263 ?_
                                    refine lv_iload_n hx hb dX6_step_266 rfl (lv_at hl 5 rfl) ?_
                                    refine lv_iconst (v := iz 1) hx hb dX6_step_267 (by decide) ?_
                                    refine ki_iast (F := upI (F 22) sd (-1)) hx hb hK hP hD hS 17 16 rfl rfl (by omega) (by omega) (by decide) dX6_step_268 (fun H locs hP hD hS => ?_)
                                    have hP : va_P (dC, dI) kxCl (mW mo ma cs I (va_up (va_up (va_up (va_up (va_up (va_up F 20 (upI (F 20) sd pa)) 22 (upI (F 22) sd (-1))) 23 (upI (F 23) sd 0)) 24 (upI (F 24) sd 0)) 21 (upI (F 21) sd (vp_nar .boolean (iz 1)).toInt)) 22 (upI (upI (F 22) sd (-1)) sd 1))) H := hP
                                    have hD : va_D A (mW mo ma cs I (va_up (va_up (va_up (va_up (va_up (va_up F 20 (upI (F 20) sd pa)) 22 (upI (F 22) sd (-1))) 23 (upI (F 23) sd 0)) 24 (upI (F 24) sd 0)) 21 (upI (F 21) sd (vp_nar .boolean (iz 1)).toInt)) 22 (upI (upI (F 22) sd (-1)) sd 1))) := hD
                                    refine lv_aload_n hx hb dX6_step_269 rfl (lv_at hl 4 rfl) ?_
                                    refine va_get (D := (dC, dI)) (ci := 6) (v := .ref (ma 23)) (C := RX6) (T := TX6) (N := 44) hx hb hts kt_X6 hown hK hP 0 rfl rfl 23 (by decide) (kx_word hG kq_05_morder_3 rfl) (fun _ h9 => h9) rfl dX6_step_270 ?_
                                    refine lv_iload_n hx hb dX6_step_273 rfl (lv_at hl 5 rfl) ?_
                                    refine lv_bipush (v := iz 20) hx hb dX6_step_274 (by decide) ?_
                                    refine lv_iload_n hx hb dX6_step_276 rfl (lv_at hl 6 rfl) ?_
                                    refine ki_imul hx hb dX6_step_277 ?_
                                    refine lv_iload_n hx hb dX6_step_278 rfl (lv_at hl 3 rfl) ?_
                                    refine ki_iadd hx hb dX6_step_279 ?_
                                    refine ki_iast (F := upI (F 23) sd 0) hx hb hK hP hD hS 18 17 rfl rfl (by omega) (by omega) (by decide) dX6_step_280 (fun H locs hP hD hS => ?_)
                                    have hP : va_P (dC, dI) kxCl (mW mo ma cs I (va_up (va_up (va_up (va_up (va_up (va_up (va_up F 20 (upI (F 20) sd pa)) 22 (upI (F 22) sd (-1))) 23 (upI (F 23) sd 0)) 24 (upI (F 24) sd 0)) 21 (upI (F 21) sd (vp_nar .boolean (iz 1)).toInt)) 22 (upI (upI (F 22) sd (-1)) sd 1)) 23 (upI (upI (F 23) sd 0) sd ((20 * p0) + pz)))) H := hP
                                    have hD : va_D A (mW mo ma cs I (va_up (va_up (va_up (va_up (va_up (va_up (va_up F 20 (upI (F 20) sd pa)) 22 (upI (F 22) sd (-1))) 23 (upI (F 23) sd 0)) 24 (upI (F 24) sd 0)) 21 (upI (F 21) sd (vp_nar .boolean (iz 1)).toInt)) 22 (upI (upI (F 22) sd (-1)) sd 1)) 23 (upI (upI (F 23) sd 0) sd ((20 * p0) + pz)))) := hD
                                    refine lv_aload_n hx hb dX6_step_281 rfl (lv_at hl 4 rfl) ?_
                                    refine va_get (D := (dC, dI)) (ci := 6) (v := .ref (ma 24)) (C := RX6) (T := TX6) (N := 44) hx hb hts kt_X6 hown hK hP 0 rfl rfl 24 (by decide) (kx_word hG kq_05_morder_4 rfl) (fun _ h9 => h9) rfl dX6_step_282 ?_
                                    refine lv_iload_n hx hb dX6_step_285 rfl (lv_at hl 5 rfl) ?_
                                    refine lv_iload hx hb dX6_step_286 (lv_at hl 0 rfl) ?_
                                    refine lv_iload_n hx hb dX6_step_288 rfl (lv_at hl 3 rfl) ?_
                                    refine ki_isub hx hb dX6_step_289 ?_
                                    refine ki_iast (F := upI (F 24) sd 0) hx hb hK hP hD hS 19 18 rfl rfl (by omega) (by omega) (by decide) dX6_step_290 (fun H locs hP hD hS => ?_)
                                    have hP : va_P (dC, dI) kxCl (mW mo ma cs I (va_up (va_up (va_up (va_up (va_up (va_up (va_up (va_up F 20 (upI (F 20) sd pa)) 22 (upI (F 22) sd (-1))) 23 (upI (F 23) sd 0)) 24 (upI (F 24) sd 0)) 21 (upI (F 21) sd (vp_nar .boolean (iz 1)).toInt)) 22 (upI (upI (F 22) sd (-1)) sd 1)) 23 (upI (upI (F 23) sd 0) sd ((20 * p0) + pz))) 24 (upI (upI (F 24) sd 0) sd (en - pz)))) H := hP
                                    have hD : va_D A (mW mo ma cs I (va_up (va_up (va_up (va_up (va_up (va_up (va_up (va_up F 20 (upI (F 20) sd pa)) 22 (upI (F 22) sd (-1))) 23 (upI (F 23) sd 0)) 24 (upI (F 24) sd 0)) 21 (upI (F 21) sd (vp_nar .boolean (iz 1)).toInt)) 22 (upI (upI (F 22) sd (-1)) sd 1)) 23 (upI (upI (F 23) sd 0) sd ((20 * p0) + pz))) 24 (upI (upI (F 24) sd 0) sd (en - pz)))) := hD
                                    refine lv_aload_n hx hb dX6_step_291 rfl (lv_at hl 4 rfl) ?_
                                    refine va_get (D := (dC, dI)) (ci := 6) (v := .ref (ma 20)) (C := RX6) (T := TX6) (N := 44) hx hb hts kt_X6 hown hK hP 0 rfl rfl 20 (by decide) (kx_word hG kq_05_morder_0 rfl) (fun _ h9 => h9) rfl dX6_step_292 ?_
                                    refine lv_iload_n hx hb dX6_step_295 rfl (lv_at hl 5 rfl) ?_
                                    refine lv_iload hx hb dX6_step_296 (lv_at hl 0 rfl) ?_
                                    refine ki_iast (F := upI (F 20) sd pa) hx hb hK hP hD hS 15 14 rfl rfl (by omega) (by omega) (by decide) dX6_step_298 (fun H locs hP hD hS => ?_)
                                    have hP : va_P (dC, dI) kxCl (mW mo ma cs I (va_up (va_up (va_up (va_up (va_up (va_up (va_up (va_up (va_up F 20 (upI (F 20) sd pa)) 22 (upI (F 22) sd (-1))) 23 (upI (F 23) sd 0)) 24 (upI (F 24) sd 0)) 21 (upI (F 21) sd (vp_nar .boolean (iz 1)).toInt)) 22 (upI (upI (F 22) sd (-1)) sd 1)) 23 (upI (upI (F 23) sd 0) sd ((20 * p0) + pz))) 24 (upI (upI (F 24) sd 0) sd (en - pz))) 20 (upI (upI (F 20) sd pa) sd en))) H := hP
                                    have hD : va_D A (mW mo ma cs I (va_up (va_up (va_up (va_up (va_up (va_up (va_up (va_up (va_up F 20 (upI (F 20) sd pa)) 22 (upI (F 22) sd (-1))) 23 (upI (F 23) sd 0)) 24 (upI (F 24) sd 0)) 21 (upI (F 21) sd (vp_nar .boolean (iz 1)).toInt)) 22 (upI (upI (F 22) sd (-1)) sd 1)) 23 (upI (upI (F 23) sd 0) sd ((20 * p0) + pz))) 24 (upI (upI (F 24) sd 0) sd (en - pz))) 20 (upI (upI (F 20) sd pa) sd en))) := hD
                                    have e_424 : (va_up (va_up (va_up (va_up (va_up (va_up (va_up (va_up (va_up F 20 (upI (F 20) sd pa)) 22 (upI (F 22) sd (-1))) 23 (upI (F 23) sd 0)) 24 (upI (F 24) sd 0)) 21 (upI (F 21) sd (vp_nar .boolean (iz 1)).toInt)) 22 (upI (upI (F 22) sd (-1)) sd 1)) 23 (upI (upI (F 23) sd 0) sd ((20 * p0) + pz))) 24 (upI (upI (F 24) sd 0) sd (en - pz))) 20 (upI (upI (F 20) sd pa) sd en)) 20 sd = en := upI_self _ _ _
                                    have e_425 : (va_up (va_up (va_up (va_up (va_up (va_up (va_up (va_up (va_up F 20 (upI (F 20) sd pa)) 22 (upI (F 22) sd (-1))) 23 (upI (F 23) sd 0)) 24 (upI (F 24) sd 0)) 21 (upI (F 21) sd (vp_nar .boolean (iz 1)).toInt)) 22 (upI (upI (F 22) sd (-1)) sd 1)) 23 (upI (upI (F 23) sd 0) sd ((20 * p0) + pz))) 24 (upI (upI (F 24) sd 0) sd (en - pz))) 20 (upI (upI (F 20) sd pa) sd en)) 22 sd = 1 := upI_self _ _ _
                                    have e_426 : (va_up (va_up (va_up (va_up (va_up (va_up (va_up (va_up (va_up F 20 (upI (F 20) sd pa)) 22 (upI (F 22) sd (-1))) 23 (upI (F 23) sd 0)) 24 (upI (F 24) sd 0)) 21 (upI (F 21) sd (vp_nar .boolean (iz 1)).toInt)) 22 (upI (upI (F 22) sd (-1)) sd 1)) 23 (upI (upI (F 23) sd 0) sd ((20 * p0) + pz))) 24 (upI (upI (F 24) sd 0) sd (en - pz))) 20 (upI (upI (F 20) sd pa) sd en)) 23 sd = (20 * p0) + pz := upI_self _ _ _
                                    have e_427 : (va_up (va_up (va_up (va_up (va_up (va_up (va_up (va_up (va_up F 20 (upI (F 20) sd pa)) 22 (upI (F 22) sd (-1))) 23 (upI (F 23) sd 0)) 24 (upI (F 24) sd 0)) 21 (upI (F 21) sd (vp_nar .boolean (iz 1)).toInt)) 22 (upI (upI (F 22) sd (-1)) sd 1)) 23 (upI (upI (F 23) sd 0) sd ((20 * p0) + pz))) 24 (upI (upI (F 24) sd 0) sd (en - pz))) 20 (upI (upI (F 20) sd pa) sd en)) 24 sd = en - pz := upI_self _ _ _
                                    have e_428 : (va_up (va_up (va_up (va_up (va_up (va_up (va_up (va_up (va_up F 20 (upI (F 20) sd pa)) 22 (upI (F 22) sd (-1))) 23 (upI (F 23) sd 0)) 24 (upI (F 24) sd 0)) 21 (upI (F 21) sd (vp_nar .boolean (iz 1)).toInt)) 22 (upI (upI (F 22) sd (-1)) sd 1)) 23 (upI (upI (F 23) sd 0) sd ((20 * p0) + pz))) 24 (upI (upI (F 24) sd 0) sd (en - pz))) 20 (upI (upI (F 20) sd pa) sd en)) 21 sd = (vp_nar .boolean (iz 1)).toInt := upI_self _ _ _
                                    rw [← hQe]
                                    exact mk_ret hx hb hr hlocks hP hD hK hS dX6_step_299 (⟨rfl, (mB_f (mB_f (mB_f (mB_f (mB_f (mB_f (mB_f (mB_f (mB_f hB 20 sd (by omega) (by omega)) 22 sd (by omega) (by omega)) 23 sd (by omega) (by omega)) 24 sd (by omega) (by omega)) 21 sd (iz_lo _) (iz_hi _)) 22 sd (by omega) (by omega)) 23 sd (by omega) (by omega)) 24 sd (by omega) (by omega)) 20 sd (by omega) (by omega)), (mfr.upF (mfr.upF (mfr.upF (mfr.upF (mfr.upF (mfr.upF (mfr.upF (mfr.upF (mfr.upF mfr.rf (by decide) _) (by decide) _) (by decide) _) (by decide) _) (by decide) _) (by decide) _) (by decide) _) (by decide) _) (by decide) _), (mo1.up (mo1.up (mo1.up (mo1.up (mo1.up (mo1.up (mo1.up (mo1.up (mo1.up mo1.rf 20 _) 22 _) 23 _) 24 _) 21 _) 22 _) 23 _) 24 _) 20 _), by omega, by omega, by omega⟩)
                                  · skip
                                    refine lv_iinc (v := iz (pz + 1)) (lv' := [(3, .int (iz (pz + 1))), (6, .int (iz en)), (5, .int (iz (F 4 ((20 * p0) + pa)))), (4, .int (iz ps)), (0, .ref mo), (1, .int (iz sd)), (2, .int (iz p0))]) hx hb dX6_step_256 hl (k := 3) rfl (iz_add pz 1) (by decide) rfl (fun ls hl => ?_)
                                    refine lv_goto (tgt := 234) hx hb dX6_step_259 (by decide) ?_
                                    exact ih234 (pz + 1) (by omega) (by omega) _ _ hP hD hS ls (lv_sub hl [1, 2, 3, 0, 4, 5, 6] rfl)
                            exact lp234 _ pa (by omega) (Nat.lt_succ_self _) _ _ hP hD hS ls (lv_sub hl [0, 1, 2, 3, 4, 5, 6] rfl)
                          · skip
                            refine lv_iinc (v := iz (en + 1)) (lv' := [(6, .int (iz (en + 1))), (5, .int (iz (F 4 ((20 * p0) + pa)))), (4, .int (iz ps)), (3, .int (iz pa)), (0, .ref mo), (1, .int (iz sd)), (2, .int (iz p0))]) hx hb dX6_step_228 hl (k := 0) rfl (iz_add en 1) (by decide) rfl (fun ls hl => ?_)
                            refine lv_goto (tgt := 192) hx hb dX6_step_231 (by decide) ?_
                            exact ih192 (en + 1) (by omega) (by omega) _ _ hP hD hS ls (lv_sub hl [0, 1, 2, 3, 4, 5, 6] rfl)
                  exact lp192 _ (pa + 1) (by omega) (Nat.lt_succ_self _) _ _ hP hD hS ls (lv_sub hl [0, 1, 2, 3, 4, 5, 6] rfl)
                · skip
                  refine lv_aload_n hx hb dX6_step_159 rfl (lv_at hl 3 rfl) ?_
                  refine va_get (D := (dC, dI)) (ci := 6) (v := .ref (ma 22)) (C := RX6) (T := TX6) (N := 44) hx hb hts kt_X6 hown hK hP 0 rfl rfl 22 (by decide) (kx_word hG kq_05_morder_2 rfl) (fun _ h9 => h9) rfl dX6_step_160 ?_
                  refine lv_iload_n hx hb dX6_step_163 rfl (lv_at hl 4 rfl) ?_
                  refine lv_iconst (v := iz 2) hx hb dX6_step_164 (by decide) ?_
                  refine ki_iast (F := upI (F 22) sd (-1)) hx hb hK hP hD hS 17 16 rfl rfl (by omega) (by omega) (by decide) dX6_step_165 (fun H locs hP hD hS => ?_)
                  have hP : va_P (dC, dI) kxCl (mW mo ma cs I (va_up (va_up (va_up (va_up (va_up (va_up F 20 (upI (F 20) sd pa)) 22 (upI (F 22) sd (-1))) 23 (upI (F 23) sd 0)) 24 (upI (F 24) sd 0)) 21 (upI (F 21) sd (vp_nar .boolean (iz 1)).toInt)) 22 (upI (upI (F 22) sd (-1)) sd 2))) H := hP
                  have hD : va_D A (mW mo ma cs I (va_up (va_up (va_up (va_up (va_up (va_up F 20 (upI (F 20) sd pa)) 22 (upI (F 22) sd (-1))) 23 (upI (F 23) sd 0)) 24 (upI (F 24) sd 0)) 21 (upI (F 21) sd (vp_nar .boolean (iz 1)).toInt)) 22 (upI (upI (F 22) sd (-1)) sd 2))) := hD
                  refine lv_aload_n hx hb dX6_step_166 rfl (lv_at hl 3 rfl) ?_
                  refine va_get (D := (dC, dI)) (ci := 6) (v := .ref (ma 23)) (C := RX6) (T := TX6) (N := 44) hx hb hts kt_X6 hown hK hP 0 rfl rfl 23 (by decide) (kx_word hG kq_05_morder_3 rfl) (fun _ h9 => h9) rfl dX6_step_167 ?_
                  refine lv_iload_n hx hb dX6_step_170 rfl (lv_at hl 4 rfl) ?_
                  refine lv_iload hx hb dX6_step_171 (lv_at hl 0 rfl) ?_
                  refine mk_calls (As := [.int (iz (F 4 ((20 * p0) + pa)))]) (rest := [.int (iz sd), .ref (ma 23)]) ⟨hx, hb, hml, hown, hts⟩ (k_letterOf l dC dI (F 4 ((20 * p0) + pa)) H.size (by omega) (by omega)) (va_cwS 1 hts (kx_gS kq_05_morder_5 kq_05_morder_6 kq_04_msmall_6 kq_05_morder_7 rfl) rfl rfl rfl (by decide +kernel) ⟨Nat.le_of_ble_eq_true rfl, Nat.le_of_ble_eq_true rfl⟩) hP hD hK hG hZ hS hA rfl hl.1 rfl (Nat.le_of_ble_eq_true rfl) dX6_step_173 ⟨Nat.le_of_ble_eq_true rfl, Nat.le_of_ble_eq_true rfl⟩ (fun z_429 H locs hq_430 hP hS => ?_)
                  try dsimp only at hq_430
                  refine ki_iast (F := upI (F 23) sd 0) hx hb hK hP hD hS 18 17 rfl rfl (by omega) (by omega) (by decide) dX6_step_176 (fun H locs hP hD hS => ?_)
                  have hP : va_P (dC, dI) kxCl (mW mo ma cs I (va_up (va_up (va_up (va_up (va_up (va_up (va_up F 20 (upI (F 20) sd pa)) 22 (upI (F 22) sd (-1))) 23 (upI (F 23) sd 0)) 24 (upI (F 24) sd 0)) 21 (upI (F 21) sd (vp_nar .boolean (iz 1)).toInt)) 22 (upI (upI (F 22) sd (-1)) sd 2)) 23 (upI (upI (F 23) sd 0) sd z_429))) H := hP
                  have hD : va_D A (mW mo ma cs I (va_up (va_up (va_up (va_up (va_up (va_up (va_up F 20 (upI (F 20) sd pa)) 22 (upI (F 22) sd (-1))) 23 (upI (F 23) sd 0)) 24 (upI (F 24) sd 0)) 21 (upI (F 21) sd (vp_nar .boolean (iz 1)).toInt)) 22 (upI (upI (F 22) sd (-1)) sd 2)) 23 (upI (upI (F 23) sd 0) sd z_429))) := hD
                  refine lv_aload_n hx hb dX6_step_177 rfl (lv_at hl 3 rfl) ?_
                  refine va_get (D := (dC, dI)) (ci := 6) (v := .ref (ma 20)) (C := RX6) (T := TX6) (N := 44) hx hb hts kt_X6 hown hK hP 0 rfl rfl 20 (by decide) (kx_word hG kq_05_morder_0 rfl) (fun _ h9 => h9) rfl dX6_step_178 ?_
                  refine lv_iload_n hx hb dX6_step_181 rfl (lv_at hl 4 rfl) ?_
                  refine lv_iload_n hx hb dX6_step_182 rfl (lv_at hl 2 rfl) ?_
                  refine lv_iconst (v := iz 1) hx hb dX6_step_183 (by decide) ?_
                  refine ki_iadd hx hb dX6_step_184 ?_
                  refine ki_iast (F := upI (F 20) sd pa) hx hb hK hP hD hS 15 14 rfl rfl (by omega) (by omega) (by decide) dX6_step_185 (fun H locs hP hD hS => ?_)
                  have hP : va_P (dC, dI) kxCl (mW mo ma cs I (va_up (va_up (va_up (va_up (va_up (va_up (va_up (va_up F 20 (upI (F 20) sd pa)) 22 (upI (F 22) sd (-1))) 23 (upI (F 23) sd 0)) 24 (upI (F 24) sd 0)) 21 (upI (F 21) sd (vp_nar .boolean (iz 1)).toInt)) 22 (upI (upI (F 22) sd (-1)) sd 2)) 23 (upI (upI (F 23) sd 0) sd z_429)) 20 (upI (upI (F 20) sd pa) sd (pa + 1)))) H := hP
                  have hD : va_D A (mW mo ma cs I (va_up (va_up (va_up (va_up (va_up (va_up (va_up (va_up F 20 (upI (F 20) sd pa)) 22 (upI (F 22) sd (-1))) 23 (upI (F 23) sd 0)) 24 (upI (F 24) sd 0)) 21 (upI (F 21) sd (vp_nar .boolean (iz 1)).toInt)) 22 (upI (upI (F 22) sd (-1)) sd 2)) 23 (upI (upI (F 23) sd 0) sd z_429)) 20 (upI (upI (F 20) sd pa) sd (pa + 1)))) := hD
                  have e_431 : (va_up (va_up (va_up (va_up (va_up (va_up (va_up (va_up F 20 (upI (F 20) sd pa)) 22 (upI (F 22) sd (-1))) 23 (upI (F 23) sd 0)) 24 (upI (F 24) sd 0)) 21 (upI (F 21) sd (vp_nar .boolean (iz 1)).toInt)) 22 (upI (upI (F 22) sd (-1)) sd 2)) 23 (upI (upI (F 23) sd 0) sd z_429)) 20 (upI (upI (F 20) sd pa) sd (pa + 1))) 20 sd = pa + 1 := upI_self _ _ _
                  have e_432 : (va_up (va_up (va_up (va_up (va_up (va_up (va_up (va_up F 20 (upI (F 20) sd pa)) 22 (upI (F 22) sd (-1))) 23 (upI (F 23) sd 0)) 24 (upI (F 24) sd 0)) 21 (upI (F 21) sd (vp_nar .boolean (iz 1)).toInt)) 22 (upI (upI (F 22) sd (-1)) sd 2)) 23 (upI (upI (F 23) sd 0) sd z_429)) 20 (upI (upI (F 20) sd pa) sd (pa + 1))) 22 sd = 2 := upI_self _ _ _
                  have e_433 : (va_up (va_up (va_up (va_up (va_up (va_up (va_up (va_up F 20 (upI (F 20) sd pa)) 22 (upI (F 22) sd (-1))) 23 (upI (F 23) sd 0)) 24 (upI (F 24) sd 0)) 21 (upI (F 21) sd (vp_nar .boolean (iz 1)).toInt)) 22 (upI (upI (F 22) sd (-1)) sd 2)) 23 (upI (upI (F 23) sd 0) sd z_429)) 20 (upI (upI (F 20) sd pa) sd (pa + 1))) 23 sd = z_429 := upI_self _ _ _
                  have e_434 : (va_up (va_up (va_up (va_up (va_up (va_up (va_up (va_up F 20 (upI (F 20) sd pa)) 22 (upI (F 22) sd (-1))) 23 (upI (F 23) sd 0)) 24 (upI (F 24) sd 0)) 21 (upI (F 21) sd (vp_nar .boolean (iz 1)).toInt)) 22 (upI (upI (F 22) sd (-1)) sd 2)) 23 (upI (upI (F 23) sd 0) sd z_429)) 20 (upI (upI (F 20) sd pa) sd (pa + 1))) 24 sd = 0 := upI_self _ _ _
                  have e_435 : (va_up (va_up (va_up (va_up (va_up (va_up (va_up (va_up F 20 (upI (F 20) sd pa)) 22 (upI (F 22) sd (-1))) 23 (upI (F 23) sd 0)) 24 (upI (F 24) sd 0)) 21 (upI (F 21) sd (vp_nar .boolean (iz 1)).toInt)) 22 (upI (upI (F 22) sd (-1)) sd 2)) 23 (upI (upI (F 23) sd 0) sd z_429)) 20 (upI (upI (F 20) sd pa) sd (pa + 1))) 21 sd = (vp_nar .boolean (iz 1)).toInt := upI_self _ _ _
                  rw [← hQe]
                  exact mk_ret hx hb hr hlocks hP hD hK hS dX6_step_186 (⟨rfl, (mB_f (mB_f (mB_f (mB_f (mB_f (mB_f (mB_f (mB_f hB 20 sd (by omega) (by omega)) 22 sd (by omega) (by omega)) 23 sd (by omega) (by omega)) 24 sd (by omega) (by omega)) 21 sd (iz_lo _) (iz_hi _)) 22 sd (by omega) (by omega)) 23 sd (by omega) (by omega)) 20 sd (by omega) (by omega)), (mfr.upF (mfr.upF (mfr.upF (mfr.upF (mfr.upF (mfr.upF (mfr.upF (mfr.upF mfr.rf (by decide) _) (by decide) _) (by decide) _) (by decide) _) (by decide) _) (by decide) _) (by decide) _) (by decide) _), (mo1.up (mo1.up (mo1.up (mo1.up (mo1.up (mo1.up (mo1.up (mo1.up mo1.rf 20 _) 22 _) 23 _) 24 _) 21 _) 22 _) 23 _) 20 _), by omega, by omega, by omega⟩)
              · skip
                refine lv_aload_n hx hb dX6_step_107 rfl (lv_at hl 2 rfl) ?_
                refine va_get (D := (dC, dI)) (ci := 6) (v := .int (iz (I 15))) (C := RX6) (T := TX6) (N := 44) hx hb hts kt_X6 hown hK hP 0 rfl rfl 15 (by decide) (kx_word hG kq_04_msmall_18 rfl) (fun _ h9 => h9) rfl dX6_step_108 ?_
                have hbd_436 := hB.1 15
                refine ki_if_eq (tgt := 131) hx hb dX6_step_111 (by decide) (by omega) (by omega) (fun c_437 => ?_) (fun c_437 => ?_)
                · skip
                  refine lv_aload_n hx hb dX6_step_131 rfl (lv_at hl 2 rfl) ?_
                  refine va_get (D := (dC, dI)) (ci := 6) (v := .ref (ma 21)) (C := RX6) (T := TX6) (N := 44) hx hb hts kt_X6 hown hK hP 0 rfl rfl 21 (by decide) (kx_word hG kq_05_morder_1 rfl) (fun _ h9 => h9) rfl dX6_step_132 ?_
                  refine lv_iload_n hx hb dX6_step_135 rfl (lv_at hl 3 rfl) ?_
                  refine lv_iconst (v := iz 1) hx hb dX6_step_136 (by decide) ?_
                  refine ki_zast (F := F 21) hx hb hK hP hD hS 16 15 rfl rfl (by omega) (by omega) (by decide) dX6_step_137 (fun H locs hP hD hS => ?_)
                  have hP : va_P (dC, dI) kxCl (mW mo ma cs I (va_up (va_up (va_up (va_up (va_up F 20 (upI (F 20) sd pa)) 22 (upI (F 22) sd (-1))) 23 (upI (F 23) sd 0)) 24 (upI (F 24) sd 0)) 21 (upI (F 21) sd (vp_nar .boolean (iz 1)).toInt))) H := hP
                  have hD : va_D A (mW mo ma cs I (va_up (va_up (va_up (va_up (va_up F 20 (upI (F 20) sd pa)) 22 (upI (F 22) sd (-1))) 23 (upI (F 23) sd 0)) 24 (upI (F 24) sd 0)) 21 (upI (F 21) sd (vp_nar .boolean (iz 1)).toInt))) := hD
                  refine lv_aload_n hx hb dX6_step_138 rfl (lv_at hl 2 rfl) ?_
                  refine va_get (D := (dC, dI)) (ci := 6) (v := .ref (ma 4)) (C := RX6) (T := TX6) (N := 44) hx hb hts kt_X6 hown hK hP 0 rfl rfl 4 (by decide) (kx_word hG kq_04_msmall_16 rfl) (fun _ h9 => h9) rfl dX6_step_139 ?_
                  refine lv_bipush (v := iz 20) hx hb dX6_step_142 (by decide) ?_
                  refine lv_iload_n hx hb dX6_step_144 rfl (lv_at hl 4 rfl) ?_
                  refine ki_imul hx hb dX6_step_145 ?_
                  refine lv_iload_n hx hb dX6_step_146 rfl (lv_at hl 1 rfl) ?_
                  refine ki_iadd hx hb dX6_step_147 ?_
                  refine ki_iald (F := F 4) hx hb hK hP 3 2 rfl rfl (by omega) (by omega) (by decide) dX6_step_148 ?_
                  refine lv_istore (lv' := [(5, .int (iz (F 4 ((20 * p0) + pa)))), (4, .int (iz ps)), (3, .int (iz pa)), (0, .ref mo), (1, .int (iz sd)), (2, .int (iz p0))]) hx hb dX6_step_149 hl (by decide) rfl (fun ls hl => ?_)
                  refine lv_iload hx hb dX6_step_151 (lv_at hl 0 rfl) ?_
                  refine mk_calls (As := [.int (iz (F 4 ((20 * p0) + pa)))]) (rest := []) ⟨hx, hb, hml, hown, hts⟩ (k_letterOf l dC dI (F 4 ((20 * p0) + pa)) H.size (by omega) (by omega)) (va_cwS 1 hts (kx_gS kq_05_morder_5 kq_05_morder_6 kq_04_msmall_6 kq_05_morder_7 rfl) rfl rfl rfl (by decide +kernel) ⟨Nat.le_of_ble_eq_true rfl, Nat.le_of_ble_eq_true rfl⟩) hP hD hK hG hZ hS hA rfl hl.1 rfl (Nat.le_of_ble_eq_true rfl) dX6_step_153 ⟨Nat.le_of_ble_eq_true rfl, Nat.le_of_ble_eq_true rfl⟩ (fun z_438 H locs hq_439 hP hS => ?_)
                  try dsimp only at hq_439
                  refine ki_if_le (tgt := 187) hx hb dX6_step_156 (by decide) (by omega) (by omega) (fun c_440 => ?_) (fun c_440 => ?_)
                  · skip
                    refine lv_iload_n hx hb dX6_step_187 rfl (lv_at hl 2 rfl) ?_
                    refine lv_iconst (v := iz 1) hx hb dX6_step_188 (by decide) ?_
                    refine ki_iadd hx hb dX6_step_189 ?_
                    refine lv_istore (lv' := [(6, .int (iz (pa + 1))), (5, .int (iz (F 4 ((20 * p0) + pa)))), (4, .int (iz ps)), (3, .int (iz pa)), (0, .ref mo), (1, .int (iz sd)), (2, .int (iz p0))]) hx hb dX6_step_190 hl (by decide) rfl (fun ls hl => ?_)
                    have lp192 : ∀ (n : Nat) (en : Int), ((pa + 1 ≤ en ∧ en ≤ F 5 p0)) → (F 5 p0 - en).toNat < n → ∀ (H : Heap) (locs : List Loc), va_P (dC, dI) kxCl (mW mo ma cs I (va_up (va_up (va_up (va_up (va_up F 20 (upI (F 20) sd pa)) 22 (upI (F 22) sd (-1))) 23 (upI (F 23) sd 0)) 24 (upI (F 24) sd 0)) 21 (upI (F 21) sd (vp_nar .boolean (iz 1)).toInt))) H → va_D A (mW mo ma cs I (va_up (va_up (va_up (va_up (va_up F 20 (upI (F 20) sd pa)) 22 (upI (F 22) sd (-1))) 23 (upI (F 23) sd 0)) 24 (upI (F 24) sd 0)) 21 (upI (F 21) sd (vp_nar .boolean (iz 1)).toInt))) → va_S A s.heap H locs → ∀ ls : Array Slot, lv_has ls 7 [(6, .int (iz en)), (5, .int (iz (F 4 ((20 * p0) + pa)))), (4, .int (iz ps)), (3, .int (iz pa)), (0, .ref mo), (1, .int (iz sd)), (2, .int (iz p0))] → W p l e (headSpec [.code yX6_step cX6_step 7 none] ({ frames := 1, cells := 0, slots := 0, locals := 21 })).room s m ([.ref mo, .int (iz sd), .int (iz p0)] : List Value).toArray below meth c H locs 0 0 QQ (F0 m 192 ls []) := by
                      intro n
                      induction n with
                      | zero => intro en hinv hm; exact absurd hm (Nat.not_lt_zero _)
                      | succ n ih192 =>
                        intro en hinv hm H locs hP hD hS ls hl
                        have hen := hinv
                        refine lv_aload_n hx hb dX6_step_192 rfl (lv_at hl 4 rfl) ?_
                        refine va_get (D := (dC, dI)) (ci := 6) (v := .int (iz (I 14))) (C := RX6) (T := TX6) (N := 44) hx hb hts kt_X6 hown hK hP 0 rfl rfl 14 (by decide) (kx_word hG kq_04_msmall_17 rfl) (fun _ h9 => h9) rfl dX6_step_193 ?_
                        have hbd_441 := hB.1 14
                        refine ki_if_eq (tgt := 234) hx hb dX6_step_196 (by decide) (by omega) (by omega) (fun c_442 => ?_) (fun c_442 => ?_)
                        · skip
                          have lp234 : ∀ (n : Nat) (pz : Int), ((pa ≤ pz ∧ pz ≤ en)) → (en - pz).toNat < n → ∀ (H : Heap) (locs : List Loc), va_P (dC, dI) kxCl (mW mo ma cs I (va_up (va_up (va_up (va_up (va_up F 20 (upI (F 20) sd pa)) 22 (upI (F 22) sd (-1))) 23 (upI (F 23) sd 0)) 24 (upI (F 24) sd 0)) 21 (upI (F 21) sd (vp_nar .boolean (iz 1)).toInt))) H → va_D A (mW mo ma cs I (va_up (va_up (va_up (va_up (va_up F 20 (upI (F 20) sd pa)) 22 (upI (F 22) sd (-1))) 23 (upI (F 23) sd 0)) 24 (upI (F 24) sd 0)) 21 (upI (F 21) sd (vp_nar .boolean (iz 1)).toInt))) → va_S A s.heap H locs → ∀ ls : Array Slot, lv_has ls 7 [(6, .int (iz en)), (5, .int (iz (F 4 ((20 * p0) + pa)))), (4, .int (iz ps)), (3, .int (iz pz)), (0, .ref mo), (1, .int (iz sd)), (2, .int (iz p0))] → W p l e (headSpec [.code yX6_step cX6_step 7 none] ({ frames := 1, cells := 0, slots := 0, locals := 21 })).room s m ([.ref mo, .int (iz sd), .int (iz p0)] : List Value).toArray below meth c H locs 0 0 QQ (F0 m 234 ls []) := by
                            intro n
                            induction n with
                            | zero => intro pz hinv hm; exact absurd hm (Nat.not_lt_zero _)
                            | succ n ih234 =>
                              intro pz hinv hm H locs hP hD hS ls hl
                              have hpz := hinv
                              refine lv_iload_n hx hb dX6_step_234 rfl (lv_at hl 3 rfl) ?_
                              refine lv_iload hx hb dX6_step_235 (lv_at hl 0 rfl) ?_
                              refine ki_icmp_ge (tgt := 262) hx hb dX6_step_237 (by decide) (by omega) (by omega) (by omega) (by omega) (fun c_443 => ?_) (fun c_443 => ?_)
                              · skip
                                refine lv_aload_n hx hb dX6_step_262 rfl (lv_at hl 4 rfl) ?_
                                refine va_get (D := (dC, dI)) (ci := 6) (v := .ref (ma 22)) (C := RX6) (T := TX6) (N := 44) hx hb hts kt_X6 hown hK hP 0 rfl rfl 22 (by decide) (kx_word hG kq_05_morder_2 rfl) (fun _ h9 => h9) rfl dX6_step_263 ?_
                                refine lv_iload_n hx hb dX6_step_266 rfl (lv_at hl 5 rfl) ?_
                                refine lv_iconst (v := iz 1) hx hb dX6_step_267 (by decide) ?_
                                refine ki_iast (F := upI (F 22) sd (-1)) hx hb hK hP hD hS 17 16 rfl rfl (by omega) (by omega) (by decide) dX6_step_268 (fun H locs hP hD hS => ?_)
                                have hP : va_P (dC, dI) kxCl (mW mo ma cs I (va_up (va_up (va_up (va_up (va_up (va_up F 20 (upI (F 20) sd pa)) 22 (upI (F 22) sd (-1))) 23 (upI (F 23) sd 0)) 24 (upI (F 24) sd 0)) 21 (upI (F 21) sd (vp_nar .boolean (iz 1)).toInt)) 22 (upI (upI (F 22) sd (-1)) sd 1))) H := hP
                                have hD : va_D A (mW mo ma cs I (va_up (va_up (va_up (va_up (va_up (va_up F 20 (upI (F 20) sd pa)) 22 (upI (F 22) sd (-1))) 23 (upI (F 23) sd 0)) 24 (upI (F 24) sd 0)) 21 (upI (F 21) sd (vp_nar .boolean (iz 1)).toInt)) 22 (upI (upI (F 22) sd (-1)) sd 1))) := hD
                                refine lv_aload_n hx hb dX6_step_269 rfl (lv_at hl 4 rfl) ?_
                                refine va_get (D := (dC, dI)) (ci := 6) (v := .ref (ma 23)) (C := RX6) (T := TX6) (N := 44) hx hb hts kt_X6 hown hK hP 0 rfl rfl 23 (by decide) (kx_word hG kq_05_morder_3 rfl) (fun _ h9 => h9) rfl dX6_step_270 ?_
                                refine lv_iload_n hx hb dX6_step_273 rfl (lv_at hl 5 rfl) ?_
                                refine lv_bipush (v := iz 20) hx hb dX6_step_274 (by decide) ?_
                                refine lv_iload_n hx hb dX6_step_276 rfl (lv_at hl 6 rfl) ?_
                                refine ki_imul hx hb dX6_step_277 ?_
                                refine lv_iload_n hx hb dX6_step_278 rfl (lv_at hl 3 rfl) ?_
                                refine ki_iadd hx hb dX6_step_279 ?_
                                refine ki_iast (F := upI (F 23) sd 0) hx hb hK hP hD hS 18 17 rfl rfl (by omega) (by omega) (by decide) dX6_step_280 (fun H locs hP hD hS => ?_)
                                have hP : va_P (dC, dI) kxCl (mW mo ma cs I (va_up (va_up (va_up (va_up (va_up (va_up (va_up F 20 (upI (F 20) sd pa)) 22 (upI (F 22) sd (-1))) 23 (upI (F 23) sd 0)) 24 (upI (F 24) sd 0)) 21 (upI (F 21) sd (vp_nar .boolean (iz 1)).toInt)) 22 (upI (upI (F 22) sd (-1)) sd 1)) 23 (upI (upI (F 23) sd 0) sd ((20 * p0) + pz)))) H := hP
                                have hD : va_D A (mW mo ma cs I (va_up (va_up (va_up (va_up (va_up (va_up (va_up F 20 (upI (F 20) sd pa)) 22 (upI (F 22) sd (-1))) 23 (upI (F 23) sd 0)) 24 (upI (F 24) sd 0)) 21 (upI (F 21) sd (vp_nar .boolean (iz 1)).toInt)) 22 (upI (upI (F 22) sd (-1)) sd 1)) 23 (upI (upI (F 23) sd 0) sd ((20 * p0) + pz)))) := hD
                                refine lv_aload_n hx hb dX6_step_281 rfl (lv_at hl 4 rfl) ?_
                                refine va_get (D := (dC, dI)) (ci := 6) (v := .ref (ma 24)) (C := RX6) (T := TX6) (N := 44) hx hb hts kt_X6 hown hK hP 0 rfl rfl 24 (by decide) (kx_word hG kq_05_morder_4 rfl) (fun _ h9 => h9) rfl dX6_step_282 ?_
                                refine lv_iload_n hx hb dX6_step_285 rfl (lv_at hl 5 rfl) ?_
                                refine lv_iload hx hb dX6_step_286 (lv_at hl 0 rfl) ?_
                                refine lv_iload_n hx hb dX6_step_288 rfl (lv_at hl 3 rfl) ?_
                                refine ki_isub hx hb dX6_step_289 ?_
                                refine ki_iast (F := upI (F 24) sd 0) hx hb hK hP hD hS 19 18 rfl rfl (by omega) (by omega) (by decide) dX6_step_290 (fun H locs hP hD hS => ?_)
                                have hP : va_P (dC, dI) kxCl (mW mo ma cs I (va_up (va_up (va_up (va_up (va_up (va_up (va_up (va_up F 20 (upI (F 20) sd pa)) 22 (upI (F 22) sd (-1))) 23 (upI (F 23) sd 0)) 24 (upI (F 24) sd 0)) 21 (upI (F 21) sd (vp_nar .boolean (iz 1)).toInt)) 22 (upI (upI (F 22) sd (-1)) sd 1)) 23 (upI (upI (F 23) sd 0) sd ((20 * p0) + pz))) 24 (upI (upI (F 24) sd 0) sd (en - pz)))) H := hP
                                have hD : va_D A (mW mo ma cs I (va_up (va_up (va_up (va_up (va_up (va_up (va_up (va_up F 20 (upI (F 20) sd pa)) 22 (upI (F 22) sd (-1))) 23 (upI (F 23) sd 0)) 24 (upI (F 24) sd 0)) 21 (upI (F 21) sd (vp_nar .boolean (iz 1)).toInt)) 22 (upI (upI (F 22) sd (-1)) sd 1)) 23 (upI (upI (F 23) sd 0) sd ((20 * p0) + pz))) 24 (upI (upI (F 24) sd 0) sd (en - pz)))) := hD
                                refine lv_aload_n hx hb dX6_step_291 rfl (lv_at hl 4 rfl) ?_
                                refine va_get (D := (dC, dI)) (ci := 6) (v := .ref (ma 20)) (C := RX6) (T := TX6) (N := 44) hx hb hts kt_X6 hown hK hP 0 rfl rfl 20 (by decide) (kx_word hG kq_05_morder_0 rfl) (fun _ h9 => h9) rfl dX6_step_292 ?_
                                refine lv_iload_n hx hb dX6_step_295 rfl (lv_at hl 5 rfl) ?_
                                refine lv_iload hx hb dX6_step_296 (lv_at hl 0 rfl) ?_
                                refine ki_iast (F := upI (F 20) sd pa) hx hb hK hP hD hS 15 14 rfl rfl (by omega) (by omega) (by decide) dX6_step_298 (fun H locs hP hD hS => ?_)
                                have hP : va_P (dC, dI) kxCl (mW mo ma cs I (va_up (va_up (va_up (va_up (va_up (va_up (va_up (va_up (va_up F 20 (upI (F 20) sd pa)) 22 (upI (F 22) sd (-1))) 23 (upI (F 23) sd 0)) 24 (upI (F 24) sd 0)) 21 (upI (F 21) sd (vp_nar .boolean (iz 1)).toInt)) 22 (upI (upI (F 22) sd (-1)) sd 1)) 23 (upI (upI (F 23) sd 0) sd ((20 * p0) + pz))) 24 (upI (upI (F 24) sd 0) sd (en - pz))) 20 (upI (upI (F 20) sd pa) sd en))) H := hP
                                have hD : va_D A (mW mo ma cs I (va_up (va_up (va_up (va_up (va_up (va_up (va_up (va_up (va_up F 20 (upI (F 20) sd pa)) 22 (upI (F 22) sd (-1))) 23 (upI (F 23) sd 0)) 24 (upI (F 24) sd 0)) 21 (upI (F 21) sd (vp_nar .boolean (iz 1)).toInt)) 22 (upI (upI (F 22) sd (-1)) sd 1)) 23 (upI (upI (F 23) sd 0) sd ((20 * p0) + pz))) 24 (upI (upI (F 24) sd 0) sd (en - pz))) 20 (upI (upI (F 20) sd pa) sd en))) := hD
                                have e_444 : (va_up (va_up (va_up (va_up (va_up (va_up (va_up (va_up (va_up F 20 (upI (F 20) sd pa)) 22 (upI (F 22) sd (-1))) 23 (upI (F 23) sd 0)) 24 (upI (F 24) sd 0)) 21 (upI (F 21) sd (vp_nar .boolean (iz 1)).toInt)) 22 (upI (upI (F 22) sd (-1)) sd 1)) 23 (upI (upI (F 23) sd 0) sd ((20 * p0) + pz))) 24 (upI (upI (F 24) sd 0) sd (en - pz))) 20 (upI (upI (F 20) sd pa) sd en)) 20 sd = en := upI_self _ _ _
                                have e_445 : (va_up (va_up (va_up (va_up (va_up (va_up (va_up (va_up (va_up F 20 (upI (F 20) sd pa)) 22 (upI (F 22) sd (-1))) 23 (upI (F 23) sd 0)) 24 (upI (F 24) sd 0)) 21 (upI (F 21) sd (vp_nar .boolean (iz 1)).toInt)) 22 (upI (upI (F 22) sd (-1)) sd 1)) 23 (upI (upI (F 23) sd 0) sd ((20 * p0) + pz))) 24 (upI (upI (F 24) sd 0) sd (en - pz))) 20 (upI (upI (F 20) sd pa) sd en)) 22 sd = 1 := upI_self _ _ _
                                have e_446 : (va_up (va_up (va_up (va_up (va_up (va_up (va_up (va_up (va_up F 20 (upI (F 20) sd pa)) 22 (upI (F 22) sd (-1))) 23 (upI (F 23) sd 0)) 24 (upI (F 24) sd 0)) 21 (upI (F 21) sd (vp_nar .boolean (iz 1)).toInt)) 22 (upI (upI (F 22) sd (-1)) sd 1)) 23 (upI (upI (F 23) sd 0) sd ((20 * p0) + pz))) 24 (upI (upI (F 24) sd 0) sd (en - pz))) 20 (upI (upI (F 20) sd pa) sd en)) 23 sd = (20 * p0) + pz := upI_self _ _ _
                                have e_447 : (va_up (va_up (va_up (va_up (va_up (va_up (va_up (va_up (va_up F 20 (upI (F 20) sd pa)) 22 (upI (F 22) sd (-1))) 23 (upI (F 23) sd 0)) 24 (upI (F 24) sd 0)) 21 (upI (F 21) sd (vp_nar .boolean (iz 1)).toInt)) 22 (upI (upI (F 22) sd (-1)) sd 1)) 23 (upI (upI (F 23) sd 0) sd ((20 * p0) + pz))) 24 (upI (upI (F 24) sd 0) sd (en - pz))) 20 (upI (upI (F 20) sd pa) sd en)) 24 sd = en - pz := upI_self _ _ _
                                have e_448 : (va_up (va_up (va_up (va_up (va_up (va_up (va_up (va_up (va_up F 20 (upI (F 20) sd pa)) 22 (upI (F 22) sd (-1))) 23 (upI (F 23) sd 0)) 24 (upI (F 24) sd 0)) 21 (upI (F 21) sd (vp_nar .boolean (iz 1)).toInt)) 22 (upI (upI (F 22) sd (-1)) sd 1)) 23 (upI (upI (F 23) sd 0) sd ((20 * p0) + pz))) 24 (upI (upI (F 24) sd 0) sd (en - pz))) 20 (upI (upI (F 20) sd pa) sd en)) 21 sd = (vp_nar .boolean (iz 1)).toInt := upI_self _ _ _
                                rw [← hQe]
                                exact mk_ret hx hb hr hlocks hP hD hK hS dX6_step_299 (⟨rfl, (mB_f (mB_f (mB_f (mB_f (mB_f (mB_f (mB_f (mB_f (mB_f hB 20 sd (by omega) (by omega)) 22 sd (by omega) (by omega)) 23 sd (by omega) (by omega)) 24 sd (by omega) (by omega)) 21 sd (iz_lo _) (iz_hi _)) 22 sd (by omega) (by omega)) 23 sd (by omega) (by omega)) 24 sd (by omega) (by omega)) 20 sd (by omega) (by omega)), (mfr.upF (mfr.upF (mfr.upF (mfr.upF (mfr.upF (mfr.upF (mfr.upF (mfr.upF (mfr.upF mfr.rf (by decide) _) (by decide) _) (by decide) _) (by decide) _) (by decide) _) (by decide) _) (by decide) _) (by decide) _) (by decide) _), (mo1.up (mo1.up (mo1.up (mo1.up (mo1.up (mo1.up (mo1.up (mo1.up (mo1.up mo1.rf 20 _) 22 _) 23 _) 24 _) 21 _) 22 _) 23 _) 24 _) 20 _), by omega, by omega, by omega⟩)
                              · skip
                                refine lv_aload_n hx hb dX6_step_240 rfl (lv_at hl 4 rfl) ?_
                                refine va_get (D := (dC, dI)) (ci := 6) (v := .ref (ma 4)) (C := RX6) (T := TX6) (N := 44) hx hb hts kt_X6 hown hK hP 0 rfl rfl 4 (by decide) (kx_word hG kq_04_msmall_16 rfl) (fun _ h9 => h9) rfl dX6_step_241 ?_
                                refine lv_bipush (v := iz 20) hx hb dX6_step_244 (by decide) ?_
                                refine lv_iload_n hx hb dX6_step_246 rfl (lv_at hl 6 rfl) ?_
                                refine ki_imul hx hb dX6_step_247 ?_
                                refine lv_iload_n hx hb dX6_step_248 rfl (lv_at hl 3 rfl) ?_
                                refine ki_iadd hx hb dX6_step_249 ?_
                                refine ki_iald (F := F 4) hx hb hK hP 3 2 rfl rfl (by omega) (by omega) (by decide) dX6_step_250 ?_
                                have hbd_449 := hB.2 4 ((20 * p0) + pz)
                                refine lv_bipush (v := iz 48) hx hb dX6_step_251 (by decide) ?_
                                refine ki_icmp_ne (tgt := 262) hx hb dX6_step_253 (by decide) (by omega) (by omega) (by omega) (by omega) (fun c_450 => ?_) (fun c_450 => ?_)
                                · skip
                                  refine lv_aload_n hx hb dX6_step_262 rfl (lv_at hl 4 rfl) ?_
                                  refine va_get (D := (dC, dI)) (ci := 6) (v := .ref (ma 22)) (C := RX6) (T := TX6) (N := 44) hx hb hts kt_X6 hown hK hP 0 rfl rfl 22 (by decide) (kx_word hG kq_05_morder_2 rfl) (fun _ h9 => h9) rfl dX6_step_263 ?_
                                  refine lv_iload_n hx hb dX6_step_266 rfl (lv_at hl 5 rfl) ?_
                                  refine lv_iconst (v := iz 1) hx hb dX6_step_267 (by decide) ?_
                                  refine ki_iast (F := upI (F 22) sd (-1)) hx hb hK hP hD hS 17 16 rfl rfl (by omega) (by omega) (by decide) dX6_step_268 (fun H locs hP hD hS => ?_)
                                  have hP : va_P (dC, dI) kxCl (mW mo ma cs I (va_up (va_up (va_up (va_up (va_up (va_up F 20 (upI (F 20) sd pa)) 22 (upI (F 22) sd (-1))) 23 (upI (F 23) sd 0)) 24 (upI (F 24) sd 0)) 21 (upI (F 21) sd (vp_nar .boolean (iz 1)).toInt)) 22 (upI (upI (F 22) sd (-1)) sd 1))) H := hP
                                  have hD : va_D A (mW mo ma cs I (va_up (va_up (va_up (va_up (va_up (va_up F 20 (upI (F 20) sd pa)) 22 (upI (F 22) sd (-1))) 23 (upI (F 23) sd 0)) 24 (upI (F 24) sd 0)) 21 (upI (F 21) sd (vp_nar .boolean (iz 1)).toInt)) 22 (upI (upI (F 22) sd (-1)) sd 1))) := hD
                                  refine lv_aload_n hx hb dX6_step_269 rfl (lv_at hl 4 rfl) ?_
                                  refine va_get (D := (dC, dI)) (ci := 6) (v := .ref (ma 23)) (C := RX6) (T := TX6) (N := 44) hx hb hts kt_X6 hown hK hP 0 rfl rfl 23 (by decide) (kx_word hG kq_05_morder_3 rfl) (fun _ h9 => h9) rfl dX6_step_270 ?_
                                  refine lv_iload_n hx hb dX6_step_273 rfl (lv_at hl 5 rfl) ?_
                                  refine lv_bipush (v := iz 20) hx hb dX6_step_274 (by decide) ?_
                                  refine lv_iload_n hx hb dX6_step_276 rfl (lv_at hl 6 rfl) ?_
                                  refine ki_imul hx hb dX6_step_277 ?_
                                  refine lv_iload_n hx hb dX6_step_278 rfl (lv_at hl 3 rfl) ?_
                                  refine ki_iadd hx hb dX6_step_279 ?_
                                  refine ki_iast (F := upI (F 23) sd 0) hx hb hK hP hD hS 18 17 rfl rfl (by omega) (by omega) (by decide) dX6_step_280 (fun H locs hP hD hS => ?_)
                                  have hP : va_P (dC, dI) kxCl (mW mo ma cs I (va_up (va_up (va_up (va_up (va_up (va_up (va_up F 20 (upI (F 20) sd pa)) 22 (upI (F 22) sd (-1))) 23 (upI (F 23) sd 0)) 24 (upI (F 24) sd 0)) 21 (upI (F 21) sd (vp_nar .boolean (iz 1)).toInt)) 22 (upI (upI (F 22) sd (-1)) sd 1)) 23 (upI (upI (F 23) sd 0) sd ((20 * p0) + pz)))) H := hP
                                  have hD : va_D A (mW mo ma cs I (va_up (va_up (va_up (va_up (va_up (va_up (va_up F 20 (upI (F 20) sd pa)) 22 (upI (F 22) sd (-1))) 23 (upI (F 23) sd 0)) 24 (upI (F 24) sd 0)) 21 (upI (F 21) sd (vp_nar .boolean (iz 1)).toInt)) 22 (upI (upI (F 22) sd (-1)) sd 1)) 23 (upI (upI (F 23) sd 0) sd ((20 * p0) + pz)))) := hD
                                  refine lv_aload_n hx hb dX6_step_281 rfl (lv_at hl 4 rfl) ?_
                                  refine va_get (D := (dC, dI)) (ci := 6) (v := .ref (ma 24)) (C := RX6) (T := TX6) (N := 44) hx hb hts kt_X6 hown hK hP 0 rfl rfl 24 (by decide) (kx_word hG kq_05_morder_4 rfl) (fun _ h9 => h9) rfl dX6_step_282 ?_
                                  refine lv_iload_n hx hb dX6_step_285 rfl (lv_at hl 5 rfl) ?_
                                  refine lv_iload hx hb dX6_step_286 (lv_at hl 0 rfl) ?_
                                  refine lv_iload_n hx hb dX6_step_288 rfl (lv_at hl 3 rfl) ?_
                                  refine ki_isub hx hb dX6_step_289 ?_
                                  refine ki_iast (F := upI (F 24) sd 0) hx hb hK hP hD hS 19 18 rfl rfl (by omega) (by omega) (by decide) dX6_step_290 (fun H locs hP hD hS => ?_)
                                  have hP : va_P (dC, dI) kxCl (mW mo ma cs I (va_up (va_up (va_up (va_up (va_up (va_up (va_up (va_up F 20 (upI (F 20) sd pa)) 22 (upI (F 22) sd (-1))) 23 (upI (F 23) sd 0)) 24 (upI (F 24) sd 0)) 21 (upI (F 21) sd (vp_nar .boolean (iz 1)).toInt)) 22 (upI (upI (F 22) sd (-1)) sd 1)) 23 (upI (upI (F 23) sd 0) sd ((20 * p0) + pz))) 24 (upI (upI (F 24) sd 0) sd (en - pz)))) H := hP
                                  have hD : va_D A (mW mo ma cs I (va_up (va_up (va_up (va_up (va_up (va_up (va_up (va_up F 20 (upI (F 20) sd pa)) 22 (upI (F 22) sd (-1))) 23 (upI (F 23) sd 0)) 24 (upI (F 24) sd 0)) 21 (upI (F 21) sd (vp_nar .boolean (iz 1)).toInt)) 22 (upI (upI (F 22) sd (-1)) sd 1)) 23 (upI (upI (F 23) sd 0) sd ((20 * p0) + pz))) 24 (upI (upI (F 24) sd 0) sd (en - pz)))) := hD
                                  refine lv_aload_n hx hb dX6_step_291 rfl (lv_at hl 4 rfl) ?_
                                  refine va_get (D := (dC, dI)) (ci := 6) (v := .ref (ma 20)) (C := RX6) (T := TX6) (N := 44) hx hb hts kt_X6 hown hK hP 0 rfl rfl 20 (by decide) (kx_word hG kq_05_morder_0 rfl) (fun _ h9 => h9) rfl dX6_step_292 ?_
                                  refine lv_iload_n hx hb dX6_step_295 rfl (lv_at hl 5 rfl) ?_
                                  refine lv_iload hx hb dX6_step_296 (lv_at hl 0 rfl) ?_
                                  refine ki_iast (F := upI (F 20) sd pa) hx hb hK hP hD hS 15 14 rfl rfl (by omega) (by omega) (by decide) dX6_step_298 (fun H locs hP hD hS => ?_)
                                  have hP : va_P (dC, dI) kxCl (mW mo ma cs I (va_up (va_up (va_up (va_up (va_up (va_up (va_up (va_up (va_up F 20 (upI (F 20) sd pa)) 22 (upI (F 22) sd (-1))) 23 (upI (F 23) sd 0)) 24 (upI (F 24) sd 0)) 21 (upI (F 21) sd (vp_nar .boolean (iz 1)).toInt)) 22 (upI (upI (F 22) sd (-1)) sd 1)) 23 (upI (upI (F 23) sd 0) sd ((20 * p0) + pz))) 24 (upI (upI (F 24) sd 0) sd (en - pz))) 20 (upI (upI (F 20) sd pa) sd en))) H := hP
                                  have hD : va_D A (mW mo ma cs I (va_up (va_up (va_up (va_up (va_up (va_up (va_up (va_up (va_up F 20 (upI (F 20) sd pa)) 22 (upI (F 22) sd (-1))) 23 (upI (F 23) sd 0)) 24 (upI (F 24) sd 0)) 21 (upI (F 21) sd (vp_nar .boolean (iz 1)).toInt)) 22 (upI (upI (F 22) sd (-1)) sd 1)) 23 (upI (upI (F 23) sd 0) sd ((20 * p0) + pz))) 24 (upI (upI (F 24) sd 0) sd (en - pz))) 20 (upI (upI (F 20) sd pa) sd en))) := hD
                                  have e_451 : (va_up (va_up (va_up (va_up (va_up (va_up (va_up (va_up (va_up F 20 (upI (F 20) sd pa)) 22 (upI (F 22) sd (-1))) 23 (upI (F 23) sd 0)) 24 (upI (F 24) sd 0)) 21 (upI (F 21) sd (vp_nar .boolean (iz 1)).toInt)) 22 (upI (upI (F 22) sd (-1)) sd 1)) 23 (upI (upI (F 23) sd 0) sd ((20 * p0) + pz))) 24 (upI (upI (F 24) sd 0) sd (en - pz))) 20 (upI (upI (F 20) sd pa) sd en)) 20 sd = en := upI_self _ _ _
                                  have e_452 : (va_up (va_up (va_up (va_up (va_up (va_up (va_up (va_up (va_up F 20 (upI (F 20) sd pa)) 22 (upI (F 22) sd (-1))) 23 (upI (F 23) sd 0)) 24 (upI (F 24) sd 0)) 21 (upI (F 21) sd (vp_nar .boolean (iz 1)).toInt)) 22 (upI (upI (F 22) sd (-1)) sd 1)) 23 (upI (upI (F 23) sd 0) sd ((20 * p0) + pz))) 24 (upI (upI (F 24) sd 0) sd (en - pz))) 20 (upI (upI (F 20) sd pa) sd en)) 22 sd = 1 := upI_self _ _ _
                                  have e_453 : (va_up (va_up (va_up (va_up (va_up (va_up (va_up (va_up (va_up F 20 (upI (F 20) sd pa)) 22 (upI (F 22) sd (-1))) 23 (upI (F 23) sd 0)) 24 (upI (F 24) sd 0)) 21 (upI (F 21) sd (vp_nar .boolean (iz 1)).toInt)) 22 (upI (upI (F 22) sd (-1)) sd 1)) 23 (upI (upI (F 23) sd 0) sd ((20 * p0) + pz))) 24 (upI (upI (F 24) sd 0) sd (en - pz))) 20 (upI (upI (F 20) sd pa) sd en)) 23 sd = (20 * p0) + pz := upI_self _ _ _
                                  have e_454 : (va_up (va_up (va_up (va_up (va_up (va_up (va_up (va_up (va_up F 20 (upI (F 20) sd pa)) 22 (upI (F 22) sd (-1))) 23 (upI (F 23) sd 0)) 24 (upI (F 24) sd 0)) 21 (upI (F 21) sd (vp_nar .boolean (iz 1)).toInt)) 22 (upI (upI (F 22) sd (-1)) sd 1)) 23 (upI (upI (F 23) sd 0) sd ((20 * p0) + pz))) 24 (upI (upI (F 24) sd 0) sd (en - pz))) 20 (upI (upI (F 20) sd pa) sd en)) 24 sd = en - pz := upI_self _ _ _
                                  have e_455 : (va_up (va_up (va_up (va_up (va_up (va_up (va_up (va_up (va_up F 20 (upI (F 20) sd pa)) 22 (upI (F 22) sd (-1))) 23 (upI (F 23) sd 0)) 24 (upI (F 24) sd 0)) 21 (upI (F 21) sd (vp_nar .boolean (iz 1)).toInt)) 22 (upI (upI (F 22) sd (-1)) sd 1)) 23 (upI (upI (F 23) sd 0) sd ((20 * p0) + pz))) 24 (upI (upI (F 24) sd 0) sd (en - pz))) 20 (upI (upI (F 20) sd pa) sd en)) 21 sd = (vp_nar .boolean (iz 1)).toInt := upI_self _ _ _
                                  rw [← hQe]
                                  exact mk_ret hx hb hr hlocks hP hD hK hS dX6_step_299 (⟨rfl, (mB_f (mB_f (mB_f (mB_f (mB_f (mB_f (mB_f (mB_f (mB_f hB 20 sd (by omega) (by omega)) 22 sd (by omega) (by omega)) 23 sd (by omega) (by omega)) 24 sd (by omega) (by omega)) 21 sd (iz_lo _) (iz_hi _)) 22 sd (by omega) (by omega)) 23 sd (by omega) (by omega)) 24 sd (by omega) (by omega)) 20 sd (by omega) (by omega)), (mfr.upF (mfr.upF (mfr.upF (mfr.upF (mfr.upF (mfr.upF (mfr.upF (mfr.upF (mfr.upF mfr.rf (by decide) _) (by decide) _) (by decide) _) (by decide) _) (by decide) _) (by decide) _) (by decide) _) (by decide) _) (by decide) _), (mo1.up (mo1.up (mo1.up (mo1.up (mo1.up (mo1.up (mo1.up (mo1.up (mo1.up mo1.rf 20 _) 22 _) 23 _) 24 _) 21 _) 22 _) 23 _) 24 _) 20 _), by omega, by omega, by omega⟩)
                                · skip
                                  refine lv_iinc (v := iz (pz + 1)) (lv' := [(3, .int (iz (pz + 1))), (6, .int (iz en)), (5, .int (iz (F 4 ((20 * p0) + pa)))), (4, .int (iz ps)), (0, .ref mo), (1, .int (iz sd)), (2, .int (iz p0))]) hx hb dX6_step_256 hl (k := 3) rfl (iz_add pz 1) (by decide) rfl (fun ls hl => ?_)
                                  refine lv_goto (tgt := 234) hx hb dX6_step_259 (by decide) ?_
                                  exact ih234 (pz + 1) (by omega) (by omega) _ _ hP hD hS ls (lv_sub hl [1, 2, 3, 0, 4, 5, 6] rfl)
                          exact lp234 _ pa (by omega) (Nat.lt_succ_self _) _ _ hP hD hS ls (lv_sub hl [0, 1, 2, 3, 4, 5, 6] rfl)
                        · skip
                          refine lv_iload hx hb dX6_step_199 (lv_at hl 0 rfl) ?_
                          refine lv_aload_n hx hb dX6_step_201 rfl (lv_at hl 4 rfl) ?_
                          refine va_get (D := (dC, dI)) (ci := 6) (v := .ref (ma 5)) (C := RX6) (T := TX6) (N := 44) hx hb hts kt_X6 hown hK hP 0 rfl rfl 5 (by decide) (kx_word hG kq_04_msmall_15 rfl) (fun _ h9 => h9) rfl dX6_step_202 ?_
                          refine lv_iload_n hx hb dX6_step_205 rfl (lv_at hl 6 rfl) ?_
                          refine ki_iald (F := F 5) hx hb hK hP 4 3 rfl rfl (by omega) (by omega) (by decide) dX6_step_206 ?_
                          refine ki_icmp_ge (tgt := 234) hx hb dX6_step_207 (by decide) (by omega) (by omega) (by omega) (by omega) (fun c_456 => ?_) (fun c_456 => ?_)
                          · skip
                            have lp234 : ∀ (n : Nat) (pz : Int), ((pa ≤ pz ∧ pz ≤ en)) → (en - pz).toNat < n → ∀ (H : Heap) (locs : List Loc), va_P (dC, dI) kxCl (mW mo ma cs I (va_up (va_up (va_up (va_up (va_up F 20 (upI (F 20) sd pa)) 22 (upI (F 22) sd (-1))) 23 (upI (F 23) sd 0)) 24 (upI (F 24) sd 0)) 21 (upI (F 21) sd (vp_nar .boolean (iz 1)).toInt))) H → va_D A (mW mo ma cs I (va_up (va_up (va_up (va_up (va_up F 20 (upI (F 20) sd pa)) 22 (upI (F 22) sd (-1))) 23 (upI (F 23) sd 0)) 24 (upI (F 24) sd 0)) 21 (upI (F 21) sd (vp_nar .boolean (iz 1)).toInt))) → va_S A s.heap H locs → ∀ ls : Array Slot, lv_has ls 7 [(6, .int (iz en)), (5, .int (iz (F 4 ((20 * p0) + pa)))), (4, .int (iz ps)), (3, .int (iz pz)), (0, .ref mo), (1, .int (iz sd)), (2, .int (iz p0))] → W p l e (headSpec [.code yX6_step cX6_step 7 none] ({ frames := 1, cells := 0, slots := 0, locals := 21 })).room s m ([.ref mo, .int (iz sd), .int (iz p0)] : List Value).toArray below meth c H locs 0 0 QQ (F0 m 234 ls []) := by
                              intro n
                              induction n with
                              | zero => intro pz hinv hm; exact absurd hm (Nat.not_lt_zero _)
                              | succ n ih234 =>
                                intro pz hinv hm H locs hP hD hS ls hl
                                have hpz := hinv
                                refine lv_iload_n hx hb dX6_step_234 rfl (lv_at hl 3 rfl) ?_
                                refine lv_iload hx hb dX6_step_235 (lv_at hl 0 rfl) ?_
                                refine ki_icmp_ge (tgt := 262) hx hb dX6_step_237 (by decide) (by omega) (by omega) (by omega) (by omega) (fun c_457 => ?_) (fun c_457 => ?_)
                                · skip
                                  refine lv_aload_n hx hb dX6_step_262 rfl (lv_at hl 4 rfl) ?_
                                  refine va_get (D := (dC, dI)) (ci := 6) (v := .ref (ma 22)) (C := RX6) (T := TX6) (N := 44) hx hb hts kt_X6 hown hK hP 0 rfl rfl 22 (by decide) (kx_word hG kq_05_morder_2 rfl) (fun _ h9 => h9) rfl dX6_step_263 ?_
                                  refine lv_iload_n hx hb dX6_step_266 rfl (lv_at hl 5 rfl) ?_
                                  refine lv_iconst (v := iz 1) hx hb dX6_step_267 (by decide) ?_
                                  refine ki_iast (F := upI (F 22) sd (-1)) hx hb hK hP hD hS 17 16 rfl rfl (by omega) (by omega) (by decide) dX6_step_268 (fun H locs hP hD hS => ?_)
                                  have hP : va_P (dC, dI) kxCl (mW mo ma cs I (va_up (va_up (va_up (va_up (va_up (va_up F 20 (upI (F 20) sd pa)) 22 (upI (F 22) sd (-1))) 23 (upI (F 23) sd 0)) 24 (upI (F 24) sd 0)) 21 (upI (F 21) sd (vp_nar .boolean (iz 1)).toInt)) 22 (upI (upI (F 22) sd (-1)) sd 1))) H := hP
                                  have hD : va_D A (mW mo ma cs I (va_up (va_up (va_up (va_up (va_up (va_up F 20 (upI (F 20) sd pa)) 22 (upI (F 22) sd (-1))) 23 (upI (F 23) sd 0)) 24 (upI (F 24) sd 0)) 21 (upI (F 21) sd (vp_nar .boolean (iz 1)).toInt)) 22 (upI (upI (F 22) sd (-1)) sd 1))) := hD
                                  refine lv_aload_n hx hb dX6_step_269 rfl (lv_at hl 4 rfl) ?_
                                  refine va_get (D := (dC, dI)) (ci := 6) (v := .ref (ma 23)) (C := RX6) (T := TX6) (N := 44) hx hb hts kt_X6 hown hK hP 0 rfl rfl 23 (by decide) (kx_word hG kq_05_morder_3 rfl) (fun _ h9 => h9) rfl dX6_step_270 ?_
                                  refine lv_iload_n hx hb dX6_step_273 rfl (lv_at hl 5 rfl) ?_
                                  refine lv_bipush (v := iz 20) hx hb dX6_step_274 (by decide) ?_
                                  refine lv_iload_n hx hb dX6_step_276 rfl (lv_at hl 6 rfl) ?_
                                  refine ki_imul hx hb dX6_step_277 ?_
                                  refine lv_iload_n hx hb dX6_step_278 rfl (lv_at hl 3 rfl) ?_
                                  refine ki_iadd hx hb dX6_step_279 ?_
                                  refine ki_iast (F := upI (F 23) sd 0) hx hb hK hP hD hS 18 17 rfl rfl (by omega) (by omega) (by decide) dX6_step_280 (fun H locs hP hD hS => ?_)
                                  have hP : va_P (dC, dI) kxCl (mW mo ma cs I (va_up (va_up (va_up (va_up (va_up (va_up (va_up F 20 (upI (F 20) sd pa)) 22 (upI (F 22) sd (-1))) 23 (upI (F 23) sd 0)) 24 (upI (F 24) sd 0)) 21 (upI (F 21) sd (vp_nar .boolean (iz 1)).toInt)) 22 (upI (upI (F 22) sd (-1)) sd 1)) 23 (upI (upI (F 23) sd 0) sd ((20 * p0) + pz)))) H := hP
                                  have hD : va_D A (mW mo ma cs I (va_up (va_up (va_up (va_up (va_up (va_up (va_up F 20 (upI (F 20) sd pa)) 22 (upI (F 22) sd (-1))) 23 (upI (F 23) sd 0)) 24 (upI (F 24) sd 0)) 21 (upI (F 21) sd (vp_nar .boolean (iz 1)).toInt)) 22 (upI (upI (F 22) sd (-1)) sd 1)) 23 (upI (upI (F 23) sd 0) sd ((20 * p0) + pz)))) := hD
                                  refine lv_aload_n hx hb dX6_step_281 rfl (lv_at hl 4 rfl) ?_
                                  refine va_get (D := (dC, dI)) (ci := 6) (v := .ref (ma 24)) (C := RX6) (T := TX6) (N := 44) hx hb hts kt_X6 hown hK hP 0 rfl rfl 24 (by decide) (kx_word hG kq_05_morder_4 rfl) (fun _ h9 => h9) rfl dX6_step_282 ?_
                                  refine lv_iload_n hx hb dX6_step_285 rfl (lv_at hl 5 rfl) ?_
                                  refine lv_iload hx hb dX6_step_286 (lv_at hl 0 rfl) ?_
                                  refine lv_iload_n hx hb dX6_step_288 rfl (lv_at hl 3 rfl) ?_
                                  refine ki_isub hx hb dX6_step_289 ?_
                                  refine ki_iast (F := upI (F 24) sd 0) hx hb hK hP hD hS 19 18 rfl rfl (by omega) (by omega) (by decide) dX6_step_290 (fun H locs hP hD hS => ?_)
                                  have hP : va_P (dC, dI) kxCl (mW mo ma cs I (va_up (va_up (va_up (va_up (va_up (va_up (va_up (va_up F 20 (upI (F 20) sd pa)) 22 (upI (F 22) sd (-1))) 23 (upI (F 23) sd 0)) 24 (upI (F 24) sd 0)) 21 (upI (F 21) sd (vp_nar .boolean (iz 1)).toInt)) 22 (upI (upI (F 22) sd (-1)) sd 1)) 23 (upI (upI (F 23) sd 0) sd ((20 * p0) + pz))) 24 (upI (upI (F 24) sd 0) sd (en - pz)))) H := hP
                                  have hD : va_D A (mW mo ma cs I (va_up (va_up (va_up (va_up (va_up (va_up (va_up (va_up F 20 (upI (F 20) sd pa)) 22 (upI (F 22) sd (-1))) 23 (upI (F 23) sd 0)) 24 (upI (F 24) sd 0)) 21 (upI (F 21) sd (vp_nar .boolean (iz 1)).toInt)) 22 (upI (upI (F 22) sd (-1)) sd 1)) 23 (upI (upI (F 23) sd 0) sd ((20 * p0) + pz))) 24 (upI (upI (F 24) sd 0) sd (en - pz)))) := hD
                                  refine lv_aload_n hx hb dX6_step_291 rfl (lv_at hl 4 rfl) ?_
                                  refine va_get (D := (dC, dI)) (ci := 6) (v := .ref (ma 20)) (C := RX6) (T := TX6) (N := 44) hx hb hts kt_X6 hown hK hP 0 rfl rfl 20 (by decide) (kx_word hG kq_05_morder_0 rfl) (fun _ h9 => h9) rfl dX6_step_292 ?_
                                  refine lv_iload_n hx hb dX6_step_295 rfl (lv_at hl 5 rfl) ?_
                                  refine lv_iload hx hb dX6_step_296 (lv_at hl 0 rfl) ?_
                                  refine ki_iast (F := upI (F 20) sd pa) hx hb hK hP hD hS 15 14 rfl rfl (by omega) (by omega) (by decide) dX6_step_298 (fun H locs hP hD hS => ?_)
                                  have hP : va_P (dC, dI) kxCl (mW mo ma cs I (va_up (va_up (va_up (va_up (va_up (va_up (va_up (va_up (va_up F 20 (upI (F 20) sd pa)) 22 (upI (F 22) sd (-1))) 23 (upI (F 23) sd 0)) 24 (upI (F 24) sd 0)) 21 (upI (F 21) sd (vp_nar .boolean (iz 1)).toInt)) 22 (upI (upI (F 22) sd (-1)) sd 1)) 23 (upI (upI (F 23) sd 0) sd ((20 * p0) + pz))) 24 (upI (upI (F 24) sd 0) sd (en - pz))) 20 (upI (upI (F 20) sd pa) sd en))) H := hP
                                  have hD : va_D A (mW mo ma cs I (va_up (va_up (va_up (va_up (va_up (va_up (va_up (va_up (va_up F 20 (upI (F 20) sd pa)) 22 (upI (F 22) sd (-1))) 23 (upI (F 23) sd 0)) 24 (upI (F 24) sd 0)) 21 (upI (F 21) sd (vp_nar .boolean (iz 1)).toInt)) 22 (upI (upI (F 22) sd (-1)) sd 1)) 23 (upI (upI (F 23) sd 0) sd ((20 * p0) + pz))) 24 (upI (upI (F 24) sd 0) sd (en - pz))) 20 (upI (upI (F 20) sd pa) sd en))) := hD
                                  have e_458 : (va_up (va_up (va_up (va_up (va_up (va_up (va_up (va_up (va_up F 20 (upI (F 20) sd pa)) 22 (upI (F 22) sd (-1))) 23 (upI (F 23) sd 0)) 24 (upI (F 24) sd 0)) 21 (upI (F 21) sd (vp_nar .boolean (iz 1)).toInt)) 22 (upI (upI (F 22) sd (-1)) sd 1)) 23 (upI (upI (F 23) sd 0) sd ((20 * p0) + pz))) 24 (upI (upI (F 24) sd 0) sd (en - pz))) 20 (upI (upI (F 20) sd pa) sd en)) 20 sd = en := upI_self _ _ _
                                  have e_459 : (va_up (va_up (va_up (va_up (va_up (va_up (va_up (va_up (va_up F 20 (upI (F 20) sd pa)) 22 (upI (F 22) sd (-1))) 23 (upI (F 23) sd 0)) 24 (upI (F 24) sd 0)) 21 (upI (F 21) sd (vp_nar .boolean (iz 1)).toInt)) 22 (upI (upI (F 22) sd (-1)) sd 1)) 23 (upI (upI (F 23) sd 0) sd ((20 * p0) + pz))) 24 (upI (upI (F 24) sd 0) sd (en - pz))) 20 (upI (upI (F 20) sd pa) sd en)) 22 sd = 1 := upI_self _ _ _
                                  have e_460 : (va_up (va_up (va_up (va_up (va_up (va_up (va_up (va_up (va_up F 20 (upI (F 20) sd pa)) 22 (upI (F 22) sd (-1))) 23 (upI (F 23) sd 0)) 24 (upI (F 24) sd 0)) 21 (upI (F 21) sd (vp_nar .boolean (iz 1)).toInt)) 22 (upI (upI (F 22) sd (-1)) sd 1)) 23 (upI (upI (F 23) sd 0) sd ((20 * p0) + pz))) 24 (upI (upI (F 24) sd 0) sd (en - pz))) 20 (upI (upI (F 20) sd pa) sd en)) 23 sd = (20 * p0) + pz := upI_self _ _ _
                                  have e_461 : (va_up (va_up (va_up (va_up (va_up (va_up (va_up (va_up (va_up F 20 (upI (F 20) sd pa)) 22 (upI (F 22) sd (-1))) 23 (upI (F 23) sd 0)) 24 (upI (F 24) sd 0)) 21 (upI (F 21) sd (vp_nar .boolean (iz 1)).toInt)) 22 (upI (upI (F 22) sd (-1)) sd 1)) 23 (upI (upI (F 23) sd 0) sd ((20 * p0) + pz))) 24 (upI (upI (F 24) sd 0) sd (en - pz))) 20 (upI (upI (F 20) sd pa) sd en)) 24 sd = en - pz := upI_self _ _ _
                                  have e_462 : (va_up (va_up (va_up (va_up (va_up (va_up (va_up (va_up (va_up F 20 (upI (F 20) sd pa)) 22 (upI (F 22) sd (-1))) 23 (upI (F 23) sd 0)) 24 (upI (F 24) sd 0)) 21 (upI (F 21) sd (vp_nar .boolean (iz 1)).toInt)) 22 (upI (upI (F 22) sd (-1)) sd 1)) 23 (upI (upI (F 23) sd 0) sd ((20 * p0) + pz))) 24 (upI (upI (F 24) sd 0) sd (en - pz))) 20 (upI (upI (F 20) sd pa) sd en)) 21 sd = (vp_nar .boolean (iz 1)).toInt := upI_self _ _ _
                                  rw [← hQe]
                                  exact mk_ret hx hb hr hlocks hP hD hK hS dX6_step_299 (⟨rfl, (mB_f (mB_f (mB_f (mB_f (mB_f (mB_f (mB_f (mB_f (mB_f hB 20 sd (by omega) (by omega)) 22 sd (by omega) (by omega)) 23 sd (by omega) (by omega)) 24 sd (by omega) (by omega)) 21 sd (iz_lo _) (iz_hi _)) 22 sd (by omega) (by omega)) 23 sd (by omega) (by omega)) 24 sd (by omega) (by omega)) 20 sd (by omega) (by omega)), (mfr.upF (mfr.upF (mfr.upF (mfr.upF (mfr.upF (mfr.upF (mfr.upF (mfr.upF (mfr.upF mfr.rf (by decide) _) (by decide) _) (by decide) _) (by decide) _) (by decide) _) (by decide) _) (by decide) _) (by decide) _) (by decide) _), (mo1.up (mo1.up (mo1.up (mo1.up (mo1.up (mo1.up (mo1.up (mo1.up (mo1.up mo1.rf 20 _) 22 _) 23 _) 24 _) 21 _) 22 _) 23 _) 24 _) 20 _), by omega, by omega, by omega⟩)
                                · skip
                                  refine lv_aload_n hx hb dX6_step_240 rfl (lv_at hl 4 rfl) ?_
                                  refine va_get (D := (dC, dI)) (ci := 6) (v := .ref (ma 4)) (C := RX6) (T := TX6) (N := 44) hx hb hts kt_X6 hown hK hP 0 rfl rfl 4 (by decide) (kx_word hG kq_04_msmall_16 rfl) (fun _ h9 => h9) rfl dX6_step_241 ?_
                                  refine lv_bipush (v := iz 20) hx hb dX6_step_244 (by decide) ?_
                                  refine lv_iload_n hx hb dX6_step_246 rfl (lv_at hl 6 rfl) ?_
                                  refine ki_imul hx hb dX6_step_247 ?_
                                  refine lv_iload_n hx hb dX6_step_248 rfl (lv_at hl 3 rfl) ?_
                                  refine ki_iadd hx hb dX6_step_249 ?_
                                  refine ki_iald (F := F 4) hx hb hK hP 3 2 rfl rfl (by omega) (by omega) (by decide) dX6_step_250 ?_
                                  have hbd_463 := hB.2 4 ((20 * p0) + pz)
                                  refine lv_bipush (v := iz 48) hx hb dX6_step_251 (by decide) ?_
                                  refine ki_icmp_ne (tgt := 262) hx hb dX6_step_253 (by decide) (by omega) (by omega) (by omega) (by omega) (fun c_464 => ?_) (fun c_464 => ?_)
                                  · skip
                                    refine lv_aload_n hx hb dX6_step_262 rfl (lv_at hl 4 rfl) ?_
                                    refine va_get (D := (dC, dI)) (ci := 6) (v := .ref (ma 22)) (C := RX6) (T := TX6) (N := 44) hx hb hts kt_X6 hown hK hP 0 rfl rfl 22 (by decide) (kx_word hG kq_05_morder_2 rfl) (fun _ h9 => h9) rfl dX6_step_263 ?_
                                    refine lv_iload_n hx hb dX6_step_266 rfl (lv_at hl 5 rfl) ?_
                                    refine lv_iconst (v := iz 1) hx hb dX6_step_267 (by decide) ?_
                                    refine ki_iast (F := upI (F 22) sd (-1)) hx hb hK hP hD hS 17 16 rfl rfl (by omega) (by omega) (by decide) dX6_step_268 (fun H locs hP hD hS => ?_)
                                    have hP : va_P (dC, dI) kxCl (mW mo ma cs I (va_up (va_up (va_up (va_up (va_up (va_up F 20 (upI (F 20) sd pa)) 22 (upI (F 22) sd (-1))) 23 (upI (F 23) sd 0)) 24 (upI (F 24) sd 0)) 21 (upI (F 21) sd (vp_nar .boolean (iz 1)).toInt)) 22 (upI (upI (F 22) sd (-1)) sd 1))) H := hP
                                    have hD : va_D A (mW mo ma cs I (va_up (va_up (va_up (va_up (va_up (va_up F 20 (upI (F 20) sd pa)) 22 (upI (F 22) sd (-1))) 23 (upI (F 23) sd 0)) 24 (upI (F 24) sd 0)) 21 (upI (F 21) sd (vp_nar .boolean (iz 1)).toInt)) 22 (upI (upI (F 22) sd (-1)) sd 1))) := hD
                                    refine lv_aload_n hx hb dX6_step_269 rfl (lv_at hl 4 rfl) ?_
                                    refine va_get (D := (dC, dI)) (ci := 6) (v := .ref (ma 23)) (C := RX6) (T := TX6) (N := 44) hx hb hts kt_X6 hown hK hP 0 rfl rfl 23 (by decide) (kx_word hG kq_05_morder_3 rfl) (fun _ h9 => h9) rfl dX6_step_270 ?_
                                    refine lv_iload_n hx hb dX6_step_273 rfl (lv_at hl 5 rfl) ?_
                                    refine lv_bipush (v := iz 20) hx hb dX6_step_274 (by decide) ?_
                                    refine lv_iload_n hx hb dX6_step_276 rfl (lv_at hl 6 rfl) ?_
                                    refine ki_imul hx hb dX6_step_277 ?_
                                    refine lv_iload_n hx hb dX6_step_278 rfl (lv_at hl 3 rfl) ?_
                                    refine ki_iadd hx hb dX6_step_279 ?_
                                    refine ki_iast (F := upI (F 23) sd 0) hx hb hK hP hD hS 18 17 rfl rfl (by omega) (by omega) (by decide) dX6_step_280 (fun H locs hP hD hS => ?_)
                                    have hP : va_P (dC, dI) kxCl (mW mo ma cs I (va_up (va_up (va_up (va_up (va_up (va_up (va_up F 20 (upI (F 20) sd pa)) 22 (upI (F 22) sd (-1))) 23 (upI (F 23) sd 0)) 24 (upI (F 24) sd 0)) 21 (upI (F 21) sd (vp_nar .boolean (iz 1)).toInt)) 22 (upI (upI (F 22) sd (-1)) sd 1)) 23 (upI (upI (F 23) sd 0) sd ((20 * p0) + pz)))) H := hP
                                    have hD : va_D A (mW mo ma cs I (va_up (va_up (va_up (va_up (va_up (va_up (va_up F 20 (upI (F 20) sd pa)) 22 (upI (F 22) sd (-1))) 23 (upI (F 23) sd 0)) 24 (upI (F 24) sd 0)) 21 (upI (F 21) sd (vp_nar .boolean (iz 1)).toInt)) 22 (upI (upI (F 22) sd (-1)) sd 1)) 23 (upI (upI (F 23) sd 0) sd ((20 * p0) + pz)))) := hD
                                    refine lv_aload_n hx hb dX6_step_281 rfl (lv_at hl 4 rfl) ?_
                                    refine va_get (D := (dC, dI)) (ci := 6) (v := .ref (ma 24)) (C := RX6) (T := TX6) (N := 44) hx hb hts kt_X6 hown hK hP 0 rfl rfl 24 (by decide) (kx_word hG kq_05_morder_4 rfl) (fun _ h9 => h9) rfl dX6_step_282 ?_
                                    refine lv_iload_n hx hb dX6_step_285 rfl (lv_at hl 5 rfl) ?_
                                    refine lv_iload hx hb dX6_step_286 (lv_at hl 0 rfl) ?_
                                    refine lv_iload_n hx hb dX6_step_288 rfl (lv_at hl 3 rfl) ?_
                                    refine ki_isub hx hb dX6_step_289 ?_
                                    refine ki_iast (F := upI (F 24) sd 0) hx hb hK hP hD hS 19 18 rfl rfl (by omega) (by omega) (by decide) dX6_step_290 (fun H locs hP hD hS => ?_)
                                    have hP : va_P (dC, dI) kxCl (mW mo ma cs I (va_up (va_up (va_up (va_up (va_up (va_up (va_up (va_up F 20 (upI (F 20) sd pa)) 22 (upI (F 22) sd (-1))) 23 (upI (F 23) sd 0)) 24 (upI (F 24) sd 0)) 21 (upI (F 21) sd (vp_nar .boolean (iz 1)).toInt)) 22 (upI (upI (F 22) sd (-1)) sd 1)) 23 (upI (upI (F 23) sd 0) sd ((20 * p0) + pz))) 24 (upI (upI (F 24) sd 0) sd (en - pz)))) H := hP
                                    have hD : va_D A (mW mo ma cs I (va_up (va_up (va_up (va_up (va_up (va_up (va_up (va_up F 20 (upI (F 20) sd pa)) 22 (upI (F 22) sd (-1))) 23 (upI (F 23) sd 0)) 24 (upI (F 24) sd 0)) 21 (upI (F 21) sd (vp_nar .boolean (iz 1)).toInt)) 22 (upI (upI (F 22) sd (-1)) sd 1)) 23 (upI (upI (F 23) sd 0) sd ((20 * p0) + pz))) 24 (upI (upI (F 24) sd 0) sd (en - pz)))) := hD
                                    refine lv_aload_n hx hb dX6_step_291 rfl (lv_at hl 4 rfl) ?_
                                    refine va_get (D := (dC, dI)) (ci := 6) (v := .ref (ma 20)) (C := RX6) (T := TX6) (N := 44) hx hb hts kt_X6 hown hK hP 0 rfl rfl 20 (by decide) (kx_word hG kq_05_morder_0 rfl) (fun _ h9 => h9) rfl dX6_step_292 ?_
                                    refine lv_iload_n hx hb dX6_step_295 rfl (lv_at hl 5 rfl) ?_
                                    refine lv_iload hx hb dX6_step_296 (lv_at hl 0 rfl) ?_
                                    refine ki_iast (F := upI (F 20) sd pa) hx hb hK hP hD hS 15 14 rfl rfl (by omega) (by omega) (by decide) dX6_step_298 (fun H locs hP hD hS => ?_)
                                    have hP : va_P (dC, dI) kxCl (mW mo ma cs I (va_up (va_up (va_up (va_up (va_up (va_up (va_up (va_up (va_up F 20 (upI (F 20) sd pa)) 22 (upI (F 22) sd (-1))) 23 (upI (F 23) sd 0)) 24 (upI (F 24) sd 0)) 21 (upI (F 21) sd (vp_nar .boolean (iz 1)).toInt)) 22 (upI (upI (F 22) sd (-1)) sd 1)) 23 (upI (upI (F 23) sd 0) sd ((20 * p0) + pz))) 24 (upI (upI (F 24) sd 0) sd (en - pz))) 20 (upI (upI (F 20) sd pa) sd en))) H := hP
                                    have hD : va_D A (mW mo ma cs I (va_up (va_up (va_up (va_up (va_up (va_up (va_up (va_up (va_up F 20 (upI (F 20) sd pa)) 22 (upI (F 22) sd (-1))) 23 (upI (F 23) sd 0)) 24 (upI (F 24) sd 0)) 21 (upI (F 21) sd (vp_nar .boolean (iz 1)).toInt)) 22 (upI (upI (F 22) sd (-1)) sd 1)) 23 (upI (upI (F 23) sd 0) sd ((20 * p0) + pz))) 24 (upI (upI (F 24) sd 0) sd (en - pz))) 20 (upI (upI (F 20) sd pa) sd en))) := hD
                                    have e_465 : (va_up (va_up (va_up (va_up (va_up (va_up (va_up (va_up (va_up F 20 (upI (F 20) sd pa)) 22 (upI (F 22) sd (-1))) 23 (upI (F 23) sd 0)) 24 (upI (F 24) sd 0)) 21 (upI (F 21) sd (vp_nar .boolean (iz 1)).toInt)) 22 (upI (upI (F 22) sd (-1)) sd 1)) 23 (upI (upI (F 23) sd 0) sd ((20 * p0) + pz))) 24 (upI (upI (F 24) sd 0) sd (en - pz))) 20 (upI (upI (F 20) sd pa) sd en)) 20 sd = en := upI_self _ _ _
                                    have e_466 : (va_up (va_up (va_up (va_up (va_up (va_up (va_up (va_up (va_up F 20 (upI (F 20) sd pa)) 22 (upI (F 22) sd (-1))) 23 (upI (F 23) sd 0)) 24 (upI (F 24) sd 0)) 21 (upI (F 21) sd (vp_nar .boolean (iz 1)).toInt)) 22 (upI (upI (F 22) sd (-1)) sd 1)) 23 (upI (upI (F 23) sd 0) sd ((20 * p0) + pz))) 24 (upI (upI (F 24) sd 0) sd (en - pz))) 20 (upI (upI (F 20) sd pa) sd en)) 22 sd = 1 := upI_self _ _ _
                                    have e_467 : (va_up (va_up (va_up (va_up (va_up (va_up (va_up (va_up (va_up F 20 (upI (F 20) sd pa)) 22 (upI (F 22) sd (-1))) 23 (upI (F 23) sd 0)) 24 (upI (F 24) sd 0)) 21 (upI (F 21) sd (vp_nar .boolean (iz 1)).toInt)) 22 (upI (upI (F 22) sd (-1)) sd 1)) 23 (upI (upI (F 23) sd 0) sd ((20 * p0) + pz))) 24 (upI (upI (F 24) sd 0) sd (en - pz))) 20 (upI (upI (F 20) sd pa) sd en)) 23 sd = (20 * p0) + pz := upI_self _ _ _
                                    have e_468 : (va_up (va_up (va_up (va_up (va_up (va_up (va_up (va_up (va_up F 20 (upI (F 20) sd pa)) 22 (upI (F 22) sd (-1))) 23 (upI (F 23) sd 0)) 24 (upI (F 24) sd 0)) 21 (upI (F 21) sd (vp_nar .boolean (iz 1)).toInt)) 22 (upI (upI (F 22) sd (-1)) sd 1)) 23 (upI (upI (F 23) sd 0) sd ((20 * p0) + pz))) 24 (upI (upI (F 24) sd 0) sd (en - pz))) 20 (upI (upI (F 20) sd pa) sd en)) 24 sd = en - pz := upI_self _ _ _
                                    have e_469 : (va_up (va_up (va_up (va_up (va_up (va_up (va_up (va_up (va_up F 20 (upI (F 20) sd pa)) 22 (upI (F 22) sd (-1))) 23 (upI (F 23) sd 0)) 24 (upI (F 24) sd 0)) 21 (upI (F 21) sd (vp_nar .boolean (iz 1)).toInt)) 22 (upI (upI (F 22) sd (-1)) sd 1)) 23 (upI (upI (F 23) sd 0) sd ((20 * p0) + pz))) 24 (upI (upI (F 24) sd 0) sd (en - pz))) 20 (upI (upI (F 20) sd pa) sd en)) 21 sd = (vp_nar .boolean (iz 1)).toInt := upI_self _ _ _
                                    rw [← hQe]
                                    exact mk_ret hx hb hr hlocks hP hD hK hS dX6_step_299 (⟨rfl, (mB_f (mB_f (mB_f (mB_f (mB_f (mB_f (mB_f (mB_f (mB_f hB 20 sd (by omega) (by omega)) 22 sd (by omega) (by omega)) 23 sd (by omega) (by omega)) 24 sd (by omega) (by omega)) 21 sd (iz_lo _) (iz_hi _)) 22 sd (by omega) (by omega)) 23 sd (by omega) (by omega)) 24 sd (by omega) (by omega)) 20 sd (by omega) (by omega)), (mfr.upF (mfr.upF (mfr.upF (mfr.upF (mfr.upF (mfr.upF (mfr.upF (mfr.upF (mfr.upF mfr.rf (by decide) _) (by decide) _) (by decide) _) (by decide) _) (by decide) _) (by decide) _) (by decide) _) (by decide) _) (by decide) _), (mo1.up (mo1.up (mo1.up (mo1.up (mo1.up (mo1.up (mo1.up (mo1.up (mo1.up mo1.rf 20 _) 22 _) 23 _) 24 _) 21 _) 22 _) 23 _) 24 _) 20 _), by omega, by omega, by omega⟩)
                                  · skip
                                    refine lv_iinc (v := iz (pz + 1)) (lv' := [(3, .int (iz (pz + 1))), (6, .int (iz en)), (5, .int (iz (F 4 ((20 * p0) + pa)))), (4, .int (iz ps)), (0, .ref mo), (1, .int (iz sd)), (2, .int (iz p0))]) hx hb dX6_step_256 hl (k := 3) rfl (iz_add pz 1) (by decide) rfl (fun ls hl => ?_)
                                    refine lv_goto (tgt := 234) hx hb dX6_step_259 (by decide) ?_
                                    exact ih234 (pz + 1) (by omega) (by omega) _ _ hP hD hS ls (lv_sub hl [1, 2, 3, 0, 4, 5, 6] rfl)
                            exact lp234 _ pa (by omega) (Nat.lt_succ_self _) _ _ hP hD hS ls (lv_sub hl [0, 1, 2, 3, 4, 5, 6] rfl)
                          · skip
                            refine lv_aload_n hx hb dX6_step_210 rfl (lv_at hl 4 rfl) ?_
                            refine va_get (D := (dC, dI)) (ci := 6) (v := .ref (ma 4)) (C := RX6) (T := TX6) (N := 44) hx hb hts kt_X6 hown hK hP 0 rfl rfl 4 (by decide) (kx_word hG kq_04_msmall_16 rfl) (fun _ h9 => h9) rfl dX6_step_211 ?_
                            refine lv_bipush (v := iz 20) hx hb dX6_step_214 (by decide) ?_
                            refine lv_iload_n hx hb dX6_step_216 rfl (lv_at hl 6 rfl) ?_
                            refine ki_imul hx hb dX6_step_217 ?_
                            refine lv_iload hx hb dX6_step_218 (lv_at hl 0 rfl) ?_
                            refine ki_iadd hx hb dX6_step_220 ?_
                            refine ki_iald (F := F 4) hx hb hK hP 3 2 rfl rfl (by omega) (by omega) (by decide) dX6_step_221 ?_
                            have hbd_470 := hB.2 4 ((20 * p0) + en)
                            refine mk_calls (As := [.int (iz (F 4 ((20 * p0) + en)))]) (rest := []) ⟨hx, hb, hml, hown, hts⟩ (k_isNumber l dC dI (F 4 ((20 * p0) + en)) H.size (by omega) (by omega)) (va_cwS 1 hts (kx_gS kq_05_morder_8 kq_05_morder_9 kq_04_msmall_6 kq_05_morder_10 rfl) rfl rfl rfl (by decide +kernel) ⟨Nat.le_of_ble_eq_true rfl, Nat.le_of_ble_eq_true rfl⟩) hP hD hK hG hZ hS hA rfl hl.1 rfl (Nat.le_of_ble_eq_true rfl) dX6_step_222 ⟨Nat.le_of_ble_eq_true rfl, Nat.le_of_ble_eq_true rfl⟩ (fun z_471 H locs hq_472 hP hS => ?_)
                            try dsimp only at hq_472
                            refine ki_if_eq (tgt := 234) hx hb dX6_step_225 (by decide) (by omega) (by omega) (fun c_473 => ?_) (fun c_473 => ?_)
                            · skip
                              have lp234 : ∀ (n : Nat) (pz : Int), ((pa ≤ pz ∧ pz ≤ en)) → (en - pz).toNat < n → ∀ (H : Heap) (locs : List Loc), va_P (dC, dI) kxCl (mW mo ma cs I (va_up (va_up (va_up (va_up (va_up F 20 (upI (F 20) sd pa)) 22 (upI (F 22) sd (-1))) 23 (upI (F 23) sd 0)) 24 (upI (F 24) sd 0)) 21 (upI (F 21) sd (vp_nar .boolean (iz 1)).toInt))) H → va_D A (mW mo ma cs I (va_up (va_up (va_up (va_up (va_up F 20 (upI (F 20) sd pa)) 22 (upI (F 22) sd (-1))) 23 (upI (F 23) sd 0)) 24 (upI (F 24) sd 0)) 21 (upI (F 21) sd (vp_nar .boolean (iz 1)).toInt))) → va_S A s.heap H locs → ∀ ls : Array Slot, lv_has ls 7 [(6, .int (iz en)), (5, .int (iz (F 4 ((20 * p0) + pa)))), (4, .int (iz ps)), (3, .int (iz pz)), (0, .ref mo), (1, .int (iz sd)), (2, .int (iz p0))] → W p l e (headSpec [.code yX6_step cX6_step 7 none] ({ frames := 1, cells := 0, slots := 0, locals := 21 })).room s m ([.ref mo, .int (iz sd), .int (iz p0)] : List Value).toArray below meth c H locs 0 0 QQ (F0 m 234 ls []) := by
                                intro n
                                induction n with
                                | zero => intro pz hinv hm; exact absurd hm (Nat.not_lt_zero _)
                                | succ n ih234 =>
                                  intro pz hinv hm H locs hP hD hS ls hl
                                  have hpz := hinv
                                  refine lv_iload_n hx hb dX6_step_234 rfl (lv_at hl 3 rfl) ?_
                                  refine lv_iload hx hb dX6_step_235 (lv_at hl 0 rfl) ?_
                                  refine ki_icmp_ge (tgt := 262) hx hb dX6_step_237 (by decide) (by omega) (by omega) (by omega) (by omega) (fun c_474 => ?_) (fun c_474 => ?_)
                                  · skip
                                    refine lv_aload_n hx hb dX6_step_262 rfl (lv_at hl 4 rfl) ?_
                                    refine va_get (D := (dC, dI)) (ci := 6) (v := .ref (ma 22)) (C := RX6) (T := TX6) (N := 44) hx hb hts kt_X6 hown hK hP 0 rfl rfl 22 (by decide) (kx_word hG kq_05_morder_2 rfl) (fun _ h9 => h9) rfl dX6_step_263 ?_
                                    refine lv_iload_n hx hb dX6_step_266 rfl (lv_at hl 5 rfl) ?_
                                    refine lv_iconst (v := iz 1) hx hb dX6_step_267 (by decide) ?_
                                    refine ki_iast (F := upI (F 22) sd (-1)) hx hb hK hP hD hS 17 16 rfl rfl (by omega) (by omega) (by decide) dX6_step_268 (fun H locs hP hD hS => ?_)
                                    have hP : va_P (dC, dI) kxCl (mW mo ma cs I (va_up (va_up (va_up (va_up (va_up (va_up F 20 (upI (F 20) sd pa)) 22 (upI (F 22) sd (-1))) 23 (upI (F 23) sd 0)) 24 (upI (F 24) sd 0)) 21 (upI (F 21) sd (vp_nar .boolean (iz 1)).toInt)) 22 (upI (upI (F 22) sd (-1)) sd 1))) H := hP
                                    have hD : va_D A (mW mo ma cs I (va_up (va_up (va_up (va_up (va_up (va_up F 20 (upI (F 20) sd pa)) 22 (upI (F 22) sd (-1))) 23 (upI (F 23) sd 0)) 24 (upI (F 24) sd 0)) 21 (upI (F 21) sd (vp_nar .boolean (iz 1)).toInt)) 22 (upI (upI (F 22) sd (-1)) sd 1))) := hD
                                    refine lv_aload_n hx hb dX6_step_269 rfl (lv_at hl 4 rfl) ?_
                                    refine va_get (D := (dC, dI)) (ci := 6) (v := .ref (ma 23)) (C := RX6) (T := TX6) (N := 44) hx hb hts kt_X6 hown hK hP 0 rfl rfl 23 (by decide) (kx_word hG kq_05_morder_3 rfl) (fun _ h9 => h9) rfl dX6_step_270 ?_
                                    refine lv_iload_n hx hb dX6_step_273 rfl (lv_at hl 5 rfl) ?_
                                    refine lv_bipush (v := iz 20) hx hb dX6_step_274 (by decide) ?_
                                    refine lv_iload_n hx hb dX6_step_276 rfl (lv_at hl 6 rfl) ?_
                                    refine ki_imul hx hb dX6_step_277 ?_
                                    refine lv_iload_n hx hb dX6_step_278 rfl (lv_at hl 3 rfl) ?_
                                    refine ki_iadd hx hb dX6_step_279 ?_
                                    refine ki_iast (F := upI (F 23) sd 0) hx hb hK hP hD hS 18 17 rfl rfl (by omega) (by omega) (by decide) dX6_step_280 (fun H locs hP hD hS => ?_)
                                    have hP : va_P (dC, dI) kxCl (mW mo ma cs I (va_up (va_up (va_up (va_up (va_up (va_up (va_up F 20 (upI (F 20) sd pa)) 22 (upI (F 22) sd (-1))) 23 (upI (F 23) sd 0)) 24 (upI (F 24) sd 0)) 21 (upI (F 21) sd (vp_nar .boolean (iz 1)).toInt)) 22 (upI (upI (F 22) sd (-1)) sd 1)) 23 (upI (upI (F 23) sd 0) sd ((20 * p0) + pz)))) H := hP
                                    have hD : va_D A (mW mo ma cs I (va_up (va_up (va_up (va_up (va_up (va_up (va_up F 20 (upI (F 20) sd pa)) 22 (upI (F 22) sd (-1))) 23 (upI (F 23) sd 0)) 24 (upI (F 24) sd 0)) 21 (upI (F 21) sd (vp_nar .boolean (iz 1)).toInt)) 22 (upI (upI (F 22) sd (-1)) sd 1)) 23 (upI (upI (F 23) sd 0) sd ((20 * p0) + pz)))) := hD
                                    refine lv_aload_n hx hb dX6_step_281 rfl (lv_at hl 4 rfl) ?_
                                    refine va_get (D := (dC, dI)) (ci := 6) (v := .ref (ma 24)) (C := RX6) (T := TX6) (N := 44) hx hb hts kt_X6 hown hK hP 0 rfl rfl 24 (by decide) (kx_word hG kq_05_morder_4 rfl) (fun _ h9 => h9) rfl dX6_step_282 ?_
                                    refine lv_iload_n hx hb dX6_step_285 rfl (lv_at hl 5 rfl) ?_
                                    refine lv_iload hx hb dX6_step_286 (lv_at hl 0 rfl) ?_
                                    refine lv_iload_n hx hb dX6_step_288 rfl (lv_at hl 3 rfl) ?_
                                    refine ki_isub hx hb dX6_step_289 ?_
                                    refine ki_iast (F := upI (F 24) sd 0) hx hb hK hP hD hS 19 18 rfl rfl (by omega) (by omega) (by decide) dX6_step_290 (fun H locs hP hD hS => ?_)
                                    have hP : va_P (dC, dI) kxCl (mW mo ma cs I (va_up (va_up (va_up (va_up (va_up (va_up (va_up (va_up F 20 (upI (F 20) sd pa)) 22 (upI (F 22) sd (-1))) 23 (upI (F 23) sd 0)) 24 (upI (F 24) sd 0)) 21 (upI (F 21) sd (vp_nar .boolean (iz 1)).toInt)) 22 (upI (upI (F 22) sd (-1)) sd 1)) 23 (upI (upI (F 23) sd 0) sd ((20 * p0) + pz))) 24 (upI (upI (F 24) sd 0) sd (en - pz)))) H := hP
                                    have hD : va_D A (mW mo ma cs I (va_up (va_up (va_up (va_up (va_up (va_up (va_up (va_up F 20 (upI (F 20) sd pa)) 22 (upI (F 22) sd (-1))) 23 (upI (F 23) sd 0)) 24 (upI (F 24) sd 0)) 21 (upI (F 21) sd (vp_nar .boolean (iz 1)).toInt)) 22 (upI (upI (F 22) sd (-1)) sd 1)) 23 (upI (upI (F 23) sd 0) sd ((20 * p0) + pz))) 24 (upI (upI (F 24) sd 0) sd (en - pz)))) := hD
                                    refine lv_aload_n hx hb dX6_step_291 rfl (lv_at hl 4 rfl) ?_
                                    refine va_get (D := (dC, dI)) (ci := 6) (v := .ref (ma 20)) (C := RX6) (T := TX6) (N := 44) hx hb hts kt_X6 hown hK hP 0 rfl rfl 20 (by decide) (kx_word hG kq_05_morder_0 rfl) (fun _ h9 => h9) rfl dX6_step_292 ?_
                                    refine lv_iload_n hx hb dX6_step_295 rfl (lv_at hl 5 rfl) ?_
                                    refine lv_iload hx hb dX6_step_296 (lv_at hl 0 rfl) ?_
                                    refine ki_iast (F := upI (F 20) sd pa) hx hb hK hP hD hS 15 14 rfl rfl (by omega) (by omega) (by decide) dX6_step_298 (fun H locs hP hD hS => ?_)
                                    have hP : va_P (dC, dI) kxCl (mW mo ma cs I (va_up (va_up (va_up (va_up (va_up (va_up (va_up (va_up (va_up F 20 (upI (F 20) sd pa)) 22 (upI (F 22) sd (-1))) 23 (upI (F 23) sd 0)) 24 (upI (F 24) sd 0)) 21 (upI (F 21) sd (vp_nar .boolean (iz 1)).toInt)) 22 (upI (upI (F 22) sd (-1)) sd 1)) 23 (upI (upI (F 23) sd 0) sd ((20 * p0) + pz))) 24 (upI (upI (F 24) sd 0) sd (en - pz))) 20 (upI (upI (F 20) sd pa) sd en))) H := hP
                                    have hD : va_D A (mW mo ma cs I (va_up (va_up (va_up (va_up (va_up (va_up (va_up (va_up (va_up F 20 (upI (F 20) sd pa)) 22 (upI (F 22) sd (-1))) 23 (upI (F 23) sd 0)) 24 (upI (F 24) sd 0)) 21 (upI (F 21) sd (vp_nar .boolean (iz 1)).toInt)) 22 (upI (upI (F 22) sd (-1)) sd 1)) 23 (upI (upI (F 23) sd 0) sd ((20 * p0) + pz))) 24 (upI (upI (F 24) sd 0) sd (en - pz))) 20 (upI (upI (F 20) sd pa) sd en))) := hD
                                    have e_475 : (va_up (va_up (va_up (va_up (va_up (va_up (va_up (va_up (va_up F 20 (upI (F 20) sd pa)) 22 (upI (F 22) sd (-1))) 23 (upI (F 23) sd 0)) 24 (upI (F 24) sd 0)) 21 (upI (F 21) sd (vp_nar .boolean (iz 1)).toInt)) 22 (upI (upI (F 22) sd (-1)) sd 1)) 23 (upI (upI (F 23) sd 0) sd ((20 * p0) + pz))) 24 (upI (upI (F 24) sd 0) sd (en - pz))) 20 (upI (upI (F 20) sd pa) sd en)) 20 sd = en := upI_self _ _ _
                                    have e_476 : (va_up (va_up (va_up (va_up (va_up (va_up (va_up (va_up (va_up F 20 (upI (F 20) sd pa)) 22 (upI (F 22) sd (-1))) 23 (upI (F 23) sd 0)) 24 (upI (F 24) sd 0)) 21 (upI (F 21) sd (vp_nar .boolean (iz 1)).toInt)) 22 (upI (upI (F 22) sd (-1)) sd 1)) 23 (upI (upI (F 23) sd 0) sd ((20 * p0) + pz))) 24 (upI (upI (F 24) sd 0) sd (en - pz))) 20 (upI (upI (F 20) sd pa) sd en)) 22 sd = 1 := upI_self _ _ _
                                    have e_477 : (va_up (va_up (va_up (va_up (va_up (va_up (va_up (va_up (va_up F 20 (upI (F 20) sd pa)) 22 (upI (F 22) sd (-1))) 23 (upI (F 23) sd 0)) 24 (upI (F 24) sd 0)) 21 (upI (F 21) sd (vp_nar .boolean (iz 1)).toInt)) 22 (upI (upI (F 22) sd (-1)) sd 1)) 23 (upI (upI (F 23) sd 0) sd ((20 * p0) + pz))) 24 (upI (upI (F 24) sd 0) sd (en - pz))) 20 (upI (upI (F 20) sd pa) sd en)) 23 sd = (20 * p0) + pz := upI_self _ _ _
                                    have e_478 : (va_up (va_up (va_up (va_up (va_up (va_up (va_up (va_up (va_up F 20 (upI (F 20) sd pa)) 22 (upI (F 22) sd (-1))) 23 (upI (F 23) sd 0)) 24 (upI (F 24) sd 0)) 21 (upI (F 21) sd (vp_nar .boolean (iz 1)).toInt)) 22 (upI (upI (F 22) sd (-1)) sd 1)) 23 (upI (upI (F 23) sd 0) sd ((20 * p0) + pz))) 24 (upI (upI (F 24) sd 0) sd (en - pz))) 20 (upI (upI (F 20) sd pa) sd en)) 24 sd = en - pz := upI_self _ _ _
                                    have e_479 : (va_up (va_up (va_up (va_up (va_up (va_up (va_up (va_up (va_up F 20 (upI (F 20) sd pa)) 22 (upI (F 22) sd (-1))) 23 (upI (F 23) sd 0)) 24 (upI (F 24) sd 0)) 21 (upI (F 21) sd (vp_nar .boolean (iz 1)).toInt)) 22 (upI (upI (F 22) sd (-1)) sd 1)) 23 (upI (upI (F 23) sd 0) sd ((20 * p0) + pz))) 24 (upI (upI (F 24) sd 0) sd (en - pz))) 20 (upI (upI (F 20) sd pa) sd en)) 21 sd = (vp_nar .boolean (iz 1)).toInt := upI_self _ _ _
                                    rw [← hQe]
                                    exact mk_ret hx hb hr hlocks hP hD hK hS dX6_step_299 (⟨rfl, (mB_f (mB_f (mB_f (mB_f (mB_f (mB_f (mB_f (mB_f (mB_f hB 20 sd (by omega) (by omega)) 22 sd (by omega) (by omega)) 23 sd (by omega) (by omega)) 24 sd (by omega) (by omega)) 21 sd (iz_lo _) (iz_hi _)) 22 sd (by omega) (by omega)) 23 sd (by omega) (by omega)) 24 sd (by omega) (by omega)) 20 sd (by omega) (by omega)), (mfr.upF (mfr.upF (mfr.upF (mfr.upF (mfr.upF (mfr.upF (mfr.upF (mfr.upF (mfr.upF mfr.rf (by decide) _) (by decide) _) (by decide) _) (by decide) _) (by decide) _) (by decide) _) (by decide) _) (by decide) _) (by decide) _), (mo1.up (mo1.up (mo1.up (mo1.up (mo1.up (mo1.up (mo1.up (mo1.up (mo1.up mo1.rf 20 _) 22 _) 23 _) 24 _) 21 _) 22 _) 23 _) 24 _) 20 _), by omega, by omega, by omega⟩)
                                  · skip
                                    refine lv_aload_n hx hb dX6_step_240 rfl (lv_at hl 4 rfl) ?_
                                    refine va_get (D := (dC, dI)) (ci := 6) (v := .ref (ma 4)) (C := RX6) (T := TX6) (N := 44) hx hb hts kt_X6 hown hK hP 0 rfl rfl 4 (by decide) (kx_word hG kq_04_msmall_16 rfl) (fun _ h9 => h9) rfl dX6_step_241 ?_
                                    refine lv_bipush (v := iz 20) hx hb dX6_step_244 (by decide) ?_
                                    refine lv_iload_n hx hb dX6_step_246 rfl (lv_at hl 6 rfl) ?_
                                    refine ki_imul hx hb dX6_step_247 ?_
                                    refine lv_iload_n hx hb dX6_step_248 rfl (lv_at hl 3 rfl) ?_
                                    refine ki_iadd hx hb dX6_step_249 ?_
                                    refine ki_iald (F := F 4) hx hb hK hP 3 2 rfl rfl (by omega) (by omega) (by decide) dX6_step_250 ?_
                                    have hbd_480 := hB.2 4 ((20 * p0) + pz)
                                    refine lv_bipush (v := iz 48) hx hb dX6_step_251 (by decide) ?_
                                    refine ki_icmp_ne (tgt := 262) hx hb dX6_step_253 (by decide) (by omega) (by omega) (by omega) (by omega) (fun c_481 => ?_) (fun c_481 => ?_)
                                    · skip
                                      refine lv_aload_n hx hb dX6_step_262 rfl (lv_at hl 4 rfl) ?_
                                      refine va_get (D := (dC, dI)) (ci := 6) (v := .ref (ma 22)) (C := RX6) (T := TX6) (N := 44) hx hb hts kt_X6 hown hK hP 0 rfl rfl 22 (by decide) (kx_word hG kq_05_morder_2 rfl) (fun _ h9 => h9) rfl dX6_step_263 ?_
                                      refine lv_iload_n hx hb dX6_step_266 rfl (lv_at hl 5 rfl) ?_
                                      refine lv_iconst (v := iz 1) hx hb dX6_step_267 (by decide) ?_
                                      refine ki_iast (F := upI (F 22) sd (-1)) hx hb hK hP hD hS 17 16 rfl rfl (by omega) (by omega) (by decide) dX6_step_268 (fun H locs hP hD hS => ?_)
                                      have hP : va_P (dC, dI) kxCl (mW mo ma cs I (va_up (va_up (va_up (va_up (va_up (va_up F 20 (upI (F 20) sd pa)) 22 (upI (F 22) sd (-1))) 23 (upI (F 23) sd 0)) 24 (upI (F 24) sd 0)) 21 (upI (F 21) sd (vp_nar .boolean (iz 1)).toInt)) 22 (upI (upI (F 22) sd (-1)) sd 1))) H := hP
                                      have hD : va_D A (mW mo ma cs I (va_up (va_up (va_up (va_up (va_up (va_up F 20 (upI (F 20) sd pa)) 22 (upI (F 22) sd (-1))) 23 (upI (F 23) sd 0)) 24 (upI (F 24) sd 0)) 21 (upI (F 21) sd (vp_nar .boolean (iz 1)).toInt)) 22 (upI (upI (F 22) sd (-1)) sd 1))) := hD
                                      refine lv_aload_n hx hb dX6_step_269 rfl (lv_at hl 4 rfl) ?_
                                      refine va_get (D := (dC, dI)) (ci := 6) (v := .ref (ma 23)) (C := RX6) (T := TX6) (N := 44) hx hb hts kt_X6 hown hK hP 0 rfl rfl 23 (by decide) (kx_word hG kq_05_morder_3 rfl) (fun _ h9 => h9) rfl dX6_step_270 ?_
                                      refine lv_iload_n hx hb dX6_step_273 rfl (lv_at hl 5 rfl) ?_
                                      refine lv_bipush (v := iz 20) hx hb dX6_step_274 (by decide) ?_
                                      refine lv_iload_n hx hb dX6_step_276 rfl (lv_at hl 6 rfl) ?_
                                      refine ki_imul hx hb dX6_step_277 ?_
                                      refine lv_iload_n hx hb dX6_step_278 rfl (lv_at hl 3 rfl) ?_
                                      refine ki_iadd hx hb dX6_step_279 ?_
                                      refine ki_iast (F := upI (F 23) sd 0) hx hb hK hP hD hS 18 17 rfl rfl (by omega) (by omega) (by decide) dX6_step_280 (fun H locs hP hD hS => ?_)
                                      have hP : va_P (dC, dI) kxCl (mW mo ma cs I (va_up (va_up (va_up (va_up (va_up (va_up (va_up F 20 (upI (F 20) sd pa)) 22 (upI (F 22) sd (-1))) 23 (upI (F 23) sd 0)) 24 (upI (F 24) sd 0)) 21 (upI (F 21) sd (vp_nar .boolean (iz 1)).toInt)) 22 (upI (upI (F 22) sd (-1)) sd 1)) 23 (upI (upI (F 23) sd 0) sd ((20 * p0) + pz)))) H := hP
                                      have hD : va_D A (mW mo ma cs I (va_up (va_up (va_up (va_up (va_up (va_up (va_up F 20 (upI (F 20) sd pa)) 22 (upI (F 22) sd (-1))) 23 (upI (F 23) sd 0)) 24 (upI (F 24) sd 0)) 21 (upI (F 21) sd (vp_nar .boolean (iz 1)).toInt)) 22 (upI (upI (F 22) sd (-1)) sd 1)) 23 (upI (upI (F 23) sd 0) sd ((20 * p0) + pz)))) := hD
                                      refine lv_aload_n hx hb dX6_step_281 rfl (lv_at hl 4 rfl) ?_
                                      refine va_get (D := (dC, dI)) (ci := 6) (v := .ref (ma 24)) (C := RX6) (T := TX6) (N := 44) hx hb hts kt_X6 hown hK hP 0 rfl rfl 24 (by decide) (kx_word hG kq_05_morder_4 rfl) (fun _ h9 => h9) rfl dX6_step_282 ?_
                                      refine lv_iload_n hx hb dX6_step_285 rfl (lv_at hl 5 rfl) ?_
                                      refine lv_iload hx hb dX6_step_286 (lv_at hl 0 rfl) ?_
                                      refine lv_iload_n hx hb dX6_step_288 rfl (lv_at hl 3 rfl) ?_
                                      refine ki_isub hx hb dX6_step_289 ?_
                                      refine ki_iast (F := upI (F 24) sd 0) hx hb hK hP hD hS 19 18 rfl rfl (by omega) (by omega) (by decide) dX6_step_290 (fun H locs hP hD hS => ?_)
                                      have hP : va_P (dC, dI) kxCl (mW mo ma cs I (va_up (va_up (va_up (va_up (va_up (va_up (va_up (va_up F 20 (upI (F 20) sd pa)) 22 (upI (F 22) sd (-1))) 23 (upI (F 23) sd 0)) 24 (upI (F 24) sd 0)) 21 (upI (F 21) sd (vp_nar .boolean (iz 1)).toInt)) 22 (upI (upI (F 22) sd (-1)) sd 1)) 23 (upI (upI (F 23) sd 0) sd ((20 * p0) + pz))) 24 (upI (upI (F 24) sd 0) sd (en - pz)))) H := hP
                                      have hD : va_D A (mW mo ma cs I (va_up (va_up (va_up (va_up (va_up (va_up (va_up (va_up F 20 (upI (F 20) sd pa)) 22 (upI (F 22) sd (-1))) 23 (upI (F 23) sd 0)) 24 (upI (F 24) sd 0)) 21 (upI (F 21) sd (vp_nar .boolean (iz 1)).toInt)) 22 (upI (upI (F 22) sd (-1)) sd 1)) 23 (upI (upI (F 23) sd 0) sd ((20 * p0) + pz))) 24 (upI (upI (F 24) sd 0) sd (en - pz)))) := hD
                                      refine lv_aload_n hx hb dX6_step_291 rfl (lv_at hl 4 rfl) ?_
                                      refine va_get (D := (dC, dI)) (ci := 6) (v := .ref (ma 20)) (C := RX6) (T := TX6) (N := 44) hx hb hts kt_X6 hown hK hP 0 rfl rfl 20 (by decide) (kx_word hG kq_05_morder_0 rfl) (fun _ h9 => h9) rfl dX6_step_292 ?_
                                      refine lv_iload_n hx hb dX6_step_295 rfl (lv_at hl 5 rfl) ?_
                                      refine lv_iload hx hb dX6_step_296 (lv_at hl 0 rfl) ?_
                                      refine ki_iast (F := upI (F 20) sd pa) hx hb hK hP hD hS 15 14 rfl rfl (by omega) (by omega) (by decide) dX6_step_298 (fun H locs hP hD hS => ?_)
                                      have hP : va_P (dC, dI) kxCl (mW mo ma cs I (va_up (va_up (va_up (va_up (va_up (va_up (va_up (va_up (va_up F 20 (upI (F 20) sd pa)) 22 (upI (F 22) sd (-1))) 23 (upI (F 23) sd 0)) 24 (upI (F 24) sd 0)) 21 (upI (F 21) sd (vp_nar .boolean (iz 1)).toInt)) 22 (upI (upI (F 22) sd (-1)) sd 1)) 23 (upI (upI (F 23) sd 0) sd ((20 * p0) + pz))) 24 (upI (upI (F 24) sd 0) sd (en - pz))) 20 (upI (upI (F 20) sd pa) sd en))) H := hP
                                      have hD : va_D A (mW mo ma cs I (va_up (va_up (va_up (va_up (va_up (va_up (va_up (va_up (va_up F 20 (upI (F 20) sd pa)) 22 (upI (F 22) sd (-1))) 23 (upI (F 23) sd 0)) 24 (upI (F 24) sd 0)) 21 (upI (F 21) sd (vp_nar .boolean (iz 1)).toInt)) 22 (upI (upI (F 22) sd (-1)) sd 1)) 23 (upI (upI (F 23) sd 0) sd ((20 * p0) + pz))) 24 (upI (upI (F 24) sd 0) sd (en - pz))) 20 (upI (upI (F 20) sd pa) sd en))) := hD
                                      have e_482 : (va_up (va_up (va_up (va_up (va_up (va_up (va_up (va_up (va_up F 20 (upI (F 20) sd pa)) 22 (upI (F 22) sd (-1))) 23 (upI (F 23) sd 0)) 24 (upI (F 24) sd 0)) 21 (upI (F 21) sd (vp_nar .boolean (iz 1)).toInt)) 22 (upI (upI (F 22) sd (-1)) sd 1)) 23 (upI (upI (F 23) sd 0) sd ((20 * p0) + pz))) 24 (upI (upI (F 24) sd 0) sd (en - pz))) 20 (upI (upI (F 20) sd pa) sd en)) 20 sd = en := upI_self _ _ _
                                      have e_483 : (va_up (va_up (va_up (va_up (va_up (va_up (va_up (va_up (va_up F 20 (upI (F 20) sd pa)) 22 (upI (F 22) sd (-1))) 23 (upI (F 23) sd 0)) 24 (upI (F 24) sd 0)) 21 (upI (F 21) sd (vp_nar .boolean (iz 1)).toInt)) 22 (upI (upI (F 22) sd (-1)) sd 1)) 23 (upI (upI (F 23) sd 0) sd ((20 * p0) + pz))) 24 (upI (upI (F 24) sd 0) sd (en - pz))) 20 (upI (upI (F 20) sd pa) sd en)) 22 sd = 1 := upI_self _ _ _
                                      have e_484 : (va_up (va_up (va_up (va_up (va_up (va_up (va_up (va_up (va_up F 20 (upI (F 20) sd pa)) 22 (upI (F 22) sd (-1))) 23 (upI (F 23) sd 0)) 24 (upI (F 24) sd 0)) 21 (upI (F 21) sd (vp_nar .boolean (iz 1)).toInt)) 22 (upI (upI (F 22) sd (-1)) sd 1)) 23 (upI (upI (F 23) sd 0) sd ((20 * p0) + pz))) 24 (upI (upI (F 24) sd 0) sd (en - pz))) 20 (upI (upI (F 20) sd pa) sd en)) 23 sd = (20 * p0) + pz := upI_self _ _ _
                                      have e_485 : (va_up (va_up (va_up (va_up (va_up (va_up (va_up (va_up (va_up F 20 (upI (F 20) sd pa)) 22 (upI (F 22) sd (-1))) 23 (upI (F 23) sd 0)) 24 (upI (F 24) sd 0)) 21 (upI (F 21) sd (vp_nar .boolean (iz 1)).toInt)) 22 (upI (upI (F 22) sd (-1)) sd 1)) 23 (upI (upI (F 23) sd 0) sd ((20 * p0) + pz))) 24 (upI (upI (F 24) sd 0) sd (en - pz))) 20 (upI (upI (F 20) sd pa) sd en)) 24 sd = en - pz := upI_self _ _ _
                                      have e_486 : (va_up (va_up (va_up (va_up (va_up (va_up (va_up (va_up (va_up F 20 (upI (F 20) sd pa)) 22 (upI (F 22) sd (-1))) 23 (upI (F 23) sd 0)) 24 (upI (F 24) sd 0)) 21 (upI (F 21) sd (vp_nar .boolean (iz 1)).toInt)) 22 (upI (upI (F 22) sd (-1)) sd 1)) 23 (upI (upI (F 23) sd 0) sd ((20 * p0) + pz))) 24 (upI (upI (F 24) sd 0) sd (en - pz))) 20 (upI (upI (F 20) sd pa) sd en)) 21 sd = (vp_nar .boolean (iz 1)).toInt := upI_self _ _ _
                                      rw [← hQe]
                                      exact mk_ret hx hb hr hlocks hP hD hK hS dX6_step_299 (⟨rfl, (mB_f (mB_f (mB_f (mB_f (mB_f (mB_f (mB_f (mB_f (mB_f hB 20 sd (by omega) (by omega)) 22 sd (by omega) (by omega)) 23 sd (by omega) (by omega)) 24 sd (by omega) (by omega)) 21 sd (iz_lo _) (iz_hi _)) 22 sd (by omega) (by omega)) 23 sd (by omega) (by omega)) 24 sd (by omega) (by omega)) 20 sd (by omega) (by omega)), (mfr.upF (mfr.upF (mfr.upF (mfr.upF (mfr.upF (mfr.upF (mfr.upF (mfr.upF (mfr.upF mfr.rf (by decide) _) (by decide) _) (by decide) _) (by decide) _) (by decide) _) (by decide) _) (by decide) _) (by decide) _) (by decide) _), (mo1.up (mo1.up (mo1.up (mo1.up (mo1.up (mo1.up (mo1.up (mo1.up (mo1.up mo1.rf 20 _) 22 _) 23 _) 24 _) 21 _) 22 _) 23 _) 24 _) 20 _), by omega, by omega, by omega⟩)
                                    · skip
                                      refine lv_iinc (v := iz (pz + 1)) (lv' := [(3, .int (iz (pz + 1))), (6, .int (iz en)), (5, .int (iz (F 4 ((20 * p0) + pa)))), (4, .int (iz ps)), (0, .ref mo), (1, .int (iz sd)), (2, .int (iz p0))]) hx hb dX6_step_256 hl (k := 3) rfl (iz_add pz 1) (by decide) rfl (fun ls hl => ?_)
                                      refine lv_goto (tgt := 234) hx hb dX6_step_259 (by decide) ?_
                                      exact ih234 (pz + 1) (by omega) (by omega) _ _ hP hD hS ls (lv_sub hl [1, 2, 3, 0, 4, 5, 6] rfl)
                              exact lp234 _ pa (by omega) (Nat.lt_succ_self _) _ _ hP hD hS ls (lv_sub hl [0, 1, 2, 3, 4, 5, 6] rfl)
                            · skip
                              refine lv_iinc (v := iz (en + 1)) (lv' := [(6, .int (iz (en + 1))), (5, .int (iz (F 4 ((20 * p0) + pa)))), (4, .int (iz ps)), (3, .int (iz pa)), (0, .ref mo), (1, .int (iz sd)), (2, .int (iz p0))]) hx hb dX6_step_228 hl (k := 0) rfl (iz_add en 1) (by decide) rfl (fun ls hl => ?_)
                              refine lv_goto (tgt := 192) hx hb dX6_step_231 (by decide) ?_
                              exact ih192 (en + 1) (by omega) (by omega) _ _ hP hD hS ls (lv_sub hl [0, 1, 2, 3, 4, 5, 6] rfl)
                    exact lp192 _ (pa + 1) (by omega) (Nat.lt_succ_self _) _ _ hP hD hS ls (lv_sub hl [0, 1, 2, 3, 4, 5, 6] rfl)
                  · skip
                    refine lv_aload_n hx hb dX6_step_159 rfl (lv_at hl 3 rfl) ?_
                    refine va_get (D := (dC, dI)) (ci := 6) (v := .ref (ma 22)) (C := RX6) (T := TX6) (N := 44) hx hb hts kt_X6 hown hK hP 0 rfl rfl 22 (by decide) (kx_word hG kq_05_morder_2 rfl) (fun _ h9 => h9) rfl dX6_step_160 ?_
                    refine lv_iload_n hx hb dX6_step_163 rfl (lv_at hl 4 rfl) ?_
                    refine lv_iconst (v := iz 2) hx hb dX6_step_164 (by decide) ?_
                    refine ki_iast (F := upI (F 22) sd (-1)) hx hb hK hP hD hS 17 16 rfl rfl (by omega) (by omega) (by decide) dX6_step_165 (fun H locs hP hD hS => ?_)
                    have hP : va_P (dC, dI) kxCl (mW mo ma cs I (va_up (va_up (va_up (va_up (va_up (va_up F 20 (upI (F 20) sd pa)) 22 (upI (F 22) sd (-1))) 23 (upI (F 23) sd 0)) 24 (upI (F 24) sd 0)) 21 (upI (F 21) sd (vp_nar .boolean (iz 1)).toInt)) 22 (upI (upI (F 22) sd (-1)) sd 2))) H := hP
                    have hD : va_D A (mW mo ma cs I (va_up (va_up (va_up (va_up (va_up (va_up F 20 (upI (F 20) sd pa)) 22 (upI (F 22) sd (-1))) 23 (upI (F 23) sd 0)) 24 (upI (F 24) sd 0)) 21 (upI (F 21) sd (vp_nar .boolean (iz 1)).toInt)) 22 (upI (upI (F 22) sd (-1)) sd 2))) := hD
                    refine lv_aload_n hx hb dX6_step_166 rfl (lv_at hl 3 rfl) ?_
                    refine va_get (D := (dC, dI)) (ci := 6) (v := .ref (ma 23)) (C := RX6) (T := TX6) (N := 44) hx hb hts kt_X6 hown hK hP 0 rfl rfl 23 (by decide) (kx_word hG kq_05_morder_3 rfl) (fun _ h9 => h9) rfl dX6_step_167 ?_
                    refine lv_iload_n hx hb dX6_step_170 rfl (lv_at hl 4 rfl) ?_
                    refine lv_iload hx hb dX6_step_171 (lv_at hl 0 rfl) ?_
                    refine mk_calls (As := [.int (iz (F 4 ((20 * p0) + pa)))]) (rest := [.int (iz sd), .ref (ma 23)]) ⟨hx, hb, hml, hown, hts⟩ (k_letterOf l dC dI (F 4 ((20 * p0) + pa)) H.size (by omega) (by omega)) (va_cwS 1 hts (kx_gS kq_05_morder_5 kq_05_morder_6 kq_04_msmall_6 kq_05_morder_7 rfl) rfl rfl rfl (by decide +kernel) ⟨Nat.le_of_ble_eq_true rfl, Nat.le_of_ble_eq_true rfl⟩) hP hD hK hG hZ hS hA rfl hl.1 rfl (Nat.le_of_ble_eq_true rfl) dX6_step_173 ⟨Nat.le_of_ble_eq_true rfl, Nat.le_of_ble_eq_true rfl⟩ (fun z_487 H locs hq_488 hP hS => ?_)
                    try dsimp only at hq_488
                    refine ki_iast (F := upI (F 23) sd 0) hx hb hK hP hD hS 18 17 rfl rfl (by omega) (by omega) (by decide) dX6_step_176 (fun H locs hP hD hS => ?_)
                    have hP : va_P (dC, dI) kxCl (mW mo ma cs I (va_up (va_up (va_up (va_up (va_up (va_up (va_up F 20 (upI (F 20) sd pa)) 22 (upI (F 22) sd (-1))) 23 (upI (F 23) sd 0)) 24 (upI (F 24) sd 0)) 21 (upI (F 21) sd (vp_nar .boolean (iz 1)).toInt)) 22 (upI (upI (F 22) sd (-1)) sd 2)) 23 (upI (upI (F 23) sd 0) sd z_487))) H := hP
                    have hD : va_D A (mW mo ma cs I (va_up (va_up (va_up (va_up (va_up (va_up (va_up F 20 (upI (F 20) sd pa)) 22 (upI (F 22) sd (-1))) 23 (upI (F 23) sd 0)) 24 (upI (F 24) sd 0)) 21 (upI (F 21) sd (vp_nar .boolean (iz 1)).toInt)) 22 (upI (upI (F 22) sd (-1)) sd 2)) 23 (upI (upI (F 23) sd 0) sd z_487))) := hD
                    refine lv_aload_n hx hb dX6_step_177 rfl (lv_at hl 3 rfl) ?_
                    refine va_get (D := (dC, dI)) (ci := 6) (v := .ref (ma 20)) (C := RX6) (T := TX6) (N := 44) hx hb hts kt_X6 hown hK hP 0 rfl rfl 20 (by decide) (kx_word hG kq_05_morder_0 rfl) (fun _ h9 => h9) rfl dX6_step_178 ?_
                    refine lv_iload_n hx hb dX6_step_181 rfl (lv_at hl 4 rfl) ?_
                    refine lv_iload_n hx hb dX6_step_182 rfl (lv_at hl 2 rfl) ?_
                    refine lv_iconst (v := iz 1) hx hb dX6_step_183 (by decide) ?_
                    refine ki_iadd hx hb dX6_step_184 ?_
                    refine ki_iast (F := upI (F 20) sd pa) hx hb hK hP hD hS 15 14 rfl rfl (by omega) (by omega) (by decide) dX6_step_185 (fun H locs hP hD hS => ?_)
                    have hP : va_P (dC, dI) kxCl (mW mo ma cs I (va_up (va_up (va_up (va_up (va_up (va_up (va_up (va_up F 20 (upI (F 20) sd pa)) 22 (upI (F 22) sd (-1))) 23 (upI (F 23) sd 0)) 24 (upI (F 24) sd 0)) 21 (upI (F 21) sd (vp_nar .boolean (iz 1)).toInt)) 22 (upI (upI (F 22) sd (-1)) sd 2)) 23 (upI (upI (F 23) sd 0) sd z_487)) 20 (upI (upI (F 20) sd pa) sd (pa + 1)))) H := hP
                    have hD : va_D A (mW mo ma cs I (va_up (va_up (va_up (va_up (va_up (va_up (va_up (va_up F 20 (upI (F 20) sd pa)) 22 (upI (F 22) sd (-1))) 23 (upI (F 23) sd 0)) 24 (upI (F 24) sd 0)) 21 (upI (F 21) sd (vp_nar .boolean (iz 1)).toInt)) 22 (upI (upI (F 22) sd (-1)) sd 2)) 23 (upI (upI (F 23) sd 0) sd z_487)) 20 (upI (upI (F 20) sd pa) sd (pa + 1)))) := hD
                    have e_489 : (va_up (va_up (va_up (va_up (va_up (va_up (va_up (va_up F 20 (upI (F 20) sd pa)) 22 (upI (F 22) sd (-1))) 23 (upI (F 23) sd 0)) 24 (upI (F 24) sd 0)) 21 (upI (F 21) sd (vp_nar .boolean (iz 1)).toInt)) 22 (upI (upI (F 22) sd (-1)) sd 2)) 23 (upI (upI (F 23) sd 0) sd z_487)) 20 (upI (upI (F 20) sd pa) sd (pa + 1))) 20 sd = pa + 1 := upI_self _ _ _
                    have e_490 : (va_up (va_up (va_up (va_up (va_up (va_up (va_up (va_up F 20 (upI (F 20) sd pa)) 22 (upI (F 22) sd (-1))) 23 (upI (F 23) sd 0)) 24 (upI (F 24) sd 0)) 21 (upI (F 21) sd (vp_nar .boolean (iz 1)).toInt)) 22 (upI (upI (F 22) sd (-1)) sd 2)) 23 (upI (upI (F 23) sd 0) sd z_487)) 20 (upI (upI (F 20) sd pa) sd (pa + 1))) 22 sd = 2 := upI_self _ _ _
                    have e_491 : (va_up (va_up (va_up (va_up (va_up (va_up (va_up (va_up F 20 (upI (F 20) sd pa)) 22 (upI (F 22) sd (-1))) 23 (upI (F 23) sd 0)) 24 (upI (F 24) sd 0)) 21 (upI (F 21) sd (vp_nar .boolean (iz 1)).toInt)) 22 (upI (upI (F 22) sd (-1)) sd 2)) 23 (upI (upI (F 23) sd 0) sd z_487)) 20 (upI (upI (F 20) sd pa) sd (pa + 1))) 23 sd = z_487 := upI_self _ _ _
                    have e_492 : (va_up (va_up (va_up (va_up (va_up (va_up (va_up (va_up F 20 (upI (F 20) sd pa)) 22 (upI (F 22) sd (-1))) 23 (upI (F 23) sd 0)) 24 (upI (F 24) sd 0)) 21 (upI (F 21) sd (vp_nar .boolean (iz 1)).toInt)) 22 (upI (upI (F 22) sd (-1)) sd 2)) 23 (upI (upI (F 23) sd 0) sd z_487)) 20 (upI (upI (F 20) sd pa) sd (pa + 1))) 24 sd = 0 := upI_self _ _ _
                    have e_493 : (va_up (va_up (va_up (va_up (va_up (va_up (va_up (va_up F 20 (upI (F 20) sd pa)) 22 (upI (F 22) sd (-1))) 23 (upI (F 23) sd 0)) 24 (upI (F 24) sd 0)) 21 (upI (F 21) sd (vp_nar .boolean (iz 1)).toInt)) 22 (upI (upI (F 22) sd (-1)) sd 2)) 23 (upI (upI (F 23) sd 0) sd z_487)) 20 (upI (upI (F 20) sd pa) sd (pa + 1))) 21 sd = (vp_nar .boolean (iz 1)).toInt := upI_self _ _ _
                    rw [← hQe]
                    exact mk_ret hx hb hr hlocks hP hD hK hS dX6_step_186 (⟨rfl, (mB_f (mB_f (mB_f (mB_f (mB_f (mB_f (mB_f (mB_f hB 20 sd (by omega) (by omega)) 22 sd (by omega) (by omega)) 23 sd (by omega) (by omega)) 24 sd (by omega) (by omega)) 21 sd (iz_lo _) (iz_hi _)) 22 sd (by omega) (by omega)) 23 sd (by omega) (by omega)) 20 sd (by omega) (by omega)), (mfr.upF (mfr.upF (mfr.upF (mfr.upF (mfr.upF (mfr.upF (mfr.upF (mfr.upF mfr.rf (by decide) _) (by decide) _) (by decide) _) (by decide) _) (by decide) _) (by decide) _) (by decide) _) (by decide) _), (mo1.up (mo1.up (mo1.up (mo1.up (mo1.up (mo1.up (mo1.up (mo1.up mo1.rf 20 _) 22 _) 23 _) 24 _) 21 _) 22 _) 23 _) 20 _), by omega, by omega, by omega⟩)
                · skip
                  refine lv_aload_n hx hb dX6_step_114 rfl (lv_at hl 2 rfl) ?_
                  refine va_get (D := (dC, dI)) (ci := 6) (v := .ref (ma 21)) (C := RX6) (T := TX6) (N := 44) hx hb hts kt_X6 hown hK hP 0 rfl rfl 21 (by decide) (kx_word hG kq_05_morder_1 rfl) (fun _ h9 => h9) rfl dX6_step_115 ?_
                  refine lv_iload_n hx hb dX6_step_118 rfl (lv_at hl 3 rfl) ?_
                  refine ki_zald (F := F 21) hx hb hK hP 16 15 rfl rfl (by omega) (by omega) (by decide) dX6_step_119 ?_
                  have hbd_494 := hB.2 21 sd
                  refine ki_if_eq (tgt := 131) hx hb dX6_step_120 (by decide) (by omega) (by omega) (fun c_495 => ?_) (fun c_495 => ?_)
                  · skip
                    refine lv_aload_n hx hb dX6_step_131 rfl (lv_at hl 2 rfl) ?_
                    refine va_get (D := (dC, dI)) (ci := 6) (v := .ref (ma 21)) (C := RX6) (T := TX6) (N := 44) hx hb hts kt_X6 hown hK hP 0 rfl rfl 21 (by decide) (kx_word hG kq_05_morder_1 rfl) (fun _ h9 => h9) rfl dX6_step_132 ?_
                    refine lv_iload_n hx hb dX6_step_135 rfl (lv_at hl 3 rfl) ?_
                    refine lv_iconst (v := iz 1) hx hb dX6_step_136 (by decide) ?_
                    refine ki_zast (F := F 21) hx hb hK hP hD hS 16 15 rfl rfl (by omega) (by omega) (by decide) dX6_step_137 (fun H locs hP hD hS => ?_)
                    have hP : va_P (dC, dI) kxCl (mW mo ma cs I (va_up (va_up (va_up (va_up (va_up F 20 (upI (F 20) sd pa)) 22 (upI (F 22) sd (-1))) 23 (upI (F 23) sd 0)) 24 (upI (F 24) sd 0)) 21 (upI (F 21) sd (vp_nar .boolean (iz 1)).toInt))) H := hP
                    have hD : va_D A (mW mo ma cs I (va_up (va_up (va_up (va_up (va_up F 20 (upI (F 20) sd pa)) 22 (upI (F 22) sd (-1))) 23 (upI (F 23) sd 0)) 24 (upI (F 24) sd 0)) 21 (upI (F 21) sd (vp_nar .boolean (iz 1)).toInt))) := hD
                    refine lv_aload_n hx hb dX6_step_138 rfl (lv_at hl 2 rfl) ?_
                    refine va_get (D := (dC, dI)) (ci := 6) (v := .ref (ma 4)) (C := RX6) (T := TX6) (N := 44) hx hb hts kt_X6 hown hK hP 0 rfl rfl 4 (by decide) (kx_word hG kq_04_msmall_16 rfl) (fun _ h9 => h9) rfl dX6_step_139 ?_
                    refine lv_bipush (v := iz 20) hx hb dX6_step_142 (by decide) ?_
                    refine lv_iload_n hx hb dX6_step_144 rfl (lv_at hl 4 rfl) ?_
                    refine ki_imul hx hb dX6_step_145 ?_
                    refine lv_iload_n hx hb dX6_step_146 rfl (lv_at hl 1 rfl) ?_
                    refine ki_iadd hx hb dX6_step_147 ?_
                    refine ki_iald (F := F 4) hx hb hK hP 3 2 rfl rfl (by omega) (by omega) (by decide) dX6_step_148 ?_
                    refine lv_istore (lv' := [(5, .int (iz (F 4 ((20 * p0) + pa)))), (4, .int (iz ps)), (3, .int (iz pa)), (0, .ref mo), (1, .int (iz sd)), (2, .int (iz p0))]) hx hb dX6_step_149 hl (by decide) rfl (fun ls hl => ?_)
                    refine lv_iload hx hb dX6_step_151 (lv_at hl 0 rfl) ?_
                    refine mk_calls (As := [.int (iz (F 4 ((20 * p0) + pa)))]) (rest := []) ⟨hx, hb, hml, hown, hts⟩ (k_letterOf l dC dI (F 4 ((20 * p0) + pa)) H.size (by omega) (by omega)) (va_cwS 1 hts (kx_gS kq_05_morder_5 kq_05_morder_6 kq_04_msmall_6 kq_05_morder_7 rfl) rfl rfl rfl (by decide +kernel) ⟨Nat.le_of_ble_eq_true rfl, Nat.le_of_ble_eq_true rfl⟩) hP hD hK hG hZ hS hA rfl hl.1 rfl (Nat.le_of_ble_eq_true rfl) dX6_step_153 ⟨Nat.le_of_ble_eq_true rfl, Nat.le_of_ble_eq_true rfl⟩ (fun z_496 H locs hq_497 hP hS => ?_)
                    try dsimp only at hq_497
                    refine ki_if_le (tgt := 187) hx hb dX6_step_156 (by decide) (by omega) (by omega) (fun c_498 => ?_) (fun c_498 => ?_)
                    · skip
                      refine lv_iload_n hx hb dX6_step_187 rfl (lv_at hl 2 rfl) ?_
                      refine lv_iconst (v := iz 1) hx hb dX6_step_188 (by decide) ?_
                      refine ki_iadd hx hb dX6_step_189 ?_
                      refine lv_istore (lv' := [(6, .int (iz (pa + 1))), (5, .int (iz (F 4 ((20 * p0) + pa)))), (4, .int (iz ps)), (3, .int (iz pa)), (0, .ref mo), (1, .int (iz sd)), (2, .int (iz p0))]) hx hb dX6_step_190 hl (by decide) rfl (fun ls hl => ?_)
                      have lp192 : ∀ (n : Nat) (en : Int), ((pa + 1 ≤ en ∧ en ≤ F 5 p0)) → (F 5 p0 - en).toNat < n → ∀ (H : Heap) (locs : List Loc), va_P (dC, dI) kxCl (mW mo ma cs I (va_up (va_up (va_up (va_up (va_up F 20 (upI (F 20) sd pa)) 22 (upI (F 22) sd (-1))) 23 (upI (F 23) sd 0)) 24 (upI (F 24) sd 0)) 21 (upI (F 21) sd (vp_nar .boolean (iz 1)).toInt))) H → va_D A (mW mo ma cs I (va_up (va_up (va_up (va_up (va_up F 20 (upI (F 20) sd pa)) 22 (upI (F 22) sd (-1))) 23 (upI (F 23) sd 0)) 24 (upI (F 24) sd 0)) 21 (upI (F 21) sd (vp_nar .boolean (iz 1)).toInt))) → va_S A s.heap H locs → ∀ ls : Array Slot, lv_has ls 7 [(6, .int (iz en)), (5, .int (iz (F 4 ((20 * p0) + pa)))), (4, .int (iz ps)), (3, .int (iz pa)), (0, .ref mo), (1, .int (iz sd)), (2, .int (iz p0))] → W p l e (headSpec [.code yX6_step cX6_step 7 none] ({ frames := 1, cells := 0, slots := 0, locals := 21 })).room s m ([.ref mo, .int (iz sd), .int (iz p0)] : List Value).toArray below meth c H locs 0 0 QQ (F0 m 192 ls []) := by
                        intro n
                        induction n with
                        | zero => intro en hinv hm; exact absurd hm (Nat.not_lt_zero _)
                        | succ n ih192 =>
                          intro en hinv hm H locs hP hD hS ls hl
                          have hen := hinv
                          refine lv_aload_n hx hb dX6_step_192 rfl (lv_at hl 4 rfl) ?_
                          refine va_get (D := (dC, dI)) (ci := 6) (v := .int (iz (I 14))) (C := RX6) (T := TX6) (N := 44) hx hb hts kt_X6 hown hK hP 0 rfl rfl 14 (by decide) (kx_word hG kq_04_msmall_17 rfl) (fun _ h9 => h9) rfl dX6_step_193 ?_
                          have hbd_499 := hB.1 14
                          refine ki_if_eq (tgt := 234) hx hb dX6_step_196 (by decide) (by omega) (by omega) (fun c_500 => ?_) (fun c_500 => ?_)
                          · skip
                            have lp234 : ∀ (n : Nat) (pz : Int), ((pa ≤ pz ∧ pz ≤ en)) → (en - pz).toNat < n → ∀ (H : Heap) (locs : List Loc), va_P (dC, dI) kxCl (mW mo ma cs I (va_up (va_up (va_up (va_up (va_up F 20 (upI (F 20) sd pa)) 22 (upI (F 22) sd (-1))) 23 (upI (F 23) sd 0)) 24 (upI (F 24) sd 0)) 21 (upI (F 21) sd (vp_nar .boolean (iz 1)).toInt))) H → va_D A (mW mo ma cs I (va_up (va_up (va_up (va_up (va_up F 20 (upI (F 20) sd pa)) 22 (upI (F 22) sd (-1))) 23 (upI (F 23) sd 0)) 24 (upI (F 24) sd 0)) 21 (upI (F 21) sd (vp_nar .boolean (iz 1)).toInt))) → va_S A s.heap H locs → ∀ ls : Array Slot, lv_has ls 7 [(6, .int (iz en)), (5, .int (iz (F 4 ((20 * p0) + pa)))), (4, .int (iz ps)), (3, .int (iz pz)), (0, .ref mo), (1, .int (iz sd)), (2, .int (iz p0))] → W p l e (headSpec [.code yX6_step cX6_step 7 none] ({ frames := 1, cells := 0, slots := 0, locals := 21 })).room s m ([.ref mo, .int (iz sd), .int (iz p0)] : List Value).toArray below meth c H locs 0 0 QQ (F0 m 234 ls []) := by
                              intro n
                              induction n with
                              | zero => intro pz hinv hm; exact absurd hm (Nat.not_lt_zero _)
                              | succ n ih234 =>
                                intro pz hinv hm H locs hP hD hS ls hl
                                have hpz := hinv
                                refine lv_iload_n hx hb dX6_step_234 rfl (lv_at hl 3 rfl) ?_
                                refine lv_iload hx hb dX6_step_235 (lv_at hl 0 rfl) ?_
                                refine ki_icmp_ge (tgt := 262) hx hb dX6_step_237 (by decide) (by omega) (by omega) (by omega) (by omega) (fun c_501 => ?_) (fun c_501 => ?_)
                                · skip
                                  refine lv_aload_n hx hb dX6_step_262 rfl (lv_at hl 4 rfl) ?_
                                  refine va_get (D := (dC, dI)) (ci := 6) (v := .ref (ma 22)) (C := RX6) (T := TX6) (N := 44) hx hb hts kt_X6 hown hK hP 0 rfl rfl 22 (by decide) (kx_word hG kq_05_morder_2 rfl) (fun _ h9 => h9) rfl dX6_step_263 ?_
                                  refine lv_iload_n hx hb dX6_step_266 rfl (lv_at hl 5 rfl) ?_
                                  refine lv_iconst (v := iz 1) hx hb dX6_step_267 (by decide) ?_
                                  refine ki_iast (F := upI (F 22) sd (-1)) hx hb hK hP hD hS 17 16 rfl rfl (by omega) (by omega) (by decide) dX6_step_268 (fun H locs hP hD hS => ?_)
                                  have hP : va_P (dC, dI) kxCl (mW mo ma cs I (va_up (va_up (va_up (va_up (va_up (va_up F 20 (upI (F 20) sd pa)) 22 (upI (F 22) sd (-1))) 23 (upI (F 23) sd 0)) 24 (upI (F 24) sd 0)) 21 (upI (F 21) sd (vp_nar .boolean (iz 1)).toInt)) 22 (upI (upI (F 22) sd (-1)) sd 1))) H := hP
                                  have hD : va_D A (mW mo ma cs I (va_up (va_up (va_up (va_up (va_up (va_up F 20 (upI (F 20) sd pa)) 22 (upI (F 22) sd (-1))) 23 (upI (F 23) sd 0)) 24 (upI (F 24) sd 0)) 21 (upI (F 21) sd (vp_nar .boolean (iz 1)).toInt)) 22 (upI (upI (F 22) sd (-1)) sd 1))) := hD
                                  refine lv_aload_n hx hb dX6_step_269 rfl (lv_at hl 4 rfl) ?_
                                  refine va_get (D := (dC, dI)) (ci := 6) (v := .ref (ma 23)) (C := RX6) (T := TX6) (N := 44) hx hb hts kt_X6 hown hK hP 0 rfl rfl 23 (by decide) (kx_word hG kq_05_morder_3 rfl) (fun _ h9 => h9) rfl dX6_step_270 ?_
                                  refine lv_iload_n hx hb dX6_step_273 rfl (lv_at hl 5 rfl) ?_
                                  refine lv_bipush (v := iz 20) hx hb dX6_step_274 (by decide) ?_
                                  refine lv_iload_n hx hb dX6_step_276 rfl (lv_at hl 6 rfl) ?_
                                  refine ki_imul hx hb dX6_step_277 ?_
                                  refine lv_iload_n hx hb dX6_step_278 rfl (lv_at hl 3 rfl) ?_
                                  refine ki_iadd hx hb dX6_step_279 ?_
                                  refine ki_iast (F := upI (F 23) sd 0) hx hb hK hP hD hS 18 17 rfl rfl (by omega) (by omega) (by decide) dX6_step_280 (fun H locs hP hD hS => ?_)
                                  have hP : va_P (dC, dI) kxCl (mW mo ma cs I (va_up (va_up (va_up (va_up (va_up (va_up (va_up F 20 (upI (F 20) sd pa)) 22 (upI (F 22) sd (-1))) 23 (upI (F 23) sd 0)) 24 (upI (F 24) sd 0)) 21 (upI (F 21) sd (vp_nar .boolean (iz 1)).toInt)) 22 (upI (upI (F 22) sd (-1)) sd 1)) 23 (upI (upI (F 23) sd 0) sd ((20 * p0) + pz)))) H := hP
                                  have hD : va_D A (mW mo ma cs I (va_up (va_up (va_up (va_up (va_up (va_up (va_up F 20 (upI (F 20) sd pa)) 22 (upI (F 22) sd (-1))) 23 (upI (F 23) sd 0)) 24 (upI (F 24) sd 0)) 21 (upI (F 21) sd (vp_nar .boolean (iz 1)).toInt)) 22 (upI (upI (F 22) sd (-1)) sd 1)) 23 (upI (upI (F 23) sd 0) sd ((20 * p0) + pz)))) := hD
                                  refine lv_aload_n hx hb dX6_step_281 rfl (lv_at hl 4 rfl) ?_
                                  refine va_get (D := (dC, dI)) (ci := 6) (v := .ref (ma 24)) (C := RX6) (T := TX6) (N := 44) hx hb hts kt_X6 hown hK hP 0 rfl rfl 24 (by decide) (kx_word hG kq_05_morder_4 rfl) (fun _ h9 => h9) rfl dX6_step_282 ?_
                                  refine lv_iload_n hx hb dX6_step_285 rfl (lv_at hl 5 rfl) ?_
                                  refine lv_iload hx hb dX6_step_286 (lv_at hl 0 rfl) ?_
                                  refine lv_iload_n hx hb dX6_step_288 rfl (lv_at hl 3 rfl) ?_
                                  refine ki_isub hx hb dX6_step_289 ?_
                                  refine ki_iast (F := upI (F 24) sd 0) hx hb hK hP hD hS 19 18 rfl rfl (by omega) (by omega) (by decide) dX6_step_290 (fun H locs hP hD hS => ?_)
                                  have hP : va_P (dC, dI) kxCl (mW mo ma cs I (va_up (va_up (va_up (va_up (va_up (va_up (va_up (va_up F 20 (upI (F 20) sd pa)) 22 (upI (F 22) sd (-1))) 23 (upI (F 23) sd 0)) 24 (upI (F 24) sd 0)) 21 (upI (F 21) sd (vp_nar .boolean (iz 1)).toInt)) 22 (upI (upI (F 22) sd (-1)) sd 1)) 23 (upI (upI (F 23) sd 0) sd ((20 * p0) + pz))) 24 (upI (upI (F 24) sd 0) sd (en - pz)))) H := hP
                                  have hD : va_D A (mW mo ma cs I (va_up (va_up (va_up (va_up (va_up (va_up (va_up (va_up F 20 (upI (F 20) sd pa)) 22 (upI (F 22) sd (-1))) 23 (upI (F 23) sd 0)) 24 (upI (F 24) sd 0)) 21 (upI (F 21) sd (vp_nar .boolean (iz 1)).toInt)) 22 (upI (upI (F 22) sd (-1)) sd 1)) 23 (upI (upI (F 23) sd 0) sd ((20 * p0) + pz))) 24 (upI (upI (F 24) sd 0) sd (en - pz)))) := hD
                                  refine lv_aload_n hx hb dX6_step_291 rfl (lv_at hl 4 rfl) ?_
                                  refine va_get (D := (dC, dI)) (ci := 6) (v := .ref (ma 20)) (C := RX6) (T := TX6) (N := 44) hx hb hts kt_X6 hown hK hP 0 rfl rfl 20 (by decide) (kx_word hG kq_05_morder_0 rfl) (fun _ h9 => h9) rfl dX6_step_292 ?_
                                  refine lv_iload_n hx hb dX6_step_295 rfl (lv_at hl 5 rfl) ?_
                                  refine lv_iload hx hb dX6_step_296 (lv_at hl 0 rfl) ?_
                                  refine ki_iast (F := upI (F 20) sd pa) hx hb hK hP hD hS 15 14 rfl rfl (by omega) (by omega) (by decide) dX6_step_298 (fun H locs hP hD hS => ?_)
                                  have hP : va_P (dC, dI) kxCl (mW mo ma cs I (va_up (va_up (va_up (va_up (va_up (va_up (va_up (va_up (va_up F 20 (upI (F 20) sd pa)) 22 (upI (F 22) sd (-1))) 23 (upI (F 23) sd 0)) 24 (upI (F 24) sd 0)) 21 (upI (F 21) sd (vp_nar .boolean (iz 1)).toInt)) 22 (upI (upI (F 22) sd (-1)) sd 1)) 23 (upI (upI (F 23) sd 0) sd ((20 * p0) + pz))) 24 (upI (upI (F 24) sd 0) sd (en - pz))) 20 (upI (upI (F 20) sd pa) sd en))) H := hP
                                  have hD : va_D A (mW mo ma cs I (va_up (va_up (va_up (va_up (va_up (va_up (va_up (va_up (va_up F 20 (upI (F 20) sd pa)) 22 (upI (F 22) sd (-1))) 23 (upI (F 23) sd 0)) 24 (upI (F 24) sd 0)) 21 (upI (F 21) sd (vp_nar .boolean (iz 1)).toInt)) 22 (upI (upI (F 22) sd (-1)) sd 1)) 23 (upI (upI (F 23) sd 0) sd ((20 * p0) + pz))) 24 (upI (upI (F 24) sd 0) sd (en - pz))) 20 (upI (upI (F 20) sd pa) sd en))) := hD
                                  have e_502 : (va_up (va_up (va_up (va_up (va_up (va_up (va_up (va_up (va_up F 20 (upI (F 20) sd pa)) 22 (upI (F 22) sd (-1))) 23 (upI (F 23) sd 0)) 24 (upI (F 24) sd 0)) 21 (upI (F 21) sd (vp_nar .boolean (iz 1)).toInt)) 22 (upI (upI (F 22) sd (-1)) sd 1)) 23 (upI (upI (F 23) sd 0) sd ((20 * p0) + pz))) 24 (upI (upI (F 24) sd 0) sd (en - pz))) 20 (upI (upI (F 20) sd pa) sd en)) 20 sd = en := upI_self _ _ _
                                  have e_503 : (va_up (va_up (va_up (va_up (va_up (va_up (va_up (va_up (va_up F 20 (upI (F 20) sd pa)) 22 (upI (F 22) sd (-1))) 23 (upI (F 23) sd 0)) 24 (upI (F 24) sd 0)) 21 (upI (F 21) sd (vp_nar .boolean (iz 1)).toInt)) 22 (upI (upI (F 22) sd (-1)) sd 1)) 23 (upI (upI (F 23) sd 0) sd ((20 * p0) + pz))) 24 (upI (upI (F 24) sd 0) sd (en - pz))) 20 (upI (upI (F 20) sd pa) sd en)) 22 sd = 1 := upI_self _ _ _
                                  have e_504 : (va_up (va_up (va_up (va_up (va_up (va_up (va_up (va_up (va_up F 20 (upI (F 20) sd pa)) 22 (upI (F 22) sd (-1))) 23 (upI (F 23) sd 0)) 24 (upI (F 24) sd 0)) 21 (upI (F 21) sd (vp_nar .boolean (iz 1)).toInt)) 22 (upI (upI (F 22) sd (-1)) sd 1)) 23 (upI (upI (F 23) sd 0) sd ((20 * p0) + pz))) 24 (upI (upI (F 24) sd 0) sd (en - pz))) 20 (upI (upI (F 20) sd pa) sd en)) 23 sd = (20 * p0) + pz := upI_self _ _ _
                                  have e_505 : (va_up (va_up (va_up (va_up (va_up (va_up (va_up (va_up (va_up F 20 (upI (F 20) sd pa)) 22 (upI (F 22) sd (-1))) 23 (upI (F 23) sd 0)) 24 (upI (F 24) sd 0)) 21 (upI (F 21) sd (vp_nar .boolean (iz 1)).toInt)) 22 (upI (upI (F 22) sd (-1)) sd 1)) 23 (upI (upI (F 23) sd 0) sd ((20 * p0) + pz))) 24 (upI (upI (F 24) sd 0) sd (en - pz))) 20 (upI (upI (F 20) sd pa) sd en)) 24 sd = en - pz := upI_self _ _ _
                                  have e_506 : (va_up (va_up (va_up (va_up (va_up (va_up (va_up (va_up (va_up F 20 (upI (F 20) sd pa)) 22 (upI (F 22) sd (-1))) 23 (upI (F 23) sd 0)) 24 (upI (F 24) sd 0)) 21 (upI (F 21) sd (vp_nar .boolean (iz 1)).toInt)) 22 (upI (upI (F 22) sd (-1)) sd 1)) 23 (upI (upI (F 23) sd 0) sd ((20 * p0) + pz))) 24 (upI (upI (F 24) sd 0) sd (en - pz))) 20 (upI (upI (F 20) sd pa) sd en)) 21 sd = (vp_nar .boolean (iz 1)).toInt := upI_self _ _ _
                                  rw [← hQe]
                                  exact mk_ret hx hb hr hlocks hP hD hK hS dX6_step_299 (⟨rfl, (mB_f (mB_f (mB_f (mB_f (mB_f (mB_f (mB_f (mB_f (mB_f hB 20 sd (by omega) (by omega)) 22 sd (by omega) (by omega)) 23 sd (by omega) (by omega)) 24 sd (by omega) (by omega)) 21 sd (iz_lo _) (iz_hi _)) 22 sd (by omega) (by omega)) 23 sd (by omega) (by omega)) 24 sd (by omega) (by omega)) 20 sd (by omega) (by omega)), (mfr.upF (mfr.upF (mfr.upF (mfr.upF (mfr.upF (mfr.upF (mfr.upF (mfr.upF (mfr.upF mfr.rf (by decide) _) (by decide) _) (by decide) _) (by decide) _) (by decide) _) (by decide) _) (by decide) _) (by decide) _) (by decide) _), (mo1.up (mo1.up (mo1.up (mo1.up (mo1.up (mo1.up (mo1.up (mo1.up (mo1.up mo1.rf 20 _) 22 _) 23 _) 24 _) 21 _) 22 _) 23 _) 24 _) 20 _), by omega, by omega, by omega⟩)
                                · skip
                                  refine lv_aload_n hx hb dX6_step_240 rfl (lv_at hl 4 rfl) ?_
                                  refine va_get (D := (dC, dI)) (ci := 6) (v := .ref (ma 4)) (C := RX6) (T := TX6) (N := 44) hx hb hts kt_X6 hown hK hP 0 rfl rfl 4 (by decide) (kx_word hG kq_04_msmall_16 rfl) (fun _ h9 => h9) rfl dX6_step_241 ?_
                                  refine lv_bipush (v := iz 20) hx hb dX6_step_244 (by decide) ?_
                                  refine lv_iload_n hx hb dX6_step_246 rfl (lv_at hl 6 rfl) ?_
                                  refine ki_imul hx hb dX6_step_247 ?_
                                  refine lv_iload_n hx hb dX6_step_248 rfl (lv_at hl 3 rfl) ?_
                                  refine ki_iadd hx hb dX6_step_249 ?_
                                  refine ki_iald (F := F 4) hx hb hK hP 3 2 rfl rfl (by omega) (by omega) (by decide) dX6_step_250 ?_
                                  have hbd_507 := hB.2 4 ((20 * p0) + pz)
                                  refine lv_bipush (v := iz 48) hx hb dX6_step_251 (by decide) ?_
                                  refine ki_icmp_ne (tgt := 262) hx hb dX6_step_253 (by decide) (by omega) (by omega) (by omega) (by omega) (fun c_508 => ?_) (fun c_508 => ?_)
                                  · skip
                                    refine lv_aload_n hx hb dX6_step_262 rfl (lv_at hl 4 rfl) ?_
                                    refine va_get (D := (dC, dI)) (ci := 6) (v := .ref (ma 22)) (C := RX6) (T := TX6) (N := 44) hx hb hts kt_X6 hown hK hP 0 rfl rfl 22 (by decide) (kx_word hG kq_05_morder_2 rfl) (fun _ h9 => h9) rfl dX6_step_263 ?_
                                    refine lv_iload_n hx hb dX6_step_266 rfl (lv_at hl 5 rfl) ?_
                                    refine lv_iconst (v := iz 1) hx hb dX6_step_267 (by decide) ?_
                                    refine ki_iast (F := upI (F 22) sd (-1)) hx hb hK hP hD hS 17 16 rfl rfl (by omega) (by omega) (by decide) dX6_step_268 (fun H locs hP hD hS => ?_)
                                    have hP : va_P (dC, dI) kxCl (mW mo ma cs I (va_up (va_up (va_up (va_up (va_up (va_up F 20 (upI (F 20) sd pa)) 22 (upI (F 22) sd (-1))) 23 (upI (F 23) sd 0)) 24 (upI (F 24) sd 0)) 21 (upI (F 21) sd (vp_nar .boolean (iz 1)).toInt)) 22 (upI (upI (F 22) sd (-1)) sd 1))) H := hP
                                    have hD : va_D A (mW mo ma cs I (va_up (va_up (va_up (va_up (va_up (va_up F 20 (upI (F 20) sd pa)) 22 (upI (F 22) sd (-1))) 23 (upI (F 23) sd 0)) 24 (upI (F 24) sd 0)) 21 (upI (F 21) sd (vp_nar .boolean (iz 1)).toInt)) 22 (upI (upI (F 22) sd (-1)) sd 1))) := hD
                                    refine lv_aload_n hx hb dX6_step_269 rfl (lv_at hl 4 rfl) ?_
                                    refine va_get (D := (dC, dI)) (ci := 6) (v := .ref (ma 23)) (C := RX6) (T := TX6) (N := 44) hx hb hts kt_X6 hown hK hP 0 rfl rfl 23 (by decide) (kx_word hG kq_05_morder_3 rfl) (fun _ h9 => h9) rfl dX6_step_270 ?_
                                    refine lv_iload_n hx hb dX6_step_273 rfl (lv_at hl 5 rfl) ?_
                                    refine lv_bipush (v := iz 20) hx hb dX6_step_274 (by decide) ?_
                                    refine lv_iload_n hx hb dX6_step_276 rfl (lv_at hl 6 rfl) ?_
                                    refine ki_imul hx hb dX6_step_277 ?_
                                    refine lv_iload_n hx hb dX6_step_278 rfl (lv_at hl 3 rfl) ?_
                                    refine ki_iadd hx hb dX6_step_279 ?_
                                    refine ki_iast (F := upI (F 23) sd 0) hx hb hK hP hD hS 18 17 rfl rfl (by omega) (by omega) (by decide) dX6_step_280 (fun H locs hP hD hS => ?_)
                                    have hP : va_P (dC, dI) kxCl (mW mo ma cs I (va_up (va_up (va_up (va_up (va_up (va_up (va_up F 20 (upI (F 20) sd pa)) 22 (upI (F 22) sd (-1))) 23 (upI (F 23) sd 0)) 24 (upI (F 24) sd 0)) 21 (upI (F 21) sd (vp_nar .boolean (iz 1)).toInt)) 22 (upI (upI (F 22) sd (-1)) sd 1)) 23 (upI (upI (F 23) sd 0) sd ((20 * p0) + pz)))) H := hP
                                    have hD : va_D A (mW mo ma cs I (va_up (va_up (va_up (va_up (va_up (va_up (va_up F 20 (upI (F 20) sd pa)) 22 (upI (F 22) sd (-1))) 23 (upI (F 23) sd 0)) 24 (upI (F 24) sd 0)) 21 (upI (F 21) sd (vp_nar .boolean (iz 1)).toInt)) 22 (upI (upI (F 22) sd (-1)) sd 1)) 23 (upI (upI (F 23) sd 0) sd ((20 * p0) + pz)))) := hD
                                    refine lv_aload_n hx hb dX6_step_281 rfl (lv_at hl 4 rfl) ?_
                                    refine va_get (D := (dC, dI)) (ci := 6) (v := .ref (ma 24)) (C := RX6) (T := TX6) (N := 44) hx hb hts kt_X6 hown hK hP 0 rfl rfl 24 (by decide) (kx_word hG kq_05_morder_4 rfl) (fun _ h9 => h9) rfl dX6_step_282 ?_
                                    refine lv_iload_n hx hb dX6_step_285 rfl (lv_at hl 5 rfl) ?_
                                    refine lv_iload hx hb dX6_step_286 (lv_at hl 0 rfl) ?_
                                    refine lv_iload_n hx hb dX6_step_288 rfl (lv_at hl 3 rfl) ?_
                                    refine ki_isub hx hb dX6_step_289 ?_
                                    refine ki_iast (F := upI (F 24) sd 0) hx hb hK hP hD hS 19 18 rfl rfl (by omega) (by omega) (by decide) dX6_step_290 (fun H locs hP hD hS => ?_)
                                    have hP : va_P (dC, dI) kxCl (mW mo ma cs I (va_up (va_up (va_up (va_up (va_up (va_up (va_up (va_up F 20 (upI (F 20) sd pa)) 22 (upI (F 22) sd (-1))) 23 (upI (F 23) sd 0)) 24 (upI (F 24) sd 0)) 21 (upI (F 21) sd (vp_nar .boolean (iz 1)).toInt)) 22 (upI (upI (F 22) sd (-1)) sd 1)) 23 (upI (upI (F 23) sd 0) sd ((20 * p0) + pz))) 24 (upI (upI (F 24) sd 0) sd (en - pz)))) H := hP
                                    have hD : va_D A (mW mo ma cs I (va_up (va_up (va_up (va_up (va_up (va_up (va_up (va_up F 20 (upI (F 20) sd pa)) 22 (upI (F 22) sd (-1))) 23 (upI (F 23) sd 0)) 24 (upI (F 24) sd 0)) 21 (upI (F 21) sd (vp_nar .boolean (iz 1)).toInt)) 22 (upI (upI (F 22) sd (-1)) sd 1)) 23 (upI (upI (F 23) sd 0) sd ((20 * p0) + pz))) 24 (upI (upI (F 24) sd 0) sd (en - pz)))) := hD
                                    refine lv_aload_n hx hb dX6_step_291 rfl (lv_at hl 4 rfl) ?_
                                    refine va_get (D := (dC, dI)) (ci := 6) (v := .ref (ma 20)) (C := RX6) (T := TX6) (N := 44) hx hb hts kt_X6 hown hK hP 0 rfl rfl 20 (by decide) (kx_word hG kq_05_morder_0 rfl) (fun _ h9 => h9) rfl dX6_step_292 ?_
                                    refine lv_iload_n hx hb dX6_step_295 rfl (lv_at hl 5 rfl) ?_
                                    refine lv_iload hx hb dX6_step_296 (lv_at hl 0 rfl) ?_
                                    refine ki_iast (F := upI (F 20) sd pa) hx hb hK hP hD hS 15 14 rfl rfl (by omega) (by omega) (by decide) dX6_step_298 (fun H locs hP hD hS => ?_)
                                    have hP : va_P (dC, dI) kxCl (mW mo ma cs I (va_up (va_up (va_up (va_up (va_up (va_up (va_up (va_up (va_up F 20 (upI (F 20) sd pa)) 22 (upI (F 22) sd (-1))) 23 (upI (F 23) sd 0)) 24 (upI (F 24) sd 0)) 21 (upI (F 21) sd (vp_nar .boolean (iz 1)).toInt)) 22 (upI (upI (F 22) sd (-1)) sd 1)) 23 (upI (upI (F 23) sd 0) sd ((20 * p0) + pz))) 24 (upI (upI (F 24) sd 0) sd (en - pz))) 20 (upI (upI (F 20) sd pa) sd en))) H := hP
                                    have hD : va_D A (mW mo ma cs I (va_up (va_up (va_up (va_up (va_up (va_up (va_up (va_up (va_up F 20 (upI (F 20) sd pa)) 22 (upI (F 22) sd (-1))) 23 (upI (F 23) sd 0)) 24 (upI (F 24) sd 0)) 21 (upI (F 21) sd (vp_nar .boolean (iz 1)).toInt)) 22 (upI (upI (F 22) sd (-1)) sd 1)) 23 (upI (upI (F 23) sd 0) sd ((20 * p0) + pz))) 24 (upI (upI (F 24) sd 0) sd (en - pz))) 20 (upI (upI (F 20) sd pa) sd en))) := hD
                                    have e_509 : (va_up (va_up (va_up (va_up (va_up (va_up (va_up (va_up (va_up F 20 (upI (F 20) sd pa)) 22 (upI (F 22) sd (-1))) 23 (upI (F 23) sd 0)) 24 (upI (F 24) sd 0)) 21 (upI (F 21) sd (vp_nar .boolean (iz 1)).toInt)) 22 (upI (upI (F 22) sd (-1)) sd 1)) 23 (upI (upI (F 23) sd 0) sd ((20 * p0) + pz))) 24 (upI (upI (F 24) sd 0) sd (en - pz))) 20 (upI (upI (F 20) sd pa) sd en)) 20 sd = en := upI_self _ _ _
                                    have e_510 : (va_up (va_up (va_up (va_up (va_up (va_up (va_up (va_up (va_up F 20 (upI (F 20) sd pa)) 22 (upI (F 22) sd (-1))) 23 (upI (F 23) sd 0)) 24 (upI (F 24) sd 0)) 21 (upI (F 21) sd (vp_nar .boolean (iz 1)).toInt)) 22 (upI (upI (F 22) sd (-1)) sd 1)) 23 (upI (upI (F 23) sd 0) sd ((20 * p0) + pz))) 24 (upI (upI (F 24) sd 0) sd (en - pz))) 20 (upI (upI (F 20) sd pa) sd en)) 22 sd = 1 := upI_self _ _ _
                                    have e_511 : (va_up (va_up (va_up (va_up (va_up (va_up (va_up (va_up (va_up F 20 (upI (F 20) sd pa)) 22 (upI (F 22) sd (-1))) 23 (upI (F 23) sd 0)) 24 (upI (F 24) sd 0)) 21 (upI (F 21) sd (vp_nar .boolean (iz 1)).toInt)) 22 (upI (upI (F 22) sd (-1)) sd 1)) 23 (upI (upI (F 23) sd 0) sd ((20 * p0) + pz))) 24 (upI (upI (F 24) sd 0) sd (en - pz))) 20 (upI (upI (F 20) sd pa) sd en)) 23 sd = (20 * p0) + pz := upI_self _ _ _
                                    have e_512 : (va_up (va_up (va_up (va_up (va_up (va_up (va_up (va_up (va_up F 20 (upI (F 20) sd pa)) 22 (upI (F 22) sd (-1))) 23 (upI (F 23) sd 0)) 24 (upI (F 24) sd 0)) 21 (upI (F 21) sd (vp_nar .boolean (iz 1)).toInt)) 22 (upI (upI (F 22) sd (-1)) sd 1)) 23 (upI (upI (F 23) sd 0) sd ((20 * p0) + pz))) 24 (upI (upI (F 24) sd 0) sd (en - pz))) 20 (upI (upI (F 20) sd pa) sd en)) 24 sd = en - pz := upI_self _ _ _
                                    have e_513 : (va_up (va_up (va_up (va_up (va_up (va_up (va_up (va_up (va_up F 20 (upI (F 20) sd pa)) 22 (upI (F 22) sd (-1))) 23 (upI (F 23) sd 0)) 24 (upI (F 24) sd 0)) 21 (upI (F 21) sd (vp_nar .boolean (iz 1)).toInt)) 22 (upI (upI (F 22) sd (-1)) sd 1)) 23 (upI (upI (F 23) sd 0) sd ((20 * p0) + pz))) 24 (upI (upI (F 24) sd 0) sd (en - pz))) 20 (upI (upI (F 20) sd pa) sd en)) 21 sd = (vp_nar .boolean (iz 1)).toInt := upI_self _ _ _
                                    rw [← hQe]
                                    exact mk_ret hx hb hr hlocks hP hD hK hS dX6_step_299 (⟨rfl, (mB_f (mB_f (mB_f (mB_f (mB_f (mB_f (mB_f (mB_f (mB_f hB 20 sd (by omega) (by omega)) 22 sd (by omega) (by omega)) 23 sd (by omega) (by omega)) 24 sd (by omega) (by omega)) 21 sd (iz_lo _) (iz_hi _)) 22 sd (by omega) (by omega)) 23 sd (by omega) (by omega)) 24 sd (by omega) (by omega)) 20 sd (by omega) (by omega)), (mfr.upF (mfr.upF (mfr.upF (mfr.upF (mfr.upF (mfr.upF (mfr.upF (mfr.upF (mfr.upF mfr.rf (by decide) _) (by decide) _) (by decide) _) (by decide) _) (by decide) _) (by decide) _) (by decide) _) (by decide) _) (by decide) _), (mo1.up (mo1.up (mo1.up (mo1.up (mo1.up (mo1.up (mo1.up (mo1.up (mo1.up mo1.rf 20 _) 22 _) 23 _) 24 _) 21 _) 22 _) 23 _) 24 _) 20 _), by omega, by omega, by omega⟩)
                                  · skip
                                    refine lv_iinc (v := iz (pz + 1)) (lv' := [(3, .int (iz (pz + 1))), (6, .int (iz en)), (5, .int (iz (F 4 ((20 * p0) + pa)))), (4, .int (iz ps)), (0, .ref mo), (1, .int (iz sd)), (2, .int (iz p0))]) hx hb dX6_step_256 hl (k := 3) rfl (iz_add pz 1) (by decide) rfl (fun ls hl => ?_)
                                    refine lv_goto (tgt := 234) hx hb dX6_step_259 (by decide) ?_
                                    exact ih234 (pz + 1) (by omega) (by omega) _ _ hP hD hS ls (lv_sub hl [1, 2, 3, 0, 4, 5, 6] rfl)
                            exact lp234 _ pa (by omega) (Nat.lt_succ_self _) _ _ hP hD hS ls (lv_sub hl [0, 1, 2, 3, 4, 5, 6] rfl)
                          · skip
                            refine lv_iload hx hb dX6_step_199 (lv_at hl 0 rfl) ?_
                            refine lv_aload_n hx hb dX6_step_201 rfl (lv_at hl 4 rfl) ?_
                            refine va_get (D := (dC, dI)) (ci := 6) (v := .ref (ma 5)) (C := RX6) (T := TX6) (N := 44) hx hb hts kt_X6 hown hK hP 0 rfl rfl 5 (by decide) (kx_word hG kq_04_msmall_15 rfl) (fun _ h9 => h9) rfl dX6_step_202 ?_
                            refine lv_iload_n hx hb dX6_step_205 rfl (lv_at hl 6 rfl) ?_
                            refine ki_iald (F := F 5) hx hb hK hP 4 3 rfl rfl (by omega) (by omega) (by decide) dX6_step_206 ?_
                            refine ki_icmp_ge (tgt := 234) hx hb dX6_step_207 (by decide) (by omega) (by omega) (by omega) (by omega) (fun c_514 => ?_) (fun c_514 => ?_)
                            · skip
                              have lp234 : ∀ (n : Nat) (pz : Int), ((pa ≤ pz ∧ pz ≤ en)) → (en - pz).toNat < n → ∀ (H : Heap) (locs : List Loc), va_P (dC, dI) kxCl (mW mo ma cs I (va_up (va_up (va_up (va_up (va_up F 20 (upI (F 20) sd pa)) 22 (upI (F 22) sd (-1))) 23 (upI (F 23) sd 0)) 24 (upI (F 24) sd 0)) 21 (upI (F 21) sd (vp_nar .boolean (iz 1)).toInt))) H → va_D A (mW mo ma cs I (va_up (va_up (va_up (va_up (va_up F 20 (upI (F 20) sd pa)) 22 (upI (F 22) sd (-1))) 23 (upI (F 23) sd 0)) 24 (upI (F 24) sd 0)) 21 (upI (F 21) sd (vp_nar .boolean (iz 1)).toInt))) → va_S A s.heap H locs → ∀ ls : Array Slot, lv_has ls 7 [(6, .int (iz en)), (5, .int (iz (F 4 ((20 * p0) + pa)))), (4, .int (iz ps)), (3, .int (iz pz)), (0, .ref mo), (1, .int (iz sd)), (2, .int (iz p0))] → W p l e (headSpec [.code yX6_step cX6_step 7 none] ({ frames := 1, cells := 0, slots := 0, locals := 21 })).room s m ([.ref mo, .int (iz sd), .int (iz p0)] : List Value).toArray below meth c H locs 0 0 QQ (F0 m 234 ls []) := by
                                intro n
                                induction n with
                                | zero => intro pz hinv hm; exact absurd hm (Nat.not_lt_zero _)
                                | succ n ih234 =>
                                  intro pz hinv hm H locs hP hD hS ls hl
                                  have hpz := hinv
                                  refine lv_iload_n hx hb dX6_step_234 rfl (lv_at hl 3 rfl) ?_
                                  refine lv_iload hx hb dX6_step_235 (lv_at hl 0 rfl) ?_
                                  refine ki_icmp_ge (tgt := 262) hx hb dX6_step_237 (by decide) (by omega) (by omega) (by omega) (by omega) (fun c_515 => ?_) (fun c_515 => ?_)
                                  · skip
                                    refine lv_aload_n hx hb dX6_step_262 rfl (lv_at hl 4 rfl) ?_
                                    refine va_get (D := (dC, dI)) (ci := 6) (v := .ref (ma 22)) (C := RX6) (T := TX6) (N := 44) hx hb hts kt_X6 hown hK hP 0 rfl rfl 22 (by decide) (kx_word hG kq_05_morder_2 rfl) (fun _ h9 => h9) rfl dX6_step_263 ?_
                                    refine lv_iload_n hx hb dX6_step_266 rfl (lv_at hl 5 rfl) ?_
                                    refine lv_iconst (v := iz 1) hx hb dX6_step_267 (by decide) ?_
                                    refine ki_iast (F := upI (F 22) sd (-1)) hx hb hK hP hD hS 17 16 rfl rfl (by omega) (by omega) (by decide) dX6_step_268 (fun H locs hP hD hS => ?_)
                                    have hP : va_P (dC, dI) kxCl (mW mo ma cs I (va_up (va_up (va_up (va_up (va_up (va_up F 20 (upI (F 20) sd pa)) 22 (upI (F 22) sd (-1))) 23 (upI (F 23) sd 0)) 24 (upI (F 24) sd 0)) 21 (upI (F 21) sd (vp_nar .boolean (iz 1)).toInt)) 22 (upI (upI (F 22) sd (-1)) sd 1))) H := hP
                                    have hD : va_D A (mW mo ma cs I (va_up (va_up (va_up (va_up (va_up (va_up F 20 (upI (F 20) sd pa)) 22 (upI (F 22) sd (-1))) 23 (upI (F 23) sd 0)) 24 (upI (F 24) sd 0)) 21 (upI (F 21) sd (vp_nar .boolean (iz 1)).toInt)) 22 (upI (upI (F 22) sd (-1)) sd 1))) := hD
                                    refine lv_aload_n hx hb dX6_step_269 rfl (lv_at hl 4 rfl) ?_
                                    refine va_get (D := (dC, dI)) (ci := 6) (v := .ref (ma 23)) (C := RX6) (T := TX6) (N := 44) hx hb hts kt_X6 hown hK hP 0 rfl rfl 23 (by decide) (kx_word hG kq_05_morder_3 rfl) (fun _ h9 => h9) rfl dX6_step_270 ?_
                                    refine lv_iload_n hx hb dX6_step_273 rfl (lv_at hl 5 rfl) ?_
                                    refine lv_bipush (v := iz 20) hx hb dX6_step_274 (by decide) ?_
                                    refine lv_iload_n hx hb dX6_step_276 rfl (lv_at hl 6 rfl) ?_
                                    refine ki_imul hx hb dX6_step_277 ?_
                                    refine lv_iload_n hx hb dX6_step_278 rfl (lv_at hl 3 rfl) ?_
                                    refine ki_iadd hx hb dX6_step_279 ?_
                                    refine ki_iast (F := upI (F 23) sd 0) hx hb hK hP hD hS 18 17 rfl rfl (by omega) (by omega) (by decide) dX6_step_280 (fun H locs hP hD hS => ?_)
                                    have hP : va_P (dC, dI) kxCl (mW mo ma cs I (va_up (va_up (va_up (va_up (va_up (va_up (va_up F 20 (upI (F 20) sd pa)) 22 (upI (F 22) sd (-1))) 23 (upI (F 23) sd 0)) 24 (upI (F 24) sd 0)) 21 (upI (F 21) sd (vp_nar .boolean (iz 1)).toInt)) 22 (upI (upI (F 22) sd (-1)) sd 1)) 23 (upI (upI (F 23) sd 0) sd ((20 * p0) + pz)))) H := hP
                                    have hD : va_D A (mW mo ma cs I (va_up (va_up (va_up (va_up (va_up (va_up (va_up F 20 (upI (F 20) sd pa)) 22 (upI (F 22) sd (-1))) 23 (upI (F 23) sd 0)) 24 (upI (F 24) sd 0)) 21 (upI (F 21) sd (vp_nar .boolean (iz 1)).toInt)) 22 (upI (upI (F 22) sd (-1)) sd 1)) 23 (upI (upI (F 23) sd 0) sd ((20 * p0) + pz)))) := hD
                                    refine lv_aload_n hx hb dX6_step_281 rfl (lv_at hl 4 rfl) ?_
                                    refine va_get (D := (dC, dI)) (ci := 6) (v := .ref (ma 24)) (C := RX6) (T := TX6) (N := 44) hx hb hts kt_X6 hown hK hP 0 rfl rfl 24 (by decide) (kx_word hG kq_05_morder_4 rfl) (fun _ h9 => h9) rfl dX6_step_282 ?_
                                    refine lv_iload_n hx hb dX6_step_285 rfl (lv_at hl 5 rfl) ?_
                                    refine lv_iload hx hb dX6_step_286 (lv_at hl 0 rfl) ?_
                                    refine lv_iload_n hx hb dX6_step_288 rfl (lv_at hl 3 rfl) ?_
                                    refine ki_isub hx hb dX6_step_289 ?_
                                    refine ki_iast (F := upI (F 24) sd 0) hx hb hK hP hD hS 19 18 rfl rfl (by omega) (by omega) (by decide) dX6_step_290 (fun H locs hP hD hS => ?_)
                                    have hP : va_P (dC, dI) kxCl (mW mo ma cs I (va_up (va_up (va_up (va_up (va_up (va_up (va_up (va_up F 20 (upI (F 20) sd pa)) 22 (upI (F 22) sd (-1))) 23 (upI (F 23) sd 0)) 24 (upI (F 24) sd 0)) 21 (upI (F 21) sd (vp_nar .boolean (iz 1)).toInt)) 22 (upI (upI (F 22) sd (-1)) sd 1)) 23 (upI (upI (F 23) sd 0) sd ((20 * p0) + pz))) 24 (upI (upI (F 24) sd 0) sd (en - pz)))) H := hP
                                    have hD : va_D A (mW mo ma cs I (va_up (va_up (va_up (va_up (va_up (va_up (va_up (va_up F 20 (upI (F 20) sd pa)) 22 (upI (F 22) sd (-1))) 23 (upI (F 23) sd 0)) 24 (upI (F 24) sd 0)) 21 (upI (F 21) sd (vp_nar .boolean (iz 1)).toInt)) 22 (upI (upI (F 22) sd (-1)) sd 1)) 23 (upI (upI (F 23) sd 0) sd ((20 * p0) + pz))) 24 (upI (upI (F 24) sd 0) sd (en - pz)))) := hD
                                    refine lv_aload_n hx hb dX6_step_291 rfl (lv_at hl 4 rfl) ?_
                                    refine va_get (D := (dC, dI)) (ci := 6) (v := .ref (ma 20)) (C := RX6) (T := TX6) (N := 44) hx hb hts kt_X6 hown hK hP 0 rfl rfl 20 (by decide) (kx_word hG kq_05_morder_0 rfl) (fun _ h9 => h9) rfl dX6_step_292 ?_
                                    refine lv_iload_n hx hb dX6_step_295 rfl (lv_at hl 5 rfl) ?_
                                    refine lv_iload hx hb dX6_step_296 (lv_at hl 0 rfl) ?_
                                    refine ki_iast (F := upI (F 20) sd pa) hx hb hK hP hD hS 15 14 rfl rfl (by omega) (by omega) (by decide) dX6_step_298 (fun H locs hP hD hS => ?_)
                                    have hP : va_P (dC, dI) kxCl (mW mo ma cs I (va_up (va_up (va_up (va_up (va_up (va_up (va_up (va_up (va_up F 20 (upI (F 20) sd pa)) 22 (upI (F 22) sd (-1))) 23 (upI (F 23) sd 0)) 24 (upI (F 24) sd 0)) 21 (upI (F 21) sd (vp_nar .boolean (iz 1)).toInt)) 22 (upI (upI (F 22) sd (-1)) sd 1)) 23 (upI (upI (F 23) sd 0) sd ((20 * p0) + pz))) 24 (upI (upI (F 24) sd 0) sd (en - pz))) 20 (upI (upI (F 20) sd pa) sd en))) H := hP
                                    have hD : va_D A (mW mo ma cs I (va_up (va_up (va_up (va_up (va_up (va_up (va_up (va_up (va_up F 20 (upI (F 20) sd pa)) 22 (upI (F 22) sd (-1))) 23 (upI (F 23) sd 0)) 24 (upI (F 24) sd 0)) 21 (upI (F 21) sd (vp_nar .boolean (iz 1)).toInt)) 22 (upI (upI (F 22) sd (-1)) sd 1)) 23 (upI (upI (F 23) sd 0) sd ((20 * p0) + pz))) 24 (upI (upI (F 24) sd 0) sd (en - pz))) 20 (upI (upI (F 20) sd pa) sd en))) := hD
                                    have e_516 : (va_up (va_up (va_up (va_up (va_up (va_up (va_up (va_up (va_up F 20 (upI (F 20) sd pa)) 22 (upI (F 22) sd (-1))) 23 (upI (F 23) sd 0)) 24 (upI (F 24) sd 0)) 21 (upI (F 21) sd (vp_nar .boolean (iz 1)).toInt)) 22 (upI (upI (F 22) sd (-1)) sd 1)) 23 (upI (upI (F 23) sd 0) sd ((20 * p0) + pz))) 24 (upI (upI (F 24) sd 0) sd (en - pz))) 20 (upI (upI (F 20) sd pa) sd en)) 20 sd = en := upI_self _ _ _
                                    have e_517 : (va_up (va_up (va_up (va_up (va_up (va_up (va_up (va_up (va_up F 20 (upI (F 20) sd pa)) 22 (upI (F 22) sd (-1))) 23 (upI (F 23) sd 0)) 24 (upI (F 24) sd 0)) 21 (upI (F 21) sd (vp_nar .boolean (iz 1)).toInt)) 22 (upI (upI (F 22) sd (-1)) sd 1)) 23 (upI (upI (F 23) sd 0) sd ((20 * p0) + pz))) 24 (upI (upI (F 24) sd 0) sd (en - pz))) 20 (upI (upI (F 20) sd pa) sd en)) 22 sd = 1 := upI_self _ _ _
                                    have e_518 : (va_up (va_up (va_up (va_up (va_up (va_up (va_up (va_up (va_up F 20 (upI (F 20) sd pa)) 22 (upI (F 22) sd (-1))) 23 (upI (F 23) sd 0)) 24 (upI (F 24) sd 0)) 21 (upI (F 21) sd (vp_nar .boolean (iz 1)).toInt)) 22 (upI (upI (F 22) sd (-1)) sd 1)) 23 (upI (upI (F 23) sd 0) sd ((20 * p0) + pz))) 24 (upI (upI (F 24) sd 0) sd (en - pz))) 20 (upI (upI (F 20) sd pa) sd en)) 23 sd = (20 * p0) + pz := upI_self _ _ _
                                    have e_519 : (va_up (va_up (va_up (va_up (va_up (va_up (va_up (va_up (va_up F 20 (upI (F 20) sd pa)) 22 (upI (F 22) sd (-1))) 23 (upI (F 23) sd 0)) 24 (upI (F 24) sd 0)) 21 (upI (F 21) sd (vp_nar .boolean (iz 1)).toInt)) 22 (upI (upI (F 22) sd (-1)) sd 1)) 23 (upI (upI (F 23) sd 0) sd ((20 * p0) + pz))) 24 (upI (upI (F 24) sd 0) sd (en - pz))) 20 (upI (upI (F 20) sd pa) sd en)) 24 sd = en - pz := upI_self _ _ _
                                    have e_520 : (va_up (va_up (va_up (va_up (va_up (va_up (va_up (va_up (va_up F 20 (upI (F 20) sd pa)) 22 (upI (F 22) sd (-1))) 23 (upI (F 23) sd 0)) 24 (upI (F 24) sd 0)) 21 (upI (F 21) sd (vp_nar .boolean (iz 1)).toInt)) 22 (upI (upI (F 22) sd (-1)) sd 1)) 23 (upI (upI (F 23) sd 0) sd ((20 * p0) + pz))) 24 (upI (upI (F 24) sd 0) sd (en - pz))) 20 (upI (upI (F 20) sd pa) sd en)) 21 sd = (vp_nar .boolean (iz 1)).toInt := upI_self _ _ _
                                    rw [← hQe]
                                    exact mk_ret hx hb hr hlocks hP hD hK hS dX6_step_299 (⟨rfl, (mB_f (mB_f (mB_f (mB_f (mB_f (mB_f (mB_f (mB_f (mB_f hB 20 sd (by omega) (by omega)) 22 sd (by omega) (by omega)) 23 sd (by omega) (by omega)) 24 sd (by omega) (by omega)) 21 sd (iz_lo _) (iz_hi _)) 22 sd (by omega) (by omega)) 23 sd (by omega) (by omega)) 24 sd (by omega) (by omega)) 20 sd (by omega) (by omega)), (mfr.upF (mfr.upF (mfr.upF (mfr.upF (mfr.upF (mfr.upF (mfr.upF (mfr.upF (mfr.upF mfr.rf (by decide) _) (by decide) _) (by decide) _) (by decide) _) (by decide) _) (by decide) _) (by decide) _) (by decide) _) (by decide) _), (mo1.up (mo1.up (mo1.up (mo1.up (mo1.up (mo1.up (mo1.up (mo1.up (mo1.up mo1.rf 20 _) 22 _) 23 _) 24 _) 21 _) 22 _) 23 _) 24 _) 20 _), by omega, by omega, by omega⟩)
                                  · skip
                                    refine lv_aload_n hx hb dX6_step_240 rfl (lv_at hl 4 rfl) ?_
                                    refine va_get (D := (dC, dI)) (ci := 6) (v := .ref (ma 4)) (C := RX6) (T := TX6) (N := 44) hx hb hts kt_X6 hown hK hP 0 rfl rfl 4 (by decide) (kx_word hG kq_04_msmall_16 rfl) (fun _ h9 => h9) rfl dX6_step_241 ?_
                                    refine lv_bipush (v := iz 20) hx hb dX6_step_244 (by decide) ?_
                                    refine lv_iload_n hx hb dX6_step_246 rfl (lv_at hl 6 rfl) ?_
                                    refine ki_imul hx hb dX6_step_247 ?_
                                    refine lv_iload_n hx hb dX6_step_248 rfl (lv_at hl 3 rfl) ?_
                                    refine ki_iadd hx hb dX6_step_249 ?_
                                    refine ki_iald (F := F 4) hx hb hK hP 3 2 rfl rfl (by omega) (by omega) (by decide) dX6_step_250 ?_
                                    have hbd_521 := hB.2 4 ((20 * p0) + pz)
                                    refine lv_bipush (v := iz 48) hx hb dX6_step_251 (by decide) ?_
                                    refine ki_icmp_ne (tgt := 262) hx hb dX6_step_253 (by decide) (by omega) (by omega) (by omega) (by omega) (fun c_522 => ?_) (fun c_522 => ?_)
                                    · skip
                                      refine lv_aload_n hx hb dX6_step_262 rfl (lv_at hl 4 rfl) ?_
                                      refine va_get (D := (dC, dI)) (ci := 6) (v := .ref (ma 22)) (C := RX6) (T := TX6) (N := 44) hx hb hts kt_X6 hown hK hP 0 rfl rfl 22 (by decide) (kx_word hG kq_05_morder_2 rfl) (fun _ h9 => h9) rfl dX6_step_263 ?_
                                      refine lv_iload_n hx hb dX6_step_266 rfl (lv_at hl 5 rfl) ?_
                                      refine lv_iconst (v := iz 1) hx hb dX6_step_267 (by decide) ?_
                                      refine ki_iast (F := upI (F 22) sd (-1)) hx hb hK hP hD hS 17 16 rfl rfl (by omega) (by omega) (by decide) dX6_step_268 (fun H locs hP hD hS => ?_)
                                      have hP : va_P (dC, dI) kxCl (mW mo ma cs I (va_up (va_up (va_up (va_up (va_up (va_up F 20 (upI (F 20) sd pa)) 22 (upI (F 22) sd (-1))) 23 (upI (F 23) sd 0)) 24 (upI (F 24) sd 0)) 21 (upI (F 21) sd (vp_nar .boolean (iz 1)).toInt)) 22 (upI (upI (F 22) sd (-1)) sd 1))) H := hP
                                      have hD : va_D A (mW mo ma cs I (va_up (va_up (va_up (va_up (va_up (va_up F 20 (upI (F 20) sd pa)) 22 (upI (F 22) sd (-1))) 23 (upI (F 23) sd 0)) 24 (upI (F 24) sd 0)) 21 (upI (F 21) sd (vp_nar .boolean (iz 1)).toInt)) 22 (upI (upI (F 22) sd (-1)) sd 1))) := hD
                                      refine lv_aload_n hx hb dX6_step_269 rfl (lv_at hl 4 rfl) ?_
                                      refine va_get (D := (dC, dI)) (ci := 6) (v := .ref (ma 23)) (C := RX6) (T := TX6) (N := 44) hx hb hts kt_X6 hown hK hP 0 rfl rfl 23 (by decide) (kx_word hG kq_05_morder_3 rfl) (fun _ h9 => h9) rfl dX6_step_270 ?_
                                      refine lv_iload_n hx hb dX6_step_273 rfl (lv_at hl 5 rfl) ?_
                                      refine lv_bipush (v := iz 20) hx hb dX6_step_274 (by decide) ?_
                                      refine lv_iload_n hx hb dX6_step_276 rfl (lv_at hl 6 rfl) ?_
                                      refine ki_imul hx hb dX6_step_277 ?_
                                      refine lv_iload_n hx hb dX6_step_278 rfl (lv_at hl 3 rfl) ?_
                                      refine ki_iadd hx hb dX6_step_279 ?_
                                      refine ki_iast (F := upI (F 23) sd 0) hx hb hK hP hD hS 18 17 rfl rfl (by omega) (by omega) (by decide) dX6_step_280 (fun H locs hP hD hS => ?_)
                                      have hP : va_P (dC, dI) kxCl (mW mo ma cs I (va_up (va_up (va_up (va_up (va_up (va_up (va_up F 20 (upI (F 20) sd pa)) 22 (upI (F 22) sd (-1))) 23 (upI (F 23) sd 0)) 24 (upI (F 24) sd 0)) 21 (upI (F 21) sd (vp_nar .boolean (iz 1)).toInt)) 22 (upI (upI (F 22) sd (-1)) sd 1)) 23 (upI (upI (F 23) sd 0) sd ((20 * p0) + pz)))) H := hP
                                      have hD : va_D A (mW mo ma cs I (va_up (va_up (va_up (va_up (va_up (va_up (va_up F 20 (upI (F 20) sd pa)) 22 (upI (F 22) sd (-1))) 23 (upI (F 23) sd 0)) 24 (upI (F 24) sd 0)) 21 (upI (F 21) sd (vp_nar .boolean (iz 1)).toInt)) 22 (upI (upI (F 22) sd (-1)) sd 1)) 23 (upI (upI (F 23) sd 0) sd ((20 * p0) + pz)))) := hD
                                      refine lv_aload_n hx hb dX6_step_281 rfl (lv_at hl 4 rfl) ?_
                                      refine va_get (D := (dC, dI)) (ci := 6) (v := .ref (ma 24)) (C := RX6) (T := TX6) (N := 44) hx hb hts kt_X6 hown hK hP 0 rfl rfl 24 (by decide) (kx_word hG kq_05_morder_4 rfl) (fun _ h9 => h9) rfl dX6_step_282 ?_
                                      refine lv_iload_n hx hb dX6_step_285 rfl (lv_at hl 5 rfl) ?_
                                      refine lv_iload hx hb dX6_step_286 (lv_at hl 0 rfl) ?_
                                      refine lv_iload_n hx hb dX6_step_288 rfl (lv_at hl 3 rfl) ?_
                                      refine ki_isub hx hb dX6_step_289 ?_
                                      refine ki_iast (F := upI (F 24) sd 0) hx hb hK hP hD hS 19 18 rfl rfl (by omega) (by omega) (by decide) dX6_step_290 (fun H locs hP hD hS => ?_)
                                      have hP : va_P (dC, dI) kxCl (mW mo ma cs I (va_up (va_up (va_up (va_up (va_up (va_up (va_up (va_up F 20 (upI (F 20) sd pa)) 22 (upI (F 22) sd (-1))) 23 (upI (F 23) sd 0)) 24 (upI (F 24) sd 0)) 21 (upI (F 21) sd (vp_nar .boolean (iz 1)).toInt)) 22 (upI (upI (F 22) sd (-1)) sd 1)) 23 (upI (upI (F 23) sd 0) sd ((20 * p0) + pz))) 24 (upI (upI (F 24) sd 0) sd (en - pz)))) H := hP
                                      have hD : va_D A (mW mo ma cs I (va_up (va_up (va_up (va_up (va_up (va_up (va_up (va_up F 20 (upI (F 20) sd pa)) 22 (upI (F 22) sd (-1))) 23 (upI (F 23) sd 0)) 24 (upI (F 24) sd 0)) 21 (upI (F 21) sd (vp_nar .boolean (iz 1)).toInt)) 22 (upI (upI (F 22) sd (-1)) sd 1)) 23 (upI (upI (F 23) sd 0) sd ((20 * p0) + pz))) 24 (upI (upI (F 24) sd 0) sd (en - pz)))) := hD
                                      refine lv_aload_n hx hb dX6_step_291 rfl (lv_at hl 4 rfl) ?_
                                      refine va_get (D := (dC, dI)) (ci := 6) (v := .ref (ma 20)) (C := RX6) (T := TX6) (N := 44) hx hb hts kt_X6 hown hK hP 0 rfl rfl 20 (by decide) (kx_word hG kq_05_morder_0 rfl) (fun _ h9 => h9) rfl dX6_step_292 ?_
                                      refine lv_iload_n hx hb dX6_step_295 rfl (lv_at hl 5 rfl) ?_
                                      refine lv_iload hx hb dX6_step_296 (lv_at hl 0 rfl) ?_
                                      refine ki_iast (F := upI (F 20) sd pa) hx hb hK hP hD hS 15 14 rfl rfl (by omega) (by omega) (by decide) dX6_step_298 (fun H locs hP hD hS => ?_)
                                      have hP : va_P (dC, dI) kxCl (mW mo ma cs I (va_up (va_up (va_up (va_up (va_up (va_up (va_up (va_up (va_up F 20 (upI (F 20) sd pa)) 22 (upI (F 22) sd (-1))) 23 (upI (F 23) sd 0)) 24 (upI (F 24) sd 0)) 21 (upI (F 21) sd (vp_nar .boolean (iz 1)).toInt)) 22 (upI (upI (F 22) sd (-1)) sd 1)) 23 (upI (upI (F 23) sd 0) sd ((20 * p0) + pz))) 24 (upI (upI (F 24) sd 0) sd (en - pz))) 20 (upI (upI (F 20) sd pa) sd en))) H := hP
                                      have hD : va_D A (mW mo ma cs I (va_up (va_up (va_up (va_up (va_up (va_up (va_up (va_up (va_up F 20 (upI (F 20) sd pa)) 22 (upI (F 22) sd (-1))) 23 (upI (F 23) sd 0)) 24 (upI (F 24) sd 0)) 21 (upI (F 21) sd (vp_nar .boolean (iz 1)).toInt)) 22 (upI (upI (F 22) sd (-1)) sd 1)) 23 (upI (upI (F 23) sd 0) sd ((20 * p0) + pz))) 24 (upI (upI (F 24) sd 0) sd (en - pz))) 20 (upI (upI (F 20) sd pa) sd en))) := hD
                                      have e_523 : (va_up (va_up (va_up (va_up (va_up (va_up (va_up (va_up (va_up F 20 (upI (F 20) sd pa)) 22 (upI (F 22) sd (-1))) 23 (upI (F 23) sd 0)) 24 (upI (F 24) sd 0)) 21 (upI (F 21) sd (vp_nar .boolean (iz 1)).toInt)) 22 (upI (upI (F 22) sd (-1)) sd 1)) 23 (upI (upI (F 23) sd 0) sd ((20 * p0) + pz))) 24 (upI (upI (F 24) sd 0) sd (en - pz))) 20 (upI (upI (F 20) sd pa) sd en)) 20 sd = en := upI_self _ _ _
                                      have e_524 : (va_up (va_up (va_up (va_up (va_up (va_up (va_up (va_up (va_up F 20 (upI (F 20) sd pa)) 22 (upI (F 22) sd (-1))) 23 (upI (F 23) sd 0)) 24 (upI (F 24) sd 0)) 21 (upI (F 21) sd (vp_nar .boolean (iz 1)).toInt)) 22 (upI (upI (F 22) sd (-1)) sd 1)) 23 (upI (upI (F 23) sd 0) sd ((20 * p0) + pz))) 24 (upI (upI (F 24) sd 0) sd (en - pz))) 20 (upI (upI (F 20) sd pa) sd en)) 22 sd = 1 := upI_self _ _ _
                                      have e_525 : (va_up (va_up (va_up (va_up (va_up (va_up (va_up (va_up (va_up F 20 (upI (F 20) sd pa)) 22 (upI (F 22) sd (-1))) 23 (upI (F 23) sd 0)) 24 (upI (F 24) sd 0)) 21 (upI (F 21) sd (vp_nar .boolean (iz 1)).toInt)) 22 (upI (upI (F 22) sd (-1)) sd 1)) 23 (upI (upI (F 23) sd 0) sd ((20 * p0) + pz))) 24 (upI (upI (F 24) sd 0) sd (en - pz))) 20 (upI (upI (F 20) sd pa) sd en)) 23 sd = (20 * p0) + pz := upI_self _ _ _
                                      have e_526 : (va_up (va_up (va_up (va_up (va_up (va_up (va_up (va_up (va_up F 20 (upI (F 20) sd pa)) 22 (upI (F 22) sd (-1))) 23 (upI (F 23) sd 0)) 24 (upI (F 24) sd 0)) 21 (upI (F 21) sd (vp_nar .boolean (iz 1)).toInt)) 22 (upI (upI (F 22) sd (-1)) sd 1)) 23 (upI (upI (F 23) sd 0) sd ((20 * p0) + pz))) 24 (upI (upI (F 24) sd 0) sd (en - pz))) 20 (upI (upI (F 20) sd pa) sd en)) 24 sd = en - pz := upI_self _ _ _
                                      have e_527 : (va_up (va_up (va_up (va_up (va_up (va_up (va_up (va_up (va_up F 20 (upI (F 20) sd pa)) 22 (upI (F 22) sd (-1))) 23 (upI (F 23) sd 0)) 24 (upI (F 24) sd 0)) 21 (upI (F 21) sd (vp_nar .boolean (iz 1)).toInt)) 22 (upI (upI (F 22) sd (-1)) sd 1)) 23 (upI (upI (F 23) sd 0) sd ((20 * p0) + pz))) 24 (upI (upI (F 24) sd 0) sd (en - pz))) 20 (upI (upI (F 20) sd pa) sd en)) 21 sd = (vp_nar .boolean (iz 1)).toInt := upI_self _ _ _
                                      rw [← hQe]
                                      exact mk_ret hx hb hr hlocks hP hD hK hS dX6_step_299 (⟨rfl, (mB_f (mB_f (mB_f (mB_f (mB_f (mB_f (mB_f (mB_f (mB_f hB 20 sd (by omega) (by omega)) 22 sd (by omega) (by omega)) 23 sd (by omega) (by omega)) 24 sd (by omega) (by omega)) 21 sd (iz_lo _) (iz_hi _)) 22 sd (by omega) (by omega)) 23 sd (by omega) (by omega)) 24 sd (by omega) (by omega)) 20 sd (by omega) (by omega)), (mfr.upF (mfr.upF (mfr.upF (mfr.upF (mfr.upF (mfr.upF (mfr.upF (mfr.upF (mfr.upF mfr.rf (by decide) _) (by decide) _) (by decide) _) (by decide) _) (by decide) _) (by decide) _) (by decide) _) (by decide) _) (by decide) _), (mo1.up (mo1.up (mo1.up (mo1.up (mo1.up (mo1.up (mo1.up (mo1.up (mo1.up mo1.rf 20 _) 22 _) 23 _) 24 _) 21 _) 22 _) 23 _) 24 _) 20 _), by omega, by omega, by omega⟩)
                                    · skip
                                      refine lv_iinc (v := iz (pz + 1)) (lv' := [(3, .int (iz (pz + 1))), (6, .int (iz en)), (5, .int (iz (F 4 ((20 * p0) + pa)))), (4, .int (iz ps)), (0, .ref mo), (1, .int (iz sd)), (2, .int (iz p0))]) hx hb dX6_step_256 hl (k := 3) rfl (iz_add pz 1) (by decide) rfl (fun ls hl => ?_)
                                      refine lv_goto (tgt := 234) hx hb dX6_step_259 (by decide) ?_
                                      exact ih234 (pz + 1) (by omega) (by omega) _ _ hP hD hS ls (lv_sub hl [1, 2, 3, 0, 4, 5, 6] rfl)
                              exact lp234 _ pa (by omega) (Nat.lt_succ_self _) _ _ hP hD hS ls (lv_sub hl [0, 1, 2, 3, 4, 5, 6] rfl)
                            · skip
                              refine lv_aload_n hx hb dX6_step_210 rfl (lv_at hl 4 rfl) ?_
                              refine va_get (D := (dC, dI)) (ci := 6) (v := .ref (ma 4)) (C := RX6) (T := TX6) (N := 44) hx hb hts kt_X6 hown hK hP 0 rfl rfl 4 (by decide) (kx_word hG kq_04_msmall_16 rfl) (fun _ h9 => h9) rfl dX6_step_211 ?_
                              refine lv_bipush (v := iz 20) hx hb dX6_step_214 (by decide) ?_
                              refine lv_iload_n hx hb dX6_step_216 rfl (lv_at hl 6 rfl) ?_
                              refine ki_imul hx hb dX6_step_217 ?_
                              refine lv_iload hx hb dX6_step_218 (lv_at hl 0 rfl) ?_
                              refine ki_iadd hx hb dX6_step_220 ?_
                              refine ki_iald (F := F 4) hx hb hK hP 3 2 rfl rfl (by omega) (by omega) (by decide) dX6_step_221 ?_
                              have hbd_528 := hB.2 4 ((20 * p0) + en)
                              refine mk_calls (As := [.int (iz (F 4 ((20 * p0) + en)))]) (rest := []) ⟨hx, hb, hml, hown, hts⟩ (k_isNumber l dC dI (F 4 ((20 * p0) + en)) H.size (by omega) (by omega)) (va_cwS 1 hts (kx_gS kq_05_morder_8 kq_05_morder_9 kq_04_msmall_6 kq_05_morder_10 rfl) rfl rfl rfl (by decide +kernel) ⟨Nat.le_of_ble_eq_true rfl, Nat.le_of_ble_eq_true rfl⟩) hP hD hK hG hZ hS hA rfl hl.1 rfl (Nat.le_of_ble_eq_true rfl) dX6_step_222 ⟨Nat.le_of_ble_eq_true rfl, Nat.le_of_ble_eq_true rfl⟩ (fun z_529 H locs hq_530 hP hS => ?_)
                              try dsimp only at hq_530
                              refine ki_if_eq (tgt := 234) hx hb dX6_step_225 (by decide) (by omega) (by omega) (fun c_531 => ?_) (fun c_531 => ?_)
                              · skip
                                have lp234 : ∀ (n : Nat) (pz : Int), ((pa ≤ pz ∧ pz ≤ en)) → (en - pz).toNat < n → ∀ (H : Heap) (locs : List Loc), va_P (dC, dI) kxCl (mW mo ma cs I (va_up (va_up (va_up (va_up (va_up F 20 (upI (F 20) sd pa)) 22 (upI (F 22) sd (-1))) 23 (upI (F 23) sd 0)) 24 (upI (F 24) sd 0)) 21 (upI (F 21) sd (vp_nar .boolean (iz 1)).toInt))) H → va_D A (mW mo ma cs I (va_up (va_up (va_up (va_up (va_up F 20 (upI (F 20) sd pa)) 22 (upI (F 22) sd (-1))) 23 (upI (F 23) sd 0)) 24 (upI (F 24) sd 0)) 21 (upI (F 21) sd (vp_nar .boolean (iz 1)).toInt))) → va_S A s.heap H locs → ∀ ls : Array Slot, lv_has ls 7 [(6, .int (iz en)), (5, .int (iz (F 4 ((20 * p0) + pa)))), (4, .int (iz ps)), (3, .int (iz pz)), (0, .ref mo), (1, .int (iz sd)), (2, .int (iz p0))] → W p l e (headSpec [.code yX6_step cX6_step 7 none] ({ frames := 1, cells := 0, slots := 0, locals := 21 })).room s m ([.ref mo, .int (iz sd), .int (iz p0)] : List Value).toArray below meth c H locs 0 0 QQ (F0 m 234 ls []) := by
                                  intro n
                                  induction n with
                                  | zero => intro pz hinv hm; exact absurd hm (Nat.not_lt_zero _)
                                  | succ n ih234 =>
                                    intro pz hinv hm H locs hP hD hS ls hl
                                    have hpz := hinv
                                    refine lv_iload_n hx hb dX6_step_234 rfl (lv_at hl 3 rfl) ?_
                                    refine lv_iload hx hb dX6_step_235 (lv_at hl 0 rfl) ?_
                                    refine ki_icmp_ge (tgt := 262) hx hb dX6_step_237 (by decide) (by omega) (by omega) (by omega) (by omega) (fun c_532 => ?_) (fun c_532 => ?_)
                                    · skip
                                      refine lv_aload_n hx hb dX6_step_262 rfl (lv_at hl 4 rfl) ?_
                                      refine va_get (D := (dC, dI)) (ci := 6) (v := .ref (ma 22)) (C := RX6) (T := TX6) (N := 44) hx hb hts kt_X6 hown hK hP 0 rfl rfl 22 (by decide) (kx_word hG kq_05_morder_2 rfl) (fun _ h9 => h9) rfl dX6_step_263 ?_
                                      refine lv_iload_n hx hb dX6_step_266 rfl (lv_at hl 5 rfl) ?_
                                      refine lv_iconst (v := iz 1) hx hb dX6_step_267 (by decide) ?_
                                      refine ki_iast (F := upI (F 22) sd (-1)) hx hb hK hP hD hS 17 16 rfl rfl (by omega) (by omega) (by decide) dX6_step_268 (fun H locs hP hD hS => ?_)
                                      have hP : va_P (dC, dI) kxCl (mW mo ma cs I (va_up (va_up (va_up (va_up (va_up (va_up F 20 (upI (F 20) sd pa)) 22 (upI (F 22) sd (-1))) 23 (upI (F 23) sd 0)) 24 (upI (F 24) sd 0)) 21 (upI (F 21) sd (vp_nar .boolean (iz 1)).toInt)) 22 (upI (upI (F 22) sd (-1)) sd 1))) H := hP
                                      have hD : va_D A (mW mo ma cs I (va_up (va_up (va_up (va_up (va_up (va_up F 20 (upI (F 20) sd pa)) 22 (upI (F 22) sd (-1))) 23 (upI (F 23) sd 0)) 24 (upI (F 24) sd 0)) 21 (upI (F 21) sd (vp_nar .boolean (iz 1)).toInt)) 22 (upI (upI (F 22) sd (-1)) sd 1))) := hD
                                      refine lv_aload_n hx hb dX6_step_269 rfl (lv_at hl 4 rfl) ?_
                                      refine va_get (D := (dC, dI)) (ci := 6) (v := .ref (ma 23)) (C := RX6) (T := TX6) (N := 44) hx hb hts kt_X6 hown hK hP 0 rfl rfl 23 (by decide) (kx_word hG kq_05_morder_3 rfl) (fun _ h9 => h9) rfl dX6_step_270 ?_
                                      refine lv_iload_n hx hb dX6_step_273 rfl (lv_at hl 5 rfl) ?_
                                      refine lv_bipush (v := iz 20) hx hb dX6_step_274 (by decide) ?_
                                      refine lv_iload_n hx hb dX6_step_276 rfl (lv_at hl 6 rfl) ?_
                                      refine ki_imul hx hb dX6_step_277 ?_
                                      refine lv_iload_n hx hb dX6_step_278 rfl (lv_at hl 3 rfl) ?_
                                      refine ki_iadd hx hb dX6_step_279 ?_
                                      refine ki_iast (F := upI (F 23) sd 0) hx hb hK hP hD hS 18 17 rfl rfl (by omega) (by omega) (by decide) dX6_step_280 (fun H locs hP hD hS => ?_)
                                      have hP : va_P (dC, dI) kxCl (mW mo ma cs I (va_up (va_up (va_up (va_up (va_up (va_up (va_up F 20 (upI (F 20) sd pa)) 22 (upI (F 22) sd (-1))) 23 (upI (F 23) sd 0)) 24 (upI (F 24) sd 0)) 21 (upI (F 21) sd (vp_nar .boolean (iz 1)).toInt)) 22 (upI (upI (F 22) sd (-1)) sd 1)) 23 (upI (upI (F 23) sd 0) sd ((20 * p0) + pz)))) H := hP
                                      have hD : va_D A (mW mo ma cs I (va_up (va_up (va_up (va_up (va_up (va_up (va_up F 20 (upI (F 20) sd pa)) 22 (upI (F 22) sd (-1))) 23 (upI (F 23) sd 0)) 24 (upI (F 24) sd 0)) 21 (upI (F 21) sd (vp_nar .boolean (iz 1)).toInt)) 22 (upI (upI (F 22) sd (-1)) sd 1)) 23 (upI (upI (F 23) sd 0) sd ((20 * p0) + pz)))) := hD
                                      refine lv_aload_n hx hb dX6_step_281 rfl (lv_at hl 4 rfl) ?_
                                      refine va_get (D := (dC, dI)) (ci := 6) (v := .ref (ma 24)) (C := RX6) (T := TX6) (N := 44) hx hb hts kt_X6 hown hK hP 0 rfl rfl 24 (by decide) (kx_word hG kq_05_morder_4 rfl) (fun _ h9 => h9) rfl dX6_step_282 ?_
                                      refine lv_iload_n hx hb dX6_step_285 rfl (lv_at hl 5 rfl) ?_
                                      refine lv_iload hx hb dX6_step_286 (lv_at hl 0 rfl) ?_
                                      refine lv_iload_n hx hb dX6_step_288 rfl (lv_at hl 3 rfl) ?_
                                      refine ki_isub hx hb dX6_step_289 ?_
                                      refine ki_iast (F := upI (F 24) sd 0) hx hb hK hP hD hS 19 18 rfl rfl (by omega) (by omega) (by decide) dX6_step_290 (fun H locs hP hD hS => ?_)
                                      have hP : va_P (dC, dI) kxCl (mW mo ma cs I (va_up (va_up (va_up (va_up (va_up (va_up (va_up (va_up F 20 (upI (F 20) sd pa)) 22 (upI (F 22) sd (-1))) 23 (upI (F 23) sd 0)) 24 (upI (F 24) sd 0)) 21 (upI (F 21) sd (vp_nar .boolean (iz 1)).toInt)) 22 (upI (upI (F 22) sd (-1)) sd 1)) 23 (upI (upI (F 23) sd 0) sd ((20 * p0) + pz))) 24 (upI (upI (F 24) sd 0) sd (en - pz)))) H := hP
                                      have hD : va_D A (mW mo ma cs I (va_up (va_up (va_up (va_up (va_up (va_up (va_up (va_up F 20 (upI (F 20) sd pa)) 22 (upI (F 22) sd (-1))) 23 (upI (F 23) sd 0)) 24 (upI (F 24) sd 0)) 21 (upI (F 21) sd (vp_nar .boolean (iz 1)).toInt)) 22 (upI (upI (F 22) sd (-1)) sd 1)) 23 (upI (upI (F 23) sd 0) sd ((20 * p0) + pz))) 24 (upI (upI (F 24) sd 0) sd (en - pz)))) := hD
                                      refine lv_aload_n hx hb dX6_step_291 rfl (lv_at hl 4 rfl) ?_
                                      refine va_get (D := (dC, dI)) (ci := 6) (v := .ref (ma 20)) (C := RX6) (T := TX6) (N := 44) hx hb hts kt_X6 hown hK hP 0 rfl rfl 20 (by decide) (kx_word hG kq_05_morder_0 rfl) (fun _ h9 => h9) rfl dX6_step_292 ?_
                                      refine lv_iload_n hx hb dX6_step_295 rfl (lv_at hl 5 rfl) ?_
                                      refine lv_iload hx hb dX6_step_296 (lv_at hl 0 rfl) ?_
                                      refine ki_iast (F := upI (F 20) sd pa) hx hb hK hP hD hS 15 14 rfl rfl (by omega) (by omega) (by decide) dX6_step_298 (fun H locs hP hD hS => ?_)
                                      have hP : va_P (dC, dI) kxCl (mW mo ma cs I (va_up (va_up (va_up (va_up (va_up (va_up (va_up (va_up (va_up F 20 (upI (F 20) sd pa)) 22 (upI (F 22) sd (-1))) 23 (upI (F 23) sd 0)) 24 (upI (F 24) sd 0)) 21 (upI (F 21) sd (vp_nar .boolean (iz 1)).toInt)) 22 (upI (upI (F 22) sd (-1)) sd 1)) 23 (upI (upI (F 23) sd 0) sd ((20 * p0) + pz))) 24 (upI (upI (F 24) sd 0) sd (en - pz))) 20 (upI (upI (F 20) sd pa) sd en))) H := hP
                                      have hD : va_D A (mW mo ma cs I (va_up (va_up (va_up (va_up (va_up (va_up (va_up (va_up (va_up F 20 (upI (F 20) sd pa)) 22 (upI (F 22) sd (-1))) 23 (upI (F 23) sd 0)) 24 (upI (F 24) sd 0)) 21 (upI (F 21) sd (vp_nar .boolean (iz 1)).toInt)) 22 (upI (upI (F 22) sd (-1)) sd 1)) 23 (upI (upI (F 23) sd 0) sd ((20 * p0) + pz))) 24 (upI (upI (F 24) sd 0) sd (en - pz))) 20 (upI (upI (F 20) sd pa) sd en))) := hD
                                      have e_533 : (va_up (va_up (va_up (va_up (va_up (va_up (va_up (va_up (va_up F 20 (upI (F 20) sd pa)) 22 (upI (F 22) sd (-1))) 23 (upI (F 23) sd 0)) 24 (upI (F 24) sd 0)) 21 (upI (F 21) sd (vp_nar .boolean (iz 1)).toInt)) 22 (upI (upI (F 22) sd (-1)) sd 1)) 23 (upI (upI (F 23) sd 0) sd ((20 * p0) + pz))) 24 (upI (upI (F 24) sd 0) sd (en - pz))) 20 (upI (upI (F 20) sd pa) sd en)) 20 sd = en := upI_self _ _ _
                                      have e_534 : (va_up (va_up (va_up (va_up (va_up (va_up (va_up (va_up (va_up F 20 (upI (F 20) sd pa)) 22 (upI (F 22) sd (-1))) 23 (upI (F 23) sd 0)) 24 (upI (F 24) sd 0)) 21 (upI (F 21) sd (vp_nar .boolean (iz 1)).toInt)) 22 (upI (upI (F 22) sd (-1)) sd 1)) 23 (upI (upI (F 23) sd 0) sd ((20 * p0) + pz))) 24 (upI (upI (F 24) sd 0) sd (en - pz))) 20 (upI (upI (F 20) sd pa) sd en)) 22 sd = 1 := upI_self _ _ _
                                      have e_535 : (va_up (va_up (va_up (va_up (va_up (va_up (va_up (va_up (va_up F 20 (upI (F 20) sd pa)) 22 (upI (F 22) sd (-1))) 23 (upI (F 23) sd 0)) 24 (upI (F 24) sd 0)) 21 (upI (F 21) sd (vp_nar .boolean (iz 1)).toInt)) 22 (upI (upI (F 22) sd (-1)) sd 1)) 23 (upI (upI (F 23) sd 0) sd ((20 * p0) + pz))) 24 (upI (upI (F 24) sd 0) sd (en - pz))) 20 (upI (upI (F 20) sd pa) sd en)) 23 sd = (20 * p0) + pz := upI_self _ _ _
                                      have e_536 : (va_up (va_up (va_up (va_up (va_up (va_up (va_up (va_up (va_up F 20 (upI (F 20) sd pa)) 22 (upI (F 22) sd (-1))) 23 (upI (F 23) sd 0)) 24 (upI (F 24) sd 0)) 21 (upI (F 21) sd (vp_nar .boolean (iz 1)).toInt)) 22 (upI (upI (F 22) sd (-1)) sd 1)) 23 (upI (upI (F 23) sd 0) sd ((20 * p0) + pz))) 24 (upI (upI (F 24) sd 0) sd (en - pz))) 20 (upI (upI (F 20) sd pa) sd en)) 24 sd = en - pz := upI_self _ _ _
                                      have e_537 : (va_up (va_up (va_up (va_up (va_up (va_up (va_up (va_up (va_up F 20 (upI (F 20) sd pa)) 22 (upI (F 22) sd (-1))) 23 (upI (F 23) sd 0)) 24 (upI (F 24) sd 0)) 21 (upI (F 21) sd (vp_nar .boolean (iz 1)).toInt)) 22 (upI (upI (F 22) sd (-1)) sd 1)) 23 (upI (upI (F 23) sd 0) sd ((20 * p0) + pz))) 24 (upI (upI (F 24) sd 0) sd (en - pz))) 20 (upI (upI (F 20) sd pa) sd en)) 21 sd = (vp_nar .boolean (iz 1)).toInt := upI_self _ _ _
                                      rw [← hQe]
                                      exact mk_ret hx hb hr hlocks hP hD hK hS dX6_step_299 (⟨rfl, (mB_f (mB_f (mB_f (mB_f (mB_f (mB_f (mB_f (mB_f (mB_f hB 20 sd (by omega) (by omega)) 22 sd (by omega) (by omega)) 23 sd (by omega) (by omega)) 24 sd (by omega) (by omega)) 21 sd (iz_lo _) (iz_hi _)) 22 sd (by omega) (by omega)) 23 sd (by omega) (by omega)) 24 sd (by omega) (by omega)) 20 sd (by omega) (by omega)), (mfr.upF (mfr.upF (mfr.upF (mfr.upF (mfr.upF (mfr.upF (mfr.upF (mfr.upF (mfr.upF mfr.rf (by decide) _) (by decide) _) (by decide) _) (by decide) _) (by decide) _) (by decide) _) (by decide) _) (by decide) _) (by decide) _), (mo1.up (mo1.up (mo1.up (mo1.up (mo1.up (mo1.up (mo1.up (mo1.up (mo1.up mo1.rf 20 _) 22 _) 23 _) 24 _) 21 _) 22 _) 23 _) 24 _) 20 _), by omega, by omega, by omega⟩)
                                    · skip
                                      refine lv_aload_n hx hb dX6_step_240 rfl (lv_at hl 4 rfl) ?_
                                      refine va_get (D := (dC, dI)) (ci := 6) (v := .ref (ma 4)) (C := RX6) (T := TX6) (N := 44) hx hb hts kt_X6 hown hK hP 0 rfl rfl 4 (by decide) (kx_word hG kq_04_msmall_16 rfl) (fun _ h9 => h9) rfl dX6_step_241 ?_
                                      refine lv_bipush (v := iz 20) hx hb dX6_step_244 (by decide) ?_
                                      refine lv_iload_n hx hb dX6_step_246 rfl (lv_at hl 6 rfl) ?_
                                      refine ki_imul hx hb dX6_step_247 ?_
                                      refine lv_iload_n hx hb dX6_step_248 rfl (lv_at hl 3 rfl) ?_
                                      refine ki_iadd hx hb dX6_step_249 ?_
                                      refine ki_iald (F := F 4) hx hb hK hP 3 2 rfl rfl (by omega) (by omega) (by decide) dX6_step_250 ?_
                                      have hbd_538 := hB.2 4 ((20 * p0) + pz)
                                      refine lv_bipush (v := iz 48) hx hb dX6_step_251 (by decide) ?_
                                      refine ki_icmp_ne (tgt := 262) hx hb dX6_step_253 (by decide) (by omega) (by omega) (by omega) (by omega) (fun c_539 => ?_) (fun c_539 => ?_)
                                      · skip
                                        refine lv_aload_n hx hb dX6_step_262 rfl (lv_at hl 4 rfl) ?_
                                        refine va_get (D := (dC, dI)) (ci := 6) (v := .ref (ma 22)) (C := RX6) (T := TX6) (N := 44) hx hb hts kt_X6 hown hK hP 0 rfl rfl 22 (by decide) (kx_word hG kq_05_morder_2 rfl) (fun _ h9 => h9) rfl dX6_step_263 ?_
                                        refine lv_iload_n hx hb dX6_step_266 rfl (lv_at hl 5 rfl) ?_
                                        refine lv_iconst (v := iz 1) hx hb dX6_step_267 (by decide) ?_
                                        refine ki_iast (F := upI (F 22) sd (-1)) hx hb hK hP hD hS 17 16 rfl rfl (by omega) (by omega) (by decide) dX6_step_268 (fun H locs hP hD hS => ?_)
                                        have hP : va_P (dC, dI) kxCl (mW mo ma cs I (va_up (va_up (va_up (va_up (va_up (va_up F 20 (upI (F 20) sd pa)) 22 (upI (F 22) sd (-1))) 23 (upI (F 23) sd 0)) 24 (upI (F 24) sd 0)) 21 (upI (F 21) sd (vp_nar .boolean (iz 1)).toInt)) 22 (upI (upI (F 22) sd (-1)) sd 1))) H := hP
                                        have hD : va_D A (mW mo ma cs I (va_up (va_up (va_up (va_up (va_up (va_up F 20 (upI (F 20) sd pa)) 22 (upI (F 22) sd (-1))) 23 (upI (F 23) sd 0)) 24 (upI (F 24) sd 0)) 21 (upI (F 21) sd (vp_nar .boolean (iz 1)).toInt)) 22 (upI (upI (F 22) sd (-1)) sd 1))) := hD
                                        refine lv_aload_n hx hb dX6_step_269 rfl (lv_at hl 4 rfl) ?_
                                        refine va_get (D := (dC, dI)) (ci := 6) (v := .ref (ma 23)) (C := RX6) (T := TX6) (N := 44) hx hb hts kt_X6 hown hK hP 0 rfl rfl 23 (by decide) (kx_word hG kq_05_morder_3 rfl) (fun _ h9 => h9) rfl dX6_step_270 ?_
                                        refine lv_iload_n hx hb dX6_step_273 rfl (lv_at hl 5 rfl) ?_
                                        refine lv_bipush (v := iz 20) hx hb dX6_step_274 (by decide) ?_
                                        refine lv_iload_n hx hb dX6_step_276 rfl (lv_at hl 6 rfl) ?_
                                        refine ki_imul hx hb dX6_step_277 ?_
                                        refine lv_iload_n hx hb dX6_step_278 rfl (lv_at hl 3 rfl) ?_
                                        refine ki_iadd hx hb dX6_step_279 ?_
                                        refine ki_iast (F := upI (F 23) sd 0) hx hb hK hP hD hS 18 17 rfl rfl (by omega) (by omega) (by decide) dX6_step_280 (fun H locs hP hD hS => ?_)
                                        have hP : va_P (dC, dI) kxCl (mW mo ma cs I (va_up (va_up (va_up (va_up (va_up (va_up (va_up F 20 (upI (F 20) sd pa)) 22 (upI (F 22) sd (-1))) 23 (upI (F 23) sd 0)) 24 (upI (F 24) sd 0)) 21 (upI (F 21) sd (vp_nar .boolean (iz 1)).toInt)) 22 (upI (upI (F 22) sd (-1)) sd 1)) 23 (upI (upI (F 23) sd 0) sd ((20 * p0) + pz)))) H := hP
                                        have hD : va_D A (mW mo ma cs I (va_up (va_up (va_up (va_up (va_up (va_up (va_up F 20 (upI (F 20) sd pa)) 22 (upI (F 22) sd (-1))) 23 (upI (F 23) sd 0)) 24 (upI (F 24) sd 0)) 21 (upI (F 21) sd (vp_nar .boolean (iz 1)).toInt)) 22 (upI (upI (F 22) sd (-1)) sd 1)) 23 (upI (upI (F 23) sd 0) sd ((20 * p0) + pz)))) := hD
                                        refine lv_aload_n hx hb dX6_step_281 rfl (lv_at hl 4 rfl) ?_
                                        refine va_get (D := (dC, dI)) (ci := 6) (v := .ref (ma 24)) (C := RX6) (T := TX6) (N := 44) hx hb hts kt_X6 hown hK hP 0 rfl rfl 24 (by decide) (kx_word hG kq_05_morder_4 rfl) (fun _ h9 => h9) rfl dX6_step_282 ?_
                                        refine lv_iload_n hx hb dX6_step_285 rfl (lv_at hl 5 rfl) ?_
                                        refine lv_iload hx hb dX6_step_286 (lv_at hl 0 rfl) ?_
                                        refine lv_iload_n hx hb dX6_step_288 rfl (lv_at hl 3 rfl) ?_
                                        refine ki_isub hx hb dX6_step_289 ?_
                                        refine ki_iast (F := upI (F 24) sd 0) hx hb hK hP hD hS 19 18 rfl rfl (by omega) (by omega) (by decide) dX6_step_290 (fun H locs hP hD hS => ?_)
                                        have hP : va_P (dC, dI) kxCl (mW mo ma cs I (va_up (va_up (va_up (va_up (va_up (va_up (va_up (va_up F 20 (upI (F 20) sd pa)) 22 (upI (F 22) sd (-1))) 23 (upI (F 23) sd 0)) 24 (upI (F 24) sd 0)) 21 (upI (F 21) sd (vp_nar .boolean (iz 1)).toInt)) 22 (upI (upI (F 22) sd (-1)) sd 1)) 23 (upI (upI (F 23) sd 0) sd ((20 * p0) + pz))) 24 (upI (upI (F 24) sd 0) sd (en - pz)))) H := hP
                                        have hD : va_D A (mW mo ma cs I (va_up (va_up (va_up (va_up (va_up (va_up (va_up (va_up F 20 (upI (F 20) sd pa)) 22 (upI (F 22) sd (-1))) 23 (upI (F 23) sd 0)) 24 (upI (F 24) sd 0)) 21 (upI (F 21) sd (vp_nar .boolean (iz 1)).toInt)) 22 (upI (upI (F 22) sd (-1)) sd 1)) 23 (upI (upI (F 23) sd 0) sd ((20 * p0) + pz))) 24 (upI (upI (F 24) sd 0) sd (en - pz)))) := hD
                                        refine lv_aload_n hx hb dX6_step_291 rfl (lv_at hl 4 rfl) ?_
                                        refine va_get (D := (dC, dI)) (ci := 6) (v := .ref (ma 20)) (C := RX6) (T := TX6) (N := 44) hx hb hts kt_X6 hown hK hP 0 rfl rfl 20 (by decide) (kx_word hG kq_05_morder_0 rfl) (fun _ h9 => h9) rfl dX6_step_292 ?_
                                        refine lv_iload_n hx hb dX6_step_295 rfl (lv_at hl 5 rfl) ?_
                                        refine lv_iload hx hb dX6_step_296 (lv_at hl 0 rfl) ?_
                                        refine ki_iast (F := upI (F 20) sd pa) hx hb hK hP hD hS 15 14 rfl rfl (by omega) (by omega) (by decide) dX6_step_298 (fun H locs hP hD hS => ?_)
                                        have hP : va_P (dC, dI) kxCl (mW mo ma cs I (va_up (va_up (va_up (va_up (va_up (va_up (va_up (va_up (va_up F 20 (upI (F 20) sd pa)) 22 (upI (F 22) sd (-1))) 23 (upI (F 23) sd 0)) 24 (upI (F 24) sd 0)) 21 (upI (F 21) sd (vp_nar .boolean (iz 1)).toInt)) 22 (upI (upI (F 22) sd (-1)) sd 1)) 23 (upI (upI (F 23) sd 0) sd ((20 * p0) + pz))) 24 (upI (upI (F 24) sd 0) sd (en - pz))) 20 (upI (upI (F 20) sd pa) sd en))) H := hP
                                        have hD : va_D A (mW mo ma cs I (va_up (va_up (va_up (va_up (va_up (va_up (va_up (va_up (va_up F 20 (upI (F 20) sd pa)) 22 (upI (F 22) sd (-1))) 23 (upI (F 23) sd 0)) 24 (upI (F 24) sd 0)) 21 (upI (F 21) sd (vp_nar .boolean (iz 1)).toInt)) 22 (upI (upI (F 22) sd (-1)) sd 1)) 23 (upI (upI (F 23) sd 0) sd ((20 * p0) + pz))) 24 (upI (upI (F 24) sd 0) sd (en - pz))) 20 (upI (upI (F 20) sd pa) sd en))) := hD
                                        have e_540 : (va_up (va_up (va_up (va_up (va_up (va_up (va_up (va_up (va_up F 20 (upI (F 20) sd pa)) 22 (upI (F 22) sd (-1))) 23 (upI (F 23) sd 0)) 24 (upI (F 24) sd 0)) 21 (upI (F 21) sd (vp_nar .boolean (iz 1)).toInt)) 22 (upI (upI (F 22) sd (-1)) sd 1)) 23 (upI (upI (F 23) sd 0) sd ((20 * p0) + pz))) 24 (upI (upI (F 24) sd 0) sd (en - pz))) 20 (upI (upI (F 20) sd pa) sd en)) 20 sd = en := upI_self _ _ _
                                        have e_541 : (va_up (va_up (va_up (va_up (va_up (va_up (va_up (va_up (va_up F 20 (upI (F 20) sd pa)) 22 (upI (F 22) sd (-1))) 23 (upI (F 23) sd 0)) 24 (upI (F 24) sd 0)) 21 (upI (F 21) sd (vp_nar .boolean (iz 1)).toInt)) 22 (upI (upI (F 22) sd (-1)) sd 1)) 23 (upI (upI (F 23) sd 0) sd ((20 * p0) + pz))) 24 (upI (upI (F 24) sd 0) sd (en - pz))) 20 (upI (upI (F 20) sd pa) sd en)) 22 sd = 1 := upI_self _ _ _
                                        have e_542 : (va_up (va_up (va_up (va_up (va_up (va_up (va_up (va_up (va_up F 20 (upI (F 20) sd pa)) 22 (upI (F 22) sd (-1))) 23 (upI (F 23) sd 0)) 24 (upI (F 24) sd 0)) 21 (upI (F 21) sd (vp_nar .boolean (iz 1)).toInt)) 22 (upI (upI (F 22) sd (-1)) sd 1)) 23 (upI (upI (F 23) sd 0) sd ((20 * p0) + pz))) 24 (upI (upI (F 24) sd 0) sd (en - pz))) 20 (upI (upI (F 20) sd pa) sd en)) 23 sd = (20 * p0) + pz := upI_self _ _ _
                                        have e_543 : (va_up (va_up (va_up (va_up (va_up (va_up (va_up (va_up (va_up F 20 (upI (F 20) sd pa)) 22 (upI (F 22) sd (-1))) 23 (upI (F 23) sd 0)) 24 (upI (F 24) sd 0)) 21 (upI (F 21) sd (vp_nar .boolean (iz 1)).toInt)) 22 (upI (upI (F 22) sd (-1)) sd 1)) 23 (upI (upI (F 23) sd 0) sd ((20 * p0) + pz))) 24 (upI (upI (F 24) sd 0) sd (en - pz))) 20 (upI (upI (F 20) sd pa) sd en)) 24 sd = en - pz := upI_self _ _ _
                                        have e_544 : (va_up (va_up (va_up (va_up (va_up (va_up (va_up (va_up (va_up F 20 (upI (F 20) sd pa)) 22 (upI (F 22) sd (-1))) 23 (upI (F 23) sd 0)) 24 (upI (F 24) sd 0)) 21 (upI (F 21) sd (vp_nar .boolean (iz 1)).toInt)) 22 (upI (upI (F 22) sd (-1)) sd 1)) 23 (upI (upI (F 23) sd 0) sd ((20 * p0) + pz))) 24 (upI (upI (F 24) sd 0) sd (en - pz))) 20 (upI (upI (F 20) sd pa) sd en)) 21 sd = (vp_nar .boolean (iz 1)).toInt := upI_self _ _ _
                                        rw [← hQe]
                                        exact mk_ret hx hb hr hlocks hP hD hK hS dX6_step_299 (⟨rfl, (mB_f (mB_f (mB_f (mB_f (mB_f (mB_f (mB_f (mB_f (mB_f hB 20 sd (by omega) (by omega)) 22 sd (by omega) (by omega)) 23 sd (by omega) (by omega)) 24 sd (by omega) (by omega)) 21 sd (iz_lo _) (iz_hi _)) 22 sd (by omega) (by omega)) 23 sd (by omega) (by omega)) 24 sd (by omega) (by omega)) 20 sd (by omega) (by omega)), (mfr.upF (mfr.upF (mfr.upF (mfr.upF (mfr.upF (mfr.upF (mfr.upF (mfr.upF (mfr.upF mfr.rf (by decide) _) (by decide) _) (by decide) _) (by decide) _) (by decide) _) (by decide) _) (by decide) _) (by decide) _) (by decide) _), (mo1.up (mo1.up (mo1.up (mo1.up (mo1.up (mo1.up (mo1.up (mo1.up (mo1.up mo1.rf 20 _) 22 _) 23 _) 24 _) 21 _) 22 _) 23 _) 24 _) 20 _), by omega, by omega, by omega⟩)
                                      · skip
                                        refine lv_iinc (v := iz (pz + 1)) (lv' := [(3, .int (iz (pz + 1))), (6, .int (iz en)), (5, .int (iz (F 4 ((20 * p0) + pa)))), (4, .int (iz ps)), (0, .ref mo), (1, .int (iz sd)), (2, .int (iz p0))]) hx hb dX6_step_256 hl (k := 3) rfl (iz_add pz 1) (by decide) rfl (fun ls hl => ?_)
                                        refine lv_goto (tgt := 234) hx hb dX6_step_259 (by decide) ?_
                                        exact ih234 (pz + 1) (by omega) (by omega) _ _ hP hD hS ls (lv_sub hl [1, 2, 3, 0, 4, 5, 6] rfl)
                                exact lp234 _ pa (by omega) (Nat.lt_succ_self _) _ _ hP hD hS ls (lv_sub hl [0, 1, 2, 3, 4, 5, 6] rfl)
                              · skip
                                refine lv_iinc (v := iz (en + 1)) (lv' := [(6, .int (iz (en + 1))), (5, .int (iz (F 4 ((20 * p0) + pa)))), (4, .int (iz ps)), (3, .int (iz pa)), (0, .ref mo), (1, .int (iz sd)), (2, .int (iz p0))]) hx hb dX6_step_228 hl (k := 0) rfl (iz_add en 1) (by decide) rfl (fun ls hl => ?_)
                                refine lv_goto (tgt := 192) hx hb dX6_step_231 (by decide) ?_
                                exact ih192 (en + 1) (by omega) (by omega) _ _ hP hD hS ls (lv_sub hl [0, 1, 2, 3, 4, 5, 6] rfl)
                      exact lp192 _ (pa + 1) (by omega) (Nat.lt_succ_self _) _ _ hP hD hS ls (lv_sub hl [0, 1, 2, 3, 4, 5, 6] rfl)
                    · skip
                      refine lv_aload_n hx hb dX6_step_159 rfl (lv_at hl 3 rfl) ?_
                      refine va_get (D := (dC, dI)) (ci := 6) (v := .ref (ma 22)) (C := RX6) (T := TX6) (N := 44) hx hb hts kt_X6 hown hK hP 0 rfl rfl 22 (by decide) (kx_word hG kq_05_morder_2 rfl) (fun _ h9 => h9) rfl dX6_step_160 ?_
                      refine lv_iload_n hx hb dX6_step_163 rfl (lv_at hl 4 rfl) ?_
                      refine lv_iconst (v := iz 2) hx hb dX6_step_164 (by decide) ?_
                      refine ki_iast (F := upI (F 22) sd (-1)) hx hb hK hP hD hS 17 16 rfl rfl (by omega) (by omega) (by decide) dX6_step_165 (fun H locs hP hD hS => ?_)
                      have hP : va_P (dC, dI) kxCl (mW mo ma cs I (va_up (va_up (va_up (va_up (va_up (va_up F 20 (upI (F 20) sd pa)) 22 (upI (F 22) sd (-1))) 23 (upI (F 23) sd 0)) 24 (upI (F 24) sd 0)) 21 (upI (F 21) sd (vp_nar .boolean (iz 1)).toInt)) 22 (upI (upI (F 22) sd (-1)) sd 2))) H := hP
                      have hD : va_D A (mW mo ma cs I (va_up (va_up (va_up (va_up (va_up (va_up F 20 (upI (F 20) sd pa)) 22 (upI (F 22) sd (-1))) 23 (upI (F 23) sd 0)) 24 (upI (F 24) sd 0)) 21 (upI (F 21) sd (vp_nar .boolean (iz 1)).toInt)) 22 (upI (upI (F 22) sd (-1)) sd 2))) := hD
                      refine lv_aload_n hx hb dX6_step_166 rfl (lv_at hl 3 rfl) ?_
                      refine va_get (D := (dC, dI)) (ci := 6) (v := .ref (ma 23)) (C := RX6) (T := TX6) (N := 44) hx hb hts kt_X6 hown hK hP 0 rfl rfl 23 (by decide) (kx_word hG kq_05_morder_3 rfl) (fun _ h9 => h9) rfl dX6_step_167 ?_
                      refine lv_iload_n hx hb dX6_step_170 rfl (lv_at hl 4 rfl) ?_
                      refine lv_iload hx hb dX6_step_171 (lv_at hl 0 rfl) ?_
                      refine mk_calls (As := [.int (iz (F 4 ((20 * p0) + pa)))]) (rest := [.int (iz sd), .ref (ma 23)]) ⟨hx, hb, hml, hown, hts⟩ (k_letterOf l dC dI (F 4 ((20 * p0) + pa)) H.size (by omega) (by omega)) (va_cwS 1 hts (kx_gS kq_05_morder_5 kq_05_morder_6 kq_04_msmall_6 kq_05_morder_7 rfl) rfl rfl rfl (by decide +kernel) ⟨Nat.le_of_ble_eq_true rfl, Nat.le_of_ble_eq_true rfl⟩) hP hD hK hG hZ hS hA rfl hl.1 rfl (Nat.le_of_ble_eq_true rfl) dX6_step_173 ⟨Nat.le_of_ble_eq_true rfl, Nat.le_of_ble_eq_true rfl⟩ (fun z_545 H locs hq_546 hP hS => ?_)
                      try dsimp only at hq_546
                      refine ki_iast (F := upI (F 23) sd 0) hx hb hK hP hD hS 18 17 rfl rfl (by omega) (by omega) (by decide) dX6_step_176 (fun H locs hP hD hS => ?_)
                      have hP : va_P (dC, dI) kxCl (mW mo ma cs I (va_up (va_up (va_up (va_up (va_up (va_up (va_up F 20 (upI (F 20) sd pa)) 22 (upI (F 22) sd (-1))) 23 (upI (F 23) sd 0)) 24 (upI (F 24) sd 0)) 21 (upI (F 21) sd (vp_nar .boolean (iz 1)).toInt)) 22 (upI (upI (F 22) sd (-1)) sd 2)) 23 (upI (upI (F 23) sd 0) sd z_545))) H := hP
                      have hD : va_D A (mW mo ma cs I (va_up (va_up (va_up (va_up (va_up (va_up (va_up F 20 (upI (F 20) sd pa)) 22 (upI (F 22) sd (-1))) 23 (upI (F 23) sd 0)) 24 (upI (F 24) sd 0)) 21 (upI (F 21) sd (vp_nar .boolean (iz 1)).toInt)) 22 (upI (upI (F 22) sd (-1)) sd 2)) 23 (upI (upI (F 23) sd 0) sd z_545))) := hD
                      refine lv_aload_n hx hb dX6_step_177 rfl (lv_at hl 3 rfl) ?_
                      refine va_get (D := (dC, dI)) (ci := 6) (v := .ref (ma 20)) (C := RX6) (T := TX6) (N := 44) hx hb hts kt_X6 hown hK hP 0 rfl rfl 20 (by decide) (kx_word hG kq_05_morder_0 rfl) (fun _ h9 => h9) rfl dX6_step_178 ?_
                      refine lv_iload_n hx hb dX6_step_181 rfl (lv_at hl 4 rfl) ?_
                      refine lv_iload_n hx hb dX6_step_182 rfl (lv_at hl 2 rfl) ?_
                      refine lv_iconst (v := iz 1) hx hb dX6_step_183 (by decide) ?_
                      refine ki_iadd hx hb dX6_step_184 ?_
                      refine ki_iast (F := upI (F 20) sd pa) hx hb hK hP hD hS 15 14 rfl rfl (by omega) (by omega) (by decide) dX6_step_185 (fun H locs hP hD hS => ?_)
                      have hP : va_P (dC, dI) kxCl (mW mo ma cs I (va_up (va_up (va_up (va_up (va_up (va_up (va_up (va_up F 20 (upI (F 20) sd pa)) 22 (upI (F 22) sd (-1))) 23 (upI (F 23) sd 0)) 24 (upI (F 24) sd 0)) 21 (upI (F 21) sd (vp_nar .boolean (iz 1)).toInt)) 22 (upI (upI (F 22) sd (-1)) sd 2)) 23 (upI (upI (F 23) sd 0) sd z_545)) 20 (upI (upI (F 20) sd pa) sd (pa + 1)))) H := hP
                      have hD : va_D A (mW mo ma cs I (va_up (va_up (va_up (va_up (va_up (va_up (va_up (va_up F 20 (upI (F 20) sd pa)) 22 (upI (F 22) sd (-1))) 23 (upI (F 23) sd 0)) 24 (upI (F 24) sd 0)) 21 (upI (F 21) sd (vp_nar .boolean (iz 1)).toInt)) 22 (upI (upI (F 22) sd (-1)) sd 2)) 23 (upI (upI (F 23) sd 0) sd z_545)) 20 (upI (upI (F 20) sd pa) sd (pa + 1)))) := hD
                      have e_547 : (va_up (va_up (va_up (va_up (va_up (va_up (va_up (va_up F 20 (upI (F 20) sd pa)) 22 (upI (F 22) sd (-1))) 23 (upI (F 23) sd 0)) 24 (upI (F 24) sd 0)) 21 (upI (F 21) sd (vp_nar .boolean (iz 1)).toInt)) 22 (upI (upI (F 22) sd (-1)) sd 2)) 23 (upI (upI (F 23) sd 0) sd z_545)) 20 (upI (upI (F 20) sd pa) sd (pa + 1))) 20 sd = pa + 1 := upI_self _ _ _
                      have e_548 : (va_up (va_up (va_up (va_up (va_up (va_up (va_up (va_up F 20 (upI (F 20) sd pa)) 22 (upI (F 22) sd (-1))) 23 (upI (F 23) sd 0)) 24 (upI (F 24) sd 0)) 21 (upI (F 21) sd (vp_nar .boolean (iz 1)).toInt)) 22 (upI (upI (F 22) sd (-1)) sd 2)) 23 (upI (upI (F 23) sd 0) sd z_545)) 20 (upI (upI (F 20) sd pa) sd (pa + 1))) 22 sd = 2 := upI_self _ _ _
                      have e_549 : (va_up (va_up (va_up (va_up (va_up (va_up (va_up (va_up F 20 (upI (F 20) sd pa)) 22 (upI (F 22) sd (-1))) 23 (upI (F 23) sd 0)) 24 (upI (F 24) sd 0)) 21 (upI (F 21) sd (vp_nar .boolean (iz 1)).toInt)) 22 (upI (upI (F 22) sd (-1)) sd 2)) 23 (upI (upI (F 23) sd 0) sd z_545)) 20 (upI (upI (F 20) sd pa) sd (pa + 1))) 23 sd = z_545 := upI_self _ _ _
                      have e_550 : (va_up (va_up (va_up (va_up (va_up (va_up (va_up (va_up F 20 (upI (F 20) sd pa)) 22 (upI (F 22) sd (-1))) 23 (upI (F 23) sd 0)) 24 (upI (F 24) sd 0)) 21 (upI (F 21) sd (vp_nar .boolean (iz 1)).toInt)) 22 (upI (upI (F 22) sd (-1)) sd 2)) 23 (upI (upI (F 23) sd 0) sd z_545)) 20 (upI (upI (F 20) sd pa) sd (pa + 1))) 24 sd = 0 := upI_self _ _ _
                      have e_551 : (va_up (va_up (va_up (va_up (va_up (va_up (va_up (va_up F 20 (upI (F 20) sd pa)) 22 (upI (F 22) sd (-1))) 23 (upI (F 23) sd 0)) 24 (upI (F 24) sd 0)) 21 (upI (F 21) sd (vp_nar .boolean (iz 1)).toInt)) 22 (upI (upI (F 22) sd (-1)) sd 2)) 23 (upI (upI (F 23) sd 0) sd z_545)) 20 (upI (upI (F 20) sd pa) sd (pa + 1))) 21 sd = (vp_nar .boolean (iz 1)).toInt := upI_self _ _ _
                      rw [← hQe]
                      exact mk_ret hx hb hr hlocks hP hD hK hS dX6_step_186 (⟨rfl, (mB_f (mB_f (mB_f (mB_f (mB_f (mB_f (mB_f (mB_f hB 20 sd (by omega) (by omega)) 22 sd (by omega) (by omega)) 23 sd (by omega) (by omega)) 24 sd (by omega) (by omega)) 21 sd (iz_lo _) (iz_hi _)) 22 sd (by omega) (by omega)) 23 sd (by omega) (by omega)) 20 sd (by omega) (by omega)), (mfr.upF (mfr.upF (mfr.upF (mfr.upF (mfr.upF (mfr.upF (mfr.upF (mfr.upF mfr.rf (by decide) _) (by decide) _) (by decide) _) (by decide) _) (by decide) _) (by decide) _) (by decide) _) (by decide) _), (mo1.up (mo1.up (mo1.up (mo1.up (mo1.up (mo1.up (mo1.up (mo1.up mo1.rf 20 _) 22 _) 23 _) 24 _) 21 _) 22 _) 23 _) 20 _), by omega, by omega, by omega⟩)
                  · skip
                    refine lv_aload_n hx hb dX6_step_123 rfl (lv_at hl 2 rfl) ?_
                    refine va_get (D := (dC, dI)) (ci := 6) (v := .ref (ma 22)) (C := RX6) (T := TX6) (N := 44) hx hb hts kt_X6 hown hK hP 0 rfl rfl 22 (by decide) (kx_word hG kq_05_morder_2 rfl) (fun _ h9 => h9) rfl dX6_step_124 ?_
                    refine lv_iload_n hx hb dX6_step_127 rfl (lv_at hl 3 rfl) ?_
                    refine lv_iconst (v := iz 0) hx hb dX6_step_128 (by decide) ?_
                    refine ki_iast (F := upI (F 22) sd (-1)) hx hb hK hP hD hS 17 16 rfl rfl (by omega) (by omega) (by decide) dX6_step_129 (fun H locs hP hD hS => ?_)
                    have hP : va_P (dC, dI) kxCl (mW mo ma cs I (va_up (va_up (va_up (va_up (va_up F 20 (upI (F 20) sd pa)) 22 (upI (F 22) sd (-1))) 23 (upI (F 23) sd 0)) 24 (upI (F 24) sd 0)) 22 (upI (upI (F 22) sd (-1)) sd 0))) H := hP
                    have hD : va_D A (mW mo ma cs I (va_up (va_up (va_up (va_up (va_up F 20 (upI (F 20) sd pa)) 22 (upI (F 22) sd (-1))) 23 (upI (F 23) sd 0)) 24 (upI (F 24) sd 0)) 22 (upI (upI (F 22) sd (-1)) sd 0))) := hD
                    have e_552 : (va_up (va_up (va_up (va_up (va_up F 20 (upI (F 20) sd pa)) 22 (upI (F 22) sd (-1))) 23 (upI (F 23) sd 0)) 24 (upI (F 24) sd 0)) 22 (upI (upI (F 22) sd (-1)) sd 0)) 20 sd = pa := upI_self _ _ _
                    have e_553 : (va_up (va_up (va_up (va_up (va_up F 20 (upI (F 20) sd pa)) 22 (upI (F 22) sd (-1))) 23 (upI (F 23) sd 0)) 24 (upI (F 24) sd 0)) 22 (upI (upI (F 22) sd (-1)) sd 0)) 22 sd = 0 := upI_self _ _ _
                    have e_554 : (va_up (va_up (va_up (va_up (va_up F 20 (upI (F 20) sd pa)) 22 (upI (F 22) sd (-1))) 23 (upI (F 23) sd 0)) 24 (upI (F 24) sd 0)) 22 (upI (upI (F 22) sd (-1)) sd 0)) 23 sd = 0 := upI_self _ _ _
                    have e_555 : (va_up (va_up (va_up (va_up (va_up F 20 (upI (F 20) sd pa)) 22 (upI (F 22) sd (-1))) 23 (upI (F 23) sd 0)) 24 (upI (F 24) sd 0)) 22 (upI (upI (F 22) sd (-1)) sd 0)) 24 sd = 0 := upI_self _ _ _
                    rw [← hQe]
                    exact mk_ret hx hb hr hlocks hP hD hK hS dX6_step_130 (⟨rfl, (mB_f (mB_f (mB_f (mB_f (mB_f hB 20 sd (by omega) (by omega)) 22 sd (by omega) (by omega)) 23 sd (by omega) (by omega)) 24 sd (by omega) (by omega)) 22 sd (by omega) (by omega)), (mfr.upF (mfr.upF (mfr.upF (mfr.upF (mfr.upF mfr.rf (by decide) _) (by decide) _) (by decide) _) (by decide) _) (by decide) _), (mo1.up (mo1.up (mo1.up (mo1.up (mo1.up mo1.rf 20 _) 22 _) 23 _) 24 _) 22 _), by omega, by omega, by omega⟩)
            · skip
              have e_556 : (va_up (va_up (va_up (va_up F 20 (upI (F 20) sd pa)) 22 (upI (F 22) sd (-1))) 23 (upI (F 23) sd 0)) 24 (upI (F 24) sd 0)) 20 sd = pa := upI_self _ _ _
              have e_557 : (va_up (va_up (va_up (va_up F 20 (upI (F 20) sd pa)) 22 (upI (F 22) sd (-1))) 23 (upI (F 23) sd 0)) 24 (upI (F 24) sd 0)) 22 sd = (-1) := upI_self _ _ _
              have e_558 : (va_up (va_up (va_up (va_up F 20 (upI (F 20) sd pa)) 22 (upI (F 22) sd (-1))) 23 (upI (F 23) sd 0)) 24 (upI (F 24) sd 0)) 23 sd = 0 := upI_self _ _ _
              have e_559 : (va_up (va_up (va_up (va_up F 20 (upI (F 20) sd pa)) 22 (upI (F 22) sd (-1))) 23 (upI (F 23) sd 0)) 24 (upI (F 24) sd 0)) 24 sd = 0 := upI_self _ _ _
              rw [← hQe]
              exact mk_ret hx hb hr hlocks hP hD hK hS dX6_step_101 (⟨rfl, (mB_f (mB_f (mB_f (mB_f hB 20 sd (by omega) (by omega)) 22 sd (by omega) (by omega)) 23 sd (by omega) (by omega)) 24 sd (by omega) (by omega)), (mfr.upF (mfr.upF (mfr.upF (mfr.upF mfr.rf (by decide) _) (by decide) _) (by decide) _) (by decide) _), (mo1.up (mo1.up (mo1.up (mo1.up mo1.rf 20 _) 22 _) 23 _) 24 _), by omega, by omega, by omega⟩)
          · skip
            refine lv_iconst (v := iz 1) hx hb dX6_step_54 (by decide) ?_
            refine lv_istore (lv' := [(4, .int (iz 1)), (3, .int (iz pa)), (0, .ref mo), (1, .int (iz sd)), (2, .int (iz p0))]) hx hb dX6_step_55 hl (by decide) rfl (fun ls hl => ?_)
            refine lv_iinc (v := iz (pa + 1)) (lv' := [(3, .int (iz (pa + 1))), (4, .int (iz 1)), (0, .ref mo), (1, .int (iz sd)), (2, .int (iz p0))]) hx hb dX6_step_57 hl (k := 1) rfl (iz_add pa 1) (by decide) rfl (fun ls hl => ?_)
            refine lv_goto (tgt := 10) hx hb dX6_step_60 (by decide) ?_
            exact ih10 (pa + 1) 1 ⟨by omega, by omega⟩ (by omega) _ _ hP hD hS ls (lv_sub hl [1, 0, 2, 3, 4] rfl)
  exact lp10 _ (F 20 sd) 0 ⟨by omega, by omega⟩ (Nat.lt_succ_self _) _ _ hP hD hS ls (lv_sub hl [0, 1, 2, 3, 4] rfl)
set_option maxHeartbeats 4000000 in
set_option maxRecDepth 100000 in
theorem k_unitsDiffer (l : Launch) (dC : Nat → ClassId) (dI : Nat → Nat → Nat) (mo : Nat) (ma : Nat → Nat) (cs : Nat → ClassId) (I : Nat → Int) (F : Nat → Int → Int) (sz : Nat) (hB : mB I F) (hu0 : F 22 0 = 1 → 0 ≤ F 23 0 ∧ 0 ≤ F 24 0 ∧ F 23 0 + F 24 0 ≤ 1600) (hu1 : F 22 1 = 1 → 0 ≤ F 23 1 ∧ 0 ≤ F 24 1 ∧ F 23 1 + F 24 1 ≤ 1600) : mMi l yX6_unitsDiffer (.code yX6_unitsDiffer cX6_unitsDiffer 4 (some .int)) 0 0 dC dI mo ma cs I F [.ref mo] sz (fun (r : Int) (I' : Nat → Int) (F' : Nat → Int → Int) => I = I' ∧ F = F' ∧ (-1 ≤ r ∧ r ≤ 1)) := by
  refine Met.ofW (cc := cX6_unitsDiffer) (maxL := 4) (ret := (some .int)) (by decide) rfl ?_
  intro p e s m args below meth c s₁ B hml hv
  obtain ⟨rfl, hsz, hP, hK, hD0, hG, hZ⟩ := hv
  have hx := B.exec
  have hb := B.bytes
  have hr := B.returns
  have hts := kx_hts (a := ([.ref mo] : List Value).toArray) hG
  have hown : s.vm.findClass RX6 = some m.cls := findClass_of_methodNamed B.named
  have hlocks := B.notSynchronized
  subst hsz
  have hD := hD0.self (sz := s.heap.size)
  generalize hAe : va_A (mW mo ma cs I F) s.heap.size = A at hD hZ ⊢
  have hA : ∀ q : Nat, s.heap.size ≤ q → A q := fun q h => by rw [← hAe]; exact Or.inr h
  have hS : va_S A s.heap s.heap [] := va_S.rf
  have hl := lv_entry ([.ref mo]) (n := 4) (Nat.le_of_ble_eq_true rfl)
  rw [lg_entry_eq]
  generalize (lg_sl ([.ref mo]) ++ List.replicate (4 - (lg_sl ([.ref mo])).length) Slot.unset).toArray = ls at hl ⊢
  have hl : lv_has ls 4 [(0, .ref mo)] := hl
  generalize hQe : MQ below (mQi dC dI mo ma cs A (fun (r : Int) (I' : Nat → Int) (F' : Nat → Int → Int) => I = I' ∧ F = F' ∧ (-1 ≤ r ∧ r ≤ 1))) ([.ref mo] : List Value).toArray s 0 0 A = QQ
  have hw9 := hB.2 24 0
  refine lv_aload_n hx hb dX6_unitsDiffer_0 rfl (lv_at hl 0 rfl) ?_
  refine va_get (D := (dC, dI)) (ci := 6) (v := .ref (ma 22)) (C := RX6) (T := TX6) (N := 44) hx hb hts kt_X6 hown hK hP 0 rfl rfl 22 (by decide) (kx_word hG kq_05_morder_2 rfl) (fun _ h9 => h9) rfl dX6_unitsDiffer_1 ?_
  refine lv_iconst (v := iz 0) hx hb dX6_unitsDiffer_4 (by decide) ?_
  refine ki_iald (F := F 22) hx hb hK hP 17 16 rfl rfl (by omega) (by omega) (by decide) dX6_unitsDiffer_5 ?_
  have hbd_1 := hB.2 22 0
  refine lv_aload_n hx hb dX6_unitsDiffer_6 rfl (lv_at hl 0 rfl) ?_
  refine va_get (D := (dC, dI)) (ci := 6) (v := .ref (ma 22)) (C := RX6) (T := TX6) (N := 44) hx hb hts kt_X6 hown hK hP 0 rfl rfl 22 (by decide) (kx_word hG kq_05_morder_2 rfl) (fun _ h9 => h9) rfl dX6_unitsDiffer_7 ?_
  refine lv_iconst (v := iz 1) hx hb dX6_unitsDiffer_10 (by decide) ?_
  refine ki_iald (F := F 22) hx hb hK hP 17 16 rfl rfl (by omega) (by omega) (by decide) dX6_unitsDiffer_11 ?_
  have hbd_2 := hB.2 22 1
  refine ki_icmp_eq (tgt := 36) hx hb dX6_unitsDiffer_12 (by decide) (by omega) (by omega) (by omega) (by omega) (fun c_3 => ?_) (fun c_3 => ?_)
  · skip
    refine lv_aload_n hx hb dX6_unitsDiffer_36 rfl (lv_at hl 0 rfl) ?_
    refine va_get (D := (dC, dI)) (ci := 6) (v := .ref (ma 22)) (C := RX6) (T := TX6) (N := 44) hx hb hts kt_X6 hown hK hP 0 rfl rfl 22 (by decide) (kx_word hG kq_05_morder_2 rfl) (fun _ h9 => h9) rfl dX6_unitsDiffer_37 ?_
    refine lv_iconst (v := iz 0) hx hb dX6_unitsDiffer_40 (by decide) ?_
    refine ki_iald (F := F 22) hx hb hK hP 17 16 rfl rfl (by omega) (by omega) (by decide) dX6_unitsDiffer_41 ?_
    refine lv_iconst (v := iz 1) hx hb dX6_unitsDiffer_42 (by decide) ?_
    refine ki_icmp_eq (tgt := 86) hx hb dX6_unitsDiffer_43 (by decide) (by omega) (by omega) (by omega) (by omega) (fun c_4 => ?_) (fun c_4 => ?_)
    · skip
      refine lv_aload_n hx hb dX6_unitsDiffer_86 rfl (lv_at hl 0 rfl) ?_
      refine va_get (D := (dC, dI)) (ci := 6) (v := .ref (ma 24)) (C := RX6) (T := TX6) (N := 44) hx hb hts kt_X6 hown hK hP 0 rfl rfl 24 (by decide) (kx_word hG kq_05_morder_4 rfl) (fun _ h9 => h9) rfl dX6_unitsDiffer_87 ?_
      refine lv_iconst (v := iz 0) hx hb dX6_unitsDiffer_90 (by decide) ?_
      refine ki_iald (F := F 24) hx hb hK hP 19 18 rfl rfl (by omega) (by omega) (by decide) dX6_unitsDiffer_91 ?_
      have hbd_5 := hB.2 24 0
      refine lv_aload_n hx hb dX6_unitsDiffer_92 rfl (lv_at hl 0 rfl) ?_
      refine va_get (D := (dC, dI)) (ci := 6) (v := .ref (ma 24)) (C := RX6) (T := TX6) (N := 44) hx hb hts kt_X6 hown hK hP 0 rfl rfl 24 (by decide) (kx_word hG kq_05_morder_4 rfl) (fun _ h9 => h9) rfl dX6_unitsDiffer_93 ?_
      refine lv_iconst (v := iz 1) hx hb dX6_unitsDiffer_96 (by decide) ?_
      refine ki_iald (F := F 24) hx hb hK hP 19 18 rfl rfl (by omega) (by omega) (by decide) dX6_unitsDiffer_97 ?_
      have hbd_6 := hB.2 24 1
      refine ki_icmp_eq (tgt := 122) hx hb dX6_unitsDiffer_98 (by decide) (by omega) (by omega) (by omega) (by omega) (fun c_7 => ?_) (fun c_7 => ?_)
      · skip
        refine lv_iconst (v := iz 0) hx hb dX6_unitsDiffer_122 (by decide) ?_
        refine lv_istore_n (lv' := [(1, .int (iz 0)), (0, .ref mo)]) hx hb dX6_unitsDiffer_123 rfl hl (by decide) rfl (fun ls hl => ?_)
        have lp124 : ∀ (n : Nat) (k : Int), ((0 ≤ k ∧ k ≤ 1600)) → (F 24 0 - k).toNat < n → ∀ (H : Heap) (locs : List Loc), va_P (dC, dI) kxCl (mW mo ma cs I F) H → va_D A (mW mo ma cs I F) → va_S A s.heap H locs → ∀ ls : Array Slot, lv_has ls 4 [(1, .int (iz k)), (0, .ref mo)] → W p l e (headSpec [.code yX6_unitsDiffer cX6_unitsDiffer 4 (some .int)] ({ frames := 0, cells := 0, slots := 0, locals := 0 })).room s m ([.ref mo] : List Value).toArray below meth c H locs 0 0 QQ (F0 m 124 ls []) := by
          intro n
          induction n with
          | zero => intro k hinv hm; exact absurd hm (Nat.not_lt_zero _)
          | succ n ih124 =>
            intro k hinv hm H locs hP hD hS ls hl
            have hk := hinv
            refine lv_iload_n hx hb dX6_unitsDiffer_124 rfl (lv_at hl 0 rfl) ?_
            refine lv_aload_n hx hb dX6_unitsDiffer_125 rfl (lv_at hl 1 rfl) ?_
            refine va_get (D := (dC, dI)) (ci := 6) (v := .ref (ma 24)) (C := RX6) (T := TX6) (N := 44) hx hb hts kt_X6 hown hK hP 0 rfl rfl 24 (by decide) (kx_word hG kq_05_morder_4 rfl) (fun _ h9 => h9) rfl dX6_unitsDiffer_126 ?_
            refine lv_iconst (v := iz 0) hx hb dX6_unitsDiffer_129 (by decide) ?_
            refine ki_iald (F := F 24) hx hb hK hP 19 18 rfl rfl (by omega) (by omega) (by decide) dX6_unitsDiffer_130 ?_
            refine ki_icmp_ge (tgt := 184) hx hb dX6_unitsDiffer_131 (by decide) (by omega) (by omega) (by omega) (by omega) (fun c_8 => ?_) (fun c_8 => ?_)
            · skip
              refine lv_iconst (v := iz 0) hx hb dX6_unitsDiffer_184 (by decide) ?_
              rw [← hQe]
              exact mk_ireti hx hb hr hlocks hP hD hK hS dX6_unitsDiffer_185 (⟨rfl, rfl, by omega⟩)
            · skip
              refine lv_aload_n hx hb dX6_unitsDiffer_134 rfl (lv_at hl 1 rfl) ?_
              refine va_get (D := (dC, dI)) (ci := 6) (v := .ref (ma 4)) (C := RX6) (T := TX6) (N := 44) hx hb hts kt_X6 hown hK hP 0 rfl rfl 4 (by decide) (kx_word hG kq_04_msmall_16 rfl) (fun _ h9 => h9) rfl dX6_unitsDiffer_135 ?_
              refine lv_aload_n hx hb dX6_unitsDiffer_138 rfl (lv_at hl 1 rfl) ?_
              refine va_get (D := (dC, dI)) (ci := 6) (v := .ref (ma 23)) (C := RX6) (T := TX6) (N := 44) hx hb hts kt_X6 hown hK hP 0 rfl rfl 23 (by decide) (kx_word hG kq_05_morder_3 rfl) (fun _ h9 => h9) rfl dX6_unitsDiffer_139 ?_
              refine lv_iconst (v := iz 0) hx hb dX6_unitsDiffer_142 (by decide) ?_
              refine ki_iald (F := F 23) hx hb hK hP 18 17 rfl rfl (by omega) (by omega) (by decide) dX6_unitsDiffer_143 ?_
              have hbd_9 := hB.2 23 0
              refine lv_iload_n hx hb dX6_unitsDiffer_144 rfl (lv_at hl 0 rfl) ?_
              refine ki_iadd hx hb dX6_unitsDiffer_145 ?_
              refine ki_iald (F := F 4) hx hb hK hP 3 2 rfl rfl (by omega) (by omega) (by decide) dX6_unitsDiffer_146 ?_
              have hbd_10 := hB.2 4 ((F 23 0) + k)
              refine lv_istore_n (lv' := [(2, .int (iz (F 4 ((F 23 0) + k)))), (1, .int (iz k)), (0, .ref mo)]) hx hb dX6_unitsDiffer_147 rfl hl (by decide) rfl (fun ls hl => ?_)
              refine lv_aload_n hx hb dX6_unitsDiffer_148 rfl (lv_at hl 2 rfl) ?_
              refine va_get (D := (dC, dI)) (ci := 6) (v := .ref (ma 4)) (C := RX6) (T := TX6) (N := 44) hx hb hts kt_X6 hown hK hP 0 rfl rfl 4 (by decide) (kx_word hG kq_04_msmall_16 rfl) (fun _ h9 => h9) rfl dX6_unitsDiffer_149 ?_
              refine lv_aload_n hx hb dX6_unitsDiffer_152 rfl (lv_at hl 2 rfl) ?_
              refine va_get (D := (dC, dI)) (ci := 6) (v := .ref (ma 23)) (C := RX6) (T := TX6) (N := 44) hx hb hts kt_X6 hown hK hP 0 rfl rfl 23 (by decide) (kx_word hG kq_05_morder_3 rfl) (fun _ h9 => h9) rfl dX6_unitsDiffer_153 ?_
              refine lv_iconst (v := iz 1) hx hb dX6_unitsDiffer_156 (by decide) ?_
              refine ki_iald (F := F 23) hx hb hK hP 18 17 rfl rfl (by omega) (by omega) (by decide) dX6_unitsDiffer_157 ?_
              have hbd_11 := hB.2 23 1
              refine lv_iload_n hx hb dX6_unitsDiffer_158 rfl (lv_at hl 1 rfl) ?_
              refine ki_iadd hx hb dX6_unitsDiffer_159 ?_
              refine ki_iald (F := F 4) hx hb hK hP 3 2 rfl rfl (by omega) (by omega) (by decide) dX6_unitsDiffer_160 ?_
              have hbd_12 := hB.2 4 ((F 23 1) + k)
              refine lv_istore_n (lv' := [(3, .int (iz (F 4 ((F 23 1) + k)))), (2, .int (iz (F 4 ((F 23 0) + k)))), (1, .int (iz k)), (0, .ref mo)]) hx hb dX6_unitsDiffer_161 rfl hl (by decide) rfl (fun ls hl => ?_)
              refine lv_iload_n hx hb dX6_unitsDiffer_162 rfl (lv_at hl 1 rfl) ?_
              refine lv_iload_n hx hb dX6_unitsDiffer_163 rfl (lv_at hl 0 rfl) ?_
              refine ki_icmp_eq (tgt := 178) hx hb dX6_unitsDiffer_164 (by decide) (by omega) (by omega) (by omega) (by omega) (fun c_13 => ?_) (fun c_13 => ?_)
              · skip
                refine lv_iinc (v := iz (k + 1)) (lv' := [(1, .int (iz (k + 1))), (3, .int (iz (F 4 ((F 23 1) + k)))), (2, .int (iz (F 4 ((F 23 0) + k)))), (0, .ref mo)]) hx hb dX6_unitsDiffer_178 hl (k := 2) rfl (iz_add k 1) (by decide) rfl (fun ls hl => ?_)
                refine lv_goto (tgt := 124) hx hb dX6_unitsDiffer_181 (by decide) ?_
                exact ih124 (k + 1) (by omega) (by omega) _ _ hP hD hS ls (lv_sub hl [0, 3] rfl)
              · skip
                refine lv_iload_n hx hb dX6_unitsDiffer_167 rfl (lv_at hl 1 rfl) ?_
                refine lv_iload_n hx hb dX6_unitsDiffer_168 rfl (lv_at hl 0 rfl) ?_
                refine ki_icmp_ge (tgt := 176) hx hb dX6_unitsDiffer_169 (by decide) (by omega) (by omega) (by omega) (by omega) (fun c_14 => ?_) (fun c_14 => ?_)
                · skip
                  refine lv_iconst (v := iz 1) hx hb dX6_unitsDiffer_176 (by decide) ?_
                  rw [← hQe]
                  exact mk_ireti hx hb hr hlocks hP hD hK hS dX6_unitsDiffer_177 (⟨rfl, rfl, by omega⟩)
                · skip
                  refine lv_iconst (v := iz (-1)) hx hb dX6_unitsDiffer_172 (by decide) ?_
                  refine lv_goto (tgt := 177) hx hb dX6_unitsDiffer_173 (by decide) ?_
                  rw [← hQe]
                  exact mk_ireti hx hb hr hlocks hP hD hK hS dX6_unitsDiffer_177 (⟨rfl, rfl, by omega⟩)
        exact lp124 _ 0 (by omega) (Nat.lt_succ_self _) _ _ hP hD hS ls (lv_sub hl [0, 1] rfl)
      · skip
        refine lv_aload_n hx hb dX6_unitsDiffer_101 rfl (lv_at hl 0 rfl) ?_
        refine va_get (D := (dC, dI)) (ci := 6) (v := .ref (ma 24)) (C := RX6) (T := TX6) (N := 44) hx hb hts kt_X6 hown hK hP 0 rfl rfl 24 (by decide) (kx_word hG kq_05_morder_4 rfl) (fun _ h9 => h9) rfl dX6_unitsDiffer_102 ?_
        refine lv_iconst (v := iz 0) hx hb dX6_unitsDiffer_105 (by decide) ?_
        refine ki_iald (F := F 24) hx hb hK hP 19 18 rfl rfl (by omega) (by omega) (by decide) dX6_unitsDiffer_106 ?_
        refine lv_aload_n hx hb dX6_unitsDiffer_107 rfl (lv_at hl 0 rfl) ?_
        refine va_get (D := (dC, dI)) (ci := 6) (v := .ref (ma 24)) (C := RX6) (T := TX6) (N := 44) hx hb hts kt_X6 hown hK hP 0 rfl rfl 24 (by decide) (kx_word hG kq_05_morder_4 rfl) (fun _ h9 => h9) rfl dX6_unitsDiffer_108 ?_
        refine lv_iconst (v := iz 1) hx hb dX6_unitsDiffer_111 (by decide) ?_
        refine ki_iald (F := F 24) hx hb hK hP 19 18 rfl rfl (by omega) (by omega) (by decide) dX6_unitsDiffer_112 ?_
        refine ki_icmp_ge (tgt := 120) hx hb dX6_unitsDiffer_113 (by decide) (by omega) (by omega) (by omega) (by omega) (fun c_15 => ?_) (fun c_15 => ?_)
        · skip
          refine lv_iconst (v := iz 1) hx hb dX6_unitsDiffer_120 (by decide) ?_
          rw [← hQe]
          exact mk_ireti hx hb hr hlocks hP hD hK hS dX6_unitsDiffer_121 (⟨rfl, rfl, by omega⟩)
        · skip
          refine lv_iconst (v := iz (-1)) hx hb dX6_unitsDiffer_116 (by decide) ?_
          refine lv_goto (tgt := 121) hx hb dX6_unitsDiffer_117 (by decide) ?_
          rw [← hQe]
          exact mk_ireti hx hb hr hlocks hP hD hK hS dX6_unitsDiffer_121 (⟨rfl, rfl, by omega⟩)
    · skip
      refine lv_aload_n hx hb dX6_unitsDiffer_46 rfl (lv_at hl 0 rfl) ?_
      refine va_get (D := (dC, dI)) (ci := 6) (v := .ref (ma 23)) (C := RX6) (T := TX6) (N := 44) hx hb hts kt_X6 hown hK hP 0 rfl rfl 23 (by decide) (kx_word hG kq_05_morder_3 rfl) (fun _ h9 => h9) rfl dX6_unitsDiffer_47 ?_
      refine lv_iconst (v := iz 0) hx hb dX6_unitsDiffer_50 (by decide) ?_
      refine ki_iald (F := F 23) hx hb hK hP 18 17 rfl rfl (by omega) (by omega) (by decide) dX6_unitsDiffer_51 ?_
      have hbd_16 := hB.2 23 0
      refine lv_aload_n hx hb dX6_unitsDiffer_52 rfl (lv_at hl 0 rfl) ?_
      refine va_get (D := (dC, dI)) (ci := 6) (v := .ref (ma 23)) (C := RX6) (T := TX6) (N := 44) hx hb hts kt_X6 hown hK hP 0 rfl rfl 23 (by decide) (kx_word hG kq_05_morder_3 rfl) (fun _ h9 => h9) rfl dX6_unitsDiffer_53 ?_
      refine lv_iconst (v := iz 1) hx hb dX6_unitsDiffer_56 (by decide) ?_
      refine ki_iald (F := F 23) hx hb hK hP 18 17 rfl rfl (by omega) (by omega) (by decide) dX6_unitsDiffer_57 ?_
      have hbd_17 := hB.2 23 1
      refine ki_icmp_ge (tgt := 65) hx hb dX6_unitsDiffer_58 (by decide) (by omega) (by omega) (by omega) (by omega) (fun c_18 => ?_) (fun c_18 => ?_)
      · skip
        refine lv_aload_n hx hb dX6_unitsDiffer_65 rfl (lv_at hl 0 rfl) ?_
        refine va_get (D := (dC, dI)) (ci := 6) (v := .ref (ma 23)) (C := RX6) (T := TX6) (N := 44) hx hb hts kt_X6 hown hK hP 0 rfl rfl 23 (by decide) (kx_word hG kq_05_morder_3 rfl) (fun _ h9 => h9) rfl dX6_unitsDiffer_66 ?_
        refine lv_iconst (v := iz 0) hx hb dX6_unitsDiffer_69 (by decide) ?_
        refine ki_iald (F := F 23) hx hb hK hP 18 17 rfl rfl (by omega) (by omega) (by decide) dX6_unitsDiffer_70 ?_
        refine lv_aload_n hx hb dX6_unitsDiffer_71 rfl (lv_at hl 0 rfl) ?_
        refine va_get (D := (dC, dI)) (ci := 6) (v := .ref (ma 23)) (C := RX6) (T := TX6) (N := 44) hx hb hts kt_X6 hown hK hP 0 rfl rfl 23 (by decide) (kx_word hG kq_05_morder_3 rfl) (fun _ h9 => h9) rfl dX6_unitsDiffer_72 ?_
        refine lv_iconst (v := iz 1) hx hb dX6_unitsDiffer_75 (by decide) ?_
        refine ki_iald (F := F 23) hx hb hK hP 18 17 rfl rfl (by omega) (by omega) (by decide) dX6_unitsDiffer_76 ?_
        refine ki_icmp_le (tgt := 84) hx hb dX6_unitsDiffer_77 (by decide) (by omega) (by omega) (by omega) (by omega) (fun c_19 => ?_) (fun c_19 => ?_)
        · skip
          refine lv_iconst (v := iz 0) hx hb dX6_unitsDiffer_84 (by decide) ?_
          rw [← hQe]
          exact mk_ireti hx hb hr hlocks hP hD hK hS dX6_unitsDiffer_85 (⟨rfl, rfl, by omega⟩)
        · skip
          refine lv_iconst (v := iz 1) hx hb dX6_unitsDiffer_80 (by decide) ?_
          refine lv_goto (tgt := 85) hx hb dX6_unitsDiffer_81 (by decide) ?_
          rw [← hQe]
          exact mk_ireti hx hb hr hlocks hP hD hK hS dX6_unitsDiffer_85 (⟨rfl, rfl, by omega⟩)
      · skip
        refine lv_iconst (v := iz (-1)) hx hb dX6_unitsDiffer_61 (by decide) ?_
        refine lv_goto (tgt := 85) hx hb dX6_unitsDiffer_62 (by decide) ?_
        rw [← hQe]
        exact mk_ireti hx hb hr hlocks hP hD hK hS dX6_unitsDiffer_85 (⟨rfl, rfl, by omega⟩)
  · skip
    refine lv_aload_n hx hb dX6_unitsDiffer_15 rfl (lv_at hl 0 rfl) ?_
    refine va_get (D := (dC, dI)) (ci := 6) (v := .ref (ma 22)) (C := RX6) (T := TX6) (N := 44) hx hb hts kt_X6 hown hK hP 0 rfl rfl 22 (by decide) (kx_word hG kq_05_morder_2 rfl) (fun _ h9 => h9) rfl dX6_unitsDiffer_16 ?_
    refine lv_iconst (v := iz 0) hx hb dX6_unitsDiffer_19 (by decide) ?_
    refine ki_iald (F := F 22) hx hb hK hP 17 16 rfl rfl (by omega) (by omega) (by decide) dX6_unitsDiffer_20 ?_
    refine lv_aload_n hx hb dX6_unitsDiffer_21 rfl (lv_at hl 0 rfl) ?_
    refine va_get (D := (dC, dI)) (ci := 6) (v := .ref (ma 22)) (C := RX6) (T := TX6) (N := 44) hx hb hts kt_X6 hown hK hP 0 rfl rfl 22 (by decide) (kx_word hG kq_05_morder_2 rfl) (fun _ h9 => h9) rfl dX6_unitsDiffer_22 ?_
    refine lv_iconst (v := iz 1) hx hb dX6_unitsDiffer_25 (by decide) ?_
    refine ki_iald (F := F 22) hx hb hK hP 17 16 rfl rfl (by omega) (by omega) (by decide) dX6_unitsDiffer_26 ?_
    refine ki_icmp_ge (tgt := 34) hx hb dX6_unitsDiffer_27 (by decide) (by omega) (by omega) (by omega) (by omega) (fun c_20 => ?_) (fun c_20 => ?_)
    · skip
      refine lv_iconst (v := iz 1) hx hb dX6_unitsDiffer_34 (by decide) ?_
      rw [← hQe]
      exact mk_ireti hx hb hr hlocks hP hD hK hS dX6_unitsDiffer_35 (⟨rfl, rfl, by omega⟩)
    · skip
      refine lv_iconst (v := iz (-1)) hx hb dX6_unitsDiffer_30 (by decide) ?_
      refine lv_goto (tgt := 35) hx hb dX6_unitsDiffer_31 (by decide) ?_
      rw [← hQe]
      exact mk_ireti hx hb hr hlocks hP hD hK hS dX6_unitsDiffer_35 (⟨rfl, rfl, by omega⟩)
set_option maxHeartbeats 4000000 in
set_option maxRecDepth 100000 in
theorem k_signsDiffer (l : Launch) (dC : Nat → ClassId) (dI : Nat → Nat → Nat) (ca : Int) (da : Int) (sz : Nat) (hca1 : -2147483648 ≤ ca) (hca2 : ca < 2147483648) (hda1 : -2147483648 ≤ da) (hda2 : da < 2147483648) : mMs l yX6_signsDiffer (.code yX6_signsDiffer cX6_signsDiffer 4 (some .int)) 1 21 dC dI [.int (iz ca), .int (iz da)] sz (fun (r : Int) => -1 ≤ r ∧ r ≤ 1) := by
  refine Met.ofW (cc := cX6_signsDiffer) (maxL := 4) (ret := (some .int)) (by decide) rfl ?_
  intro p e s m args below meth c s₁ B hml hv
  obtain ⟨rfl, hsz, hP, hK, hD0, hG, hZ⟩ := hv
  have hx := B.exec
  have hb := B.bytes
  have hr := B.returns
  have hts := kx_hts (a := ([.int (iz ca), .int (iz da)] : List Value).toArray) hG
  have hown : s.vm.findClass RX6 = some m.cls := findClass_of_methodNamed B.named
  have hlocks := B.notSynchronized
  subst hsz
  have hD := hD0.self (sz := s.heap.size)
  generalize hAe : va_A [] s.heap.size = A at hD hZ ⊢
  have hA : ∀ q : Nat, s.heap.size ≤ q → A q := fun q h => by rw [← hAe]; exact Or.inr h
  have hS : va_S A s.heap s.heap [] := va_S.rf
  have hl := lv_entry ([.int (iz ca), .int (iz da)]) (n := 4) (Nat.le_of_ble_eq_true rfl)
  rw [lg_entry_eq]
  generalize (lg_sl ([.int (iz ca), .int (iz da)]) ++ List.replicate (4 - (lg_sl ([.int (iz ca), .int (iz da)])).length) Slot.unset).toArray = ls at hl ⊢
  have hl : lv_has ls 4 [(0, .int (iz ca)), (1, .int (iz da))] := hl
  refine lv_iload_n hx hb dX6_signsDiffer_0 rfl (lv_at hl 0 rfl) ?_
  refine mk_calls (As := [.int (iz ca)]) (rest := []) ⟨hx, hb, hml, hown, hts⟩ (k_letterOf l dC dI ca s.heap.size (by omega) (by omega)) (va_cwS 1 hts (kx_gS kq_05_morder_5 kq_05_morder_6 kq_04_msmall_6 kq_05_morder_7 rfl) rfl rfl rfl (by decide +kernel) ⟨Nat.le_of_ble_eq_true rfl, Nat.le_of_ble_eq_true rfl⟩) hP hD hK hG hZ hS hA rfl hl.1 rfl (Nat.le_of_ble_eq_true rfl) dX6_signsDiffer_1 ⟨Nat.le_of_ble_eq_true rfl, Nat.le_of_ble_eq_true rfl⟩ (fun z_1 H locs hq_2 hP hS => ?_)
  try dsimp only at hq_2
  refine ki_if_le (tgt := 14) hx hb dX6_signsDiffer_4 (by decide) (by omega) (by omega) (fun c_3 => ?_) (fun c_3 => ?_)
  · skip
    refine lv_iload_n hx hb dX6_signsDiffer_14 rfl (lv_at hl 0 rfl) ?_
    refine lv_sipush (v := iz 128) hx hb dX6_signsDiffer_15 (by decide) ?_
    refine lv_irem hx hb dX6_signsDiffer_18 (show ¬ iz 128 = 0 by decide) ?_
    refine ki_any (fun z_4 hz_4a hz_4b => ?_)
    refine lv_istore_n (lv' := [(2, .int (iz z_4)), (0, .int (iz ca)), (1, .int (iz da))]) hx hb dX6_signsDiffer_19 rfl hl (by decide) rfl (fun ls hl => ?_)
    refine lv_iload_n hx hb dX6_signsDiffer_20 rfl (lv_at hl 2 rfl) ?_
    refine mk_calls (As := [.int (iz da)]) (rest := []) ⟨hx, hb, hml, hown, hts⟩ (k_letterOf l dC dI da H.size (by omega) (by omega)) (va_cwS 1 hts (kx_gS kq_05_morder_5 kq_05_morder_6 kq_04_msmall_6 kq_05_morder_7 rfl) rfl rfl rfl (by decide +kernel) ⟨Nat.le_of_ble_eq_true rfl, Nat.le_of_ble_eq_true rfl⟩) hP hD hK hG hZ hS hA rfl hl.1 rfl (Nat.le_of_ble_eq_true rfl) dX6_signsDiffer_21 ⟨Nat.le_of_ble_eq_true rfl, Nat.le_of_ble_eq_true rfl⟩ (fun z_5 H locs hq_6 hP hS => ?_)
    try dsimp only at hq_6
    refine ki_if_le (tgt := 34) hx hb dX6_signsDiffer_24 (by decide) (by omega) (by omega) (fun c_7 => ?_) (fun c_7 => ?_)
    · skip
      refine lv_iload_n hx hb dX6_signsDiffer_34 rfl (lv_at hl 2 rfl) ?_
      refine lv_sipush (v := iz 128) hx hb dX6_signsDiffer_35 (by decide) ?_
      refine lv_irem hx hb dX6_signsDiffer_38 (show ¬ iz 128 = 0 by decide) ?_
      refine ki_any (fun z_8 hz_8a hz_8b => ?_)
      refine lv_istore_n (lv' := [(3, .int (iz z_8)), (2, .int (iz z_4)), (0, .int (iz ca)), (1, .int (iz da))]) hx hb dX6_signsDiffer_39 rfl hl (by decide) rfl (fun ls hl => ?_)
      refine lv_iload_n hx hb dX6_signsDiffer_40 rfl (lv_at hl 1 rfl) ?_
      refine lv_iload_n hx hb dX6_signsDiffer_41 rfl (lv_at hl 0 rfl) ?_
      refine ki_icmp_eq (tgt := 56) hx hb dX6_signsDiffer_42 (by decide) (by omega) (by omega) (by omega) (by omega) (fun c_9 => ?_) (fun c_9 => ?_)
      · skip
        refine lv_iload_n hx hb dX6_signsDiffer_56 rfl (lv_at hl 2 rfl) ?_
        refine lv_sipush (v := iz 128) hx hb dX6_signsDiffer_57 (by decide) ?_
        refine lv_irem hx hb dX6_signsDiffer_60 (show ¬ iz 128 = 0 by decide) ?_
        refine ki_any (fun z_10 hz_10a hz_10b => ?_)
        refine lv_iload_n hx hb dX6_signsDiffer_61 rfl (lv_at hl 3 rfl) ?_
        refine lv_sipush (v := iz 128) hx hb dX6_signsDiffer_62 (by decide) ?_
        refine lv_irem hx hb dX6_signsDiffer_65 (show ¬ iz 128 = 0 by decide) ?_
        refine ki_any (fun z_11 hz_11a hz_11b => ?_)
        refine ki_icmp_eq (tgt := 88) hx hb dX6_signsDiffer_66 (by decide) (by omega) (by omega) (by omega) (by omega) (fun c_12 => ?_) (fun c_12 => ?_)
        · skip
          refine lv_iload_n hx hb dX6_signsDiffer_88 rfl (lv_at hl 2 rfl) ?_
          refine lv_iload_n hx hb dX6_signsDiffer_89 rfl (lv_at hl 3 rfl) ?_
          refine ki_icmp_ge (tgt := 97) hx hb dX6_signsDiffer_90 (by decide) (by omega) (by omega) (by omega) (by omega) (fun c_13 => ?_) (fun c_13 => ?_)
          · skip
            refine lv_iload_n hx hb dX6_signsDiffer_97 rfl (lv_at hl 2 rfl) ?_
            refine lv_iload_n hx hb dX6_signsDiffer_98 rfl (lv_at hl 3 rfl) ?_
            refine ki_icmp_le (tgt := 106) hx hb dX6_signsDiffer_99 (by decide) (by omega) (by omega) (by omega) (by omega) (fun c_14 => ?_) (fun c_14 => ?_)
            · skip
              refine lv_iconst (v := iz 0) hx hb dX6_signsDiffer_106 (by decide) ?_
              exact W.iret (v := iz 0) hx hb hr (fun t ht hW => ⟨⟨iz 0, 0, rfl, ⟨rfl, by omega⟩, by rw [ht]; exact hP, va_K.moved hW.alike hK, hD⟩, hS.F ht⟩) hS.2.2 dX6_signsDiffer_107
            · skip
              refine lv_iconst (v := iz 1) hx hb dX6_signsDiffer_102 (by decide) ?_
              refine lv_goto (tgt := 107) hx hb dX6_signsDiffer_103 (by decide) ?_
              exact W.iret (v := iz 1) hx hb hr (fun t ht hW => ⟨⟨iz 1, 1, rfl, ⟨rfl, by omega⟩, by rw [ht]; exact hP, va_K.moved hW.alike hK, hD⟩, hS.F ht⟩) hS.2.2 dX6_signsDiffer_107
          · skip
            refine lv_iconst (v := iz (-1)) hx hb dX6_signsDiffer_93 (by decide) ?_
            refine lv_goto (tgt := 107) hx hb dX6_signsDiffer_94 (by decide) ?_
            exact W.iret (v := iz (-1)) hx hb hr (fun t ht hW => ⟨⟨iz (-1), (-1), rfl, ⟨rfl, by omega⟩, by rw [ht]; exact hP, va_K.moved hW.alike hK, hD⟩, hS.F ht⟩) hS.2.2 dX6_signsDiffer_107
        · skip
          refine lv_iload_n hx hb dX6_signsDiffer_69 rfl (lv_at hl 2 rfl) ?_
          refine lv_sipush (v := iz 128) hx hb dX6_signsDiffer_70 (by decide) ?_
          refine lv_irem hx hb dX6_signsDiffer_73 (show ¬ iz 128 = 0 by decide) ?_
          refine ki_any (fun z_15 hz_15a hz_15b => ?_)
          refine lv_iload_n hx hb dX6_signsDiffer_74 rfl (lv_at hl 3 rfl) ?_
          refine lv_sipush (v := iz 128) hx hb dX6_signsDiffer_75 (by decide) ?_
          refine lv_irem hx hb dX6_signsDiffer_78 (show ¬ iz 128 = 0 by decide) ?_
          refine ki_any (fun z_16 hz_16a hz_16b => ?_)
          refine ki_icmp_le (tgt := 86) hx hb dX6_signsDiffer_79 (by decide) (by omega) (by omega) (by omega) (by omega) (fun c_17 => ?_) (fun c_17 => ?_)
          · skip
            refine lv_iconst (v := iz 1) hx hb dX6_signsDiffer_86 (by decide) ?_
            exact W.iret (v := iz 1) hx hb hr (fun t ht hW => ⟨⟨iz 1, 1, rfl, ⟨rfl, by omega⟩, by rw [ht]; exact hP, va_K.moved hW.alike hK, hD⟩, hS.F ht⟩) hS.2.2 dX6_signsDiffer_87
          · skip
            refine lv_iconst (v := iz (-1)) hx hb dX6_signsDiffer_82 (by decide) ?_
            refine lv_goto (tgt := 87) hx hb dX6_signsDiffer_83 (by decide) ?_
            exact W.iret (v := iz (-1)) hx hb hr (fun t ht hW => ⟨⟨iz (-1), (-1), rfl, ⟨rfl, by omega⟩, by rw [ht]; exact hP, va_K.moved hW.alike hK, hD⟩, hS.F ht⟩) hS.2.2 dX6_signsDiffer_87
      · skip
        refine lv_iload_n hx hb dX6_signsDiffer_45 rfl (lv_at hl 1 rfl) ?_
        refine lv_iload_n hx hb dX6_signsDiffer_46 rfl (lv_at hl 0 rfl) ?_
        refine ki_icmp_ge (tgt := 54) hx hb dX6_signsDiffer_47 (by decide) (by omega) (by omega) (by omega) (by omega) (fun c_18 => ?_) (fun c_18 => ?_)
        · skip
          refine lv_iconst (v := iz 1) hx hb dX6_signsDiffer_54 (by decide) ?_
          exact W.iret (v := iz 1) hx hb hr (fun t ht hW => ⟨⟨iz 1, 1, rfl, ⟨rfl, by omega⟩, by rw [ht]; exact hP, va_K.moved hW.alike hK, hD⟩, hS.F ht⟩) hS.2.2 dX6_signsDiffer_55
        · skip
          refine lv_iconst (v := iz (-1)) hx hb dX6_signsDiffer_50 (by decide) ?_
          refine lv_goto (tgt := 55) hx hb dX6_signsDiffer_51 (by decide) ?_
          exact W.iret (v := iz (-1)) hx hb hr (fun t ht hW => ⟨⟨iz (-1), (-1), rfl, ⟨rfl, by omega⟩, by rw [ht]; exact hP, va_K.moved hW.alike hK, hD⟩, hS.F ht⟩) hS.2.2 dX6_signsDiffer_55
    · skip
      refine lv_iload_n hx hb dX6_signsDiffer_27 rfl (lv_at hl 2 rfl) ?_
      refine mk_calls (As := [.int (iz da)]) (rest := []) ⟨hx, hb, hml, hown, hts⟩ (k_letterOf l dC dI da H.size (by omega) (by omega)) (va_cwS 1 hts (kx_gS kq_05_morder_5 kq_05_morder_6 kq_04_msmall_6 kq_05_morder_7 rfl) rfl rfl rfl (by decide +kernel) ⟨Nat.le_of_ble_eq_true rfl, Nat.le_of_ble_eq_true rfl⟩) hP hD hK hG hZ hS hA rfl hl.1 rfl (Nat.le_of_ble_eq_true rfl) dX6_signsDiffer_28 ⟨Nat.le_of_ble_eq_true rfl, Nat.le_of_ble_eq_true rfl⟩ (fun z_19 H locs hq_20 hP hS => ?_)
      try dsimp only at hq_20
      refine lv_goto (tgt := 39) hx hb dX6_signsDiffer_31 (by decide) ?_
      refine lv_istore_n (lv' := [(3, .int (iz z_19)), (2, .int (iz z_4)), (0, .int (iz ca)), (1, .int (iz da))]) hx hb dX6_signsDiffer_39 rfl hl (by decide) rfl (fun ls hl => ?_)
      refine lv_iload_n hx hb dX6_signsDiffer_40 rfl (lv_at hl 1 rfl) ?_
      refine lv_iload_n hx hb dX6_signsDiffer_41 rfl (lv_at hl 0 rfl) ?_
      refine ki_icmp_eq (tgt := 56) hx hb dX6_signsDiffer_42 (by decide) (by omega) (by omega) (by omega) (by omega) (fun c_21 => ?_) (fun c_21 => ?_)
      · skip
        refine lv_iload_n hx hb dX6_signsDiffer_56 rfl (lv_at hl 2 rfl) ?_
        refine lv_sipush (v := iz 128) hx hb dX6_signsDiffer_57 (by decide) ?_
        refine lv_irem hx hb dX6_signsDiffer_60 (show ¬ iz 128 = 0 by decide) ?_
        refine ki_any (fun z_22 hz_22a hz_22b => ?_)
        refine lv_iload_n hx hb dX6_signsDiffer_61 rfl (lv_at hl 3 rfl) ?_
        refine lv_sipush (v := iz 128) hx hb dX6_signsDiffer_62 (by decide) ?_
        refine lv_irem hx hb dX6_signsDiffer_65 (show ¬ iz 128 = 0 by decide) ?_
        refine ki_any (fun z_23 hz_23a hz_23b => ?_)
        refine ki_icmp_eq (tgt := 88) hx hb dX6_signsDiffer_66 (by decide) (by omega) (by omega) (by omega) (by omega) (fun c_24 => ?_) (fun c_24 => ?_)
        · skip
          refine lv_iload_n hx hb dX6_signsDiffer_88 rfl (lv_at hl 2 rfl) ?_
          refine lv_iload_n hx hb dX6_signsDiffer_89 rfl (lv_at hl 3 rfl) ?_
          refine ki_icmp_ge (tgt := 97) hx hb dX6_signsDiffer_90 (by decide) (by omega) (by omega) (by omega) (by omega) (fun c_25 => ?_) (fun c_25 => ?_)
          · skip
            refine lv_iload_n hx hb dX6_signsDiffer_97 rfl (lv_at hl 2 rfl) ?_
            refine lv_iload_n hx hb dX6_signsDiffer_98 rfl (lv_at hl 3 rfl) ?_
            refine ki_icmp_le (tgt := 106) hx hb dX6_signsDiffer_99 (by decide) (by omega) (by omega) (by omega) (by omega) (fun c_26 => ?_) (fun c_26 => ?_)
            · skip
              refine lv_iconst (v := iz 0) hx hb dX6_signsDiffer_106 (by decide) ?_
              exact W.iret (v := iz 0) hx hb hr (fun t ht hW => ⟨⟨iz 0, 0, rfl, ⟨rfl, by omega⟩, by rw [ht]; exact hP, va_K.moved hW.alike hK, hD⟩, hS.F ht⟩) hS.2.2 dX6_signsDiffer_107
            · skip
              refine lv_iconst (v := iz 1) hx hb dX6_signsDiffer_102 (by decide) ?_
              refine lv_goto (tgt := 107) hx hb dX6_signsDiffer_103 (by decide) ?_
              exact W.iret (v := iz 1) hx hb hr (fun t ht hW => ⟨⟨iz 1, 1, rfl, ⟨rfl, by omega⟩, by rw [ht]; exact hP, va_K.moved hW.alike hK, hD⟩, hS.F ht⟩) hS.2.2 dX6_signsDiffer_107
          · skip
            refine lv_iconst (v := iz (-1)) hx hb dX6_signsDiffer_93 (by decide) ?_
            refine lv_goto (tgt := 107) hx hb dX6_signsDiffer_94 (by decide) ?_
            exact W.iret (v := iz (-1)) hx hb hr (fun t ht hW => ⟨⟨iz (-1), (-1), rfl, ⟨rfl, by omega⟩, by rw [ht]; exact hP, va_K.moved hW.alike hK, hD⟩, hS.F ht⟩) hS.2.2 dX6_signsDiffer_107
        · skip
          refine lv_iload_n hx hb dX6_signsDiffer_69 rfl (lv_at hl 2 rfl) ?_
          refine lv_sipush (v := iz 128) hx hb dX6_signsDiffer_70 (by decide) ?_
          refine lv_irem hx hb dX6_signsDiffer_73 (show ¬ iz 128 = 0 by decide) ?_
          refine ki_any (fun z_27 hz_27a hz_27b => ?_)
          refine lv_iload_n hx hb dX6_signsDiffer_74 rfl (lv_at hl 3 rfl) ?_
          refine lv_sipush (v := iz 128) hx hb dX6_signsDiffer_75 (by decide) ?_
          refine lv_irem hx hb dX6_signsDiffer_78 (show ¬ iz 128 = 0 by decide) ?_
          refine ki_any (fun z_28 hz_28a hz_28b => ?_)
          refine ki_icmp_le (tgt := 86) hx hb dX6_signsDiffer_79 (by decide) (by omega) (by omega) (by omega) (by omega) (fun c_29 => ?_) (fun c_29 => ?_)
          · skip
            refine lv_iconst (v := iz 1) hx hb dX6_signsDiffer_86 (by decide) ?_
            exact W.iret (v := iz 1) hx hb hr (fun t ht hW => ⟨⟨iz 1, 1, rfl, ⟨rfl, by omega⟩, by rw [ht]; exact hP, va_K.moved hW.alike hK, hD⟩, hS.F ht⟩) hS.2.2 dX6_signsDiffer_87
          · skip
            refine lv_iconst (v := iz (-1)) hx hb dX6_signsDiffer_82 (by decide) ?_
            refine lv_goto (tgt := 87) hx hb dX6_signsDiffer_83 (by decide) ?_
            exact W.iret (v := iz (-1)) hx hb hr (fun t ht hW => ⟨⟨iz (-1), (-1), rfl, ⟨rfl, by omega⟩, by rw [ht]; exact hP, va_K.moved hW.alike hK, hD⟩, hS.F ht⟩) hS.2.2 dX6_signsDiffer_87
      · skip
        refine lv_iload_n hx hb dX6_signsDiffer_45 rfl (lv_at hl 1 rfl) ?_
        refine lv_iload_n hx hb dX6_signsDiffer_46 rfl (lv_at hl 0 rfl) ?_
        refine ki_icmp_ge (tgt := 54) hx hb dX6_signsDiffer_47 (by decide) (by omega) (by omega) (by omega) (by omega) (fun c_30 => ?_) (fun c_30 => ?_)
        · skip
          refine lv_iconst (v := iz 1) hx hb dX6_signsDiffer_54 (by decide) ?_
          exact W.iret (v := iz 1) hx hb hr (fun t ht hW => ⟨⟨iz 1, 1, rfl, ⟨rfl, by omega⟩, by rw [ht]; exact hP, va_K.moved hW.alike hK, hD⟩, hS.F ht⟩) hS.2.2 dX6_signsDiffer_55
        · skip
          refine lv_iconst (v := iz (-1)) hx hb dX6_signsDiffer_50 (by decide) ?_
          refine lv_goto (tgt := 55) hx hb dX6_signsDiffer_51 (by decide) ?_
          exact W.iret (v := iz (-1)) hx hb hr (fun t ht hW => ⟨⟨iz (-1), (-1), rfl, ⟨rfl, by omega⟩, by rw [ht]; exact hP, va_K.moved hW.alike hK, hD⟩, hS.F ht⟩) hS.2.2 dX6_signsDiffer_55
  · skip
    refine lv_iload_n hx hb dX6_signsDiffer_7 rfl (lv_at hl 0 rfl) ?_
    refine mk_calls (As := [.int (iz ca)]) (rest := []) ⟨hx, hb, hml, hown, hts⟩ (k_letterOf l dC dI ca H.size (by omega) (by omega)) (va_cwS 1 hts (kx_gS kq_05_morder_5 kq_05_morder_6 kq_04_msmall_6 kq_05_morder_7 rfl) rfl rfl rfl (by decide +kernel) ⟨Nat.le_of_ble_eq_true rfl, Nat.le_of_ble_eq_true rfl⟩) hP hD hK hG hZ hS hA rfl hl.1 rfl (Nat.le_of_ble_eq_true rfl) dX6_signsDiffer_8 ⟨Nat.le_of_ble_eq_true rfl, Nat.le_of_ble_eq_true rfl⟩ (fun z_31 H locs hq_32 hP hS => ?_)
    try dsimp only at hq_32
    refine lv_goto (tgt := 19) hx hb dX6_signsDiffer_11 (by decide) ?_
    refine lv_istore_n (lv' := [(2, .int (iz z_31)), (0, .int (iz ca)), (1, .int (iz da))]) hx hb dX6_signsDiffer_19 rfl hl (by decide) rfl (fun ls hl => ?_)
    refine lv_iload_n hx hb dX6_signsDiffer_20 rfl (lv_at hl 2 rfl) ?_
    refine mk_calls (As := [.int (iz da)]) (rest := []) ⟨hx, hb, hml, hown, hts⟩ (k_letterOf l dC dI da H.size (by omega) (by omega)) (va_cwS 1 hts (kx_gS kq_05_morder_5 kq_05_morder_6 kq_04_msmall_6 kq_05_morder_7 rfl) rfl rfl rfl (by decide +kernel) ⟨Nat.le_of_ble_eq_true rfl, Nat.le_of_ble_eq_true rfl⟩) hP hD hK hG hZ hS hA rfl hl.1 rfl (Nat.le_of_ble_eq_true rfl) dX6_signsDiffer_21 ⟨Nat.le_of_ble_eq_true rfl, Nat.le_of_ble_eq_true rfl⟩ (fun z_33 H locs hq_34 hP hS => ?_)
    try dsimp only at hq_34
    refine ki_if_le (tgt := 34) hx hb dX6_signsDiffer_24 (by decide) (by omega) (by omega) (fun c_35 => ?_) (fun c_35 => ?_)
    · skip
      refine lv_iload_n hx hb dX6_signsDiffer_34 rfl (lv_at hl 2 rfl) ?_
      refine lv_sipush (v := iz 128) hx hb dX6_signsDiffer_35 (by decide) ?_
      refine lv_irem hx hb dX6_signsDiffer_38 (show ¬ iz 128 = 0 by decide) ?_
      refine ki_any (fun z_36 hz_36a hz_36b => ?_)
      refine lv_istore_n (lv' := [(3, .int (iz z_36)), (2, .int (iz z_31)), (0, .int (iz ca)), (1, .int (iz da))]) hx hb dX6_signsDiffer_39 rfl hl (by decide) rfl (fun ls hl => ?_)
      refine lv_iload_n hx hb dX6_signsDiffer_40 rfl (lv_at hl 1 rfl) ?_
      refine lv_iload_n hx hb dX6_signsDiffer_41 rfl (lv_at hl 0 rfl) ?_
      refine ki_icmp_eq (tgt := 56) hx hb dX6_signsDiffer_42 (by decide) (by omega) (by omega) (by omega) (by omega) (fun c_37 => ?_) (fun c_37 => ?_)
      · skip
        refine lv_iload_n hx hb dX6_signsDiffer_56 rfl (lv_at hl 2 rfl) ?_
        refine lv_sipush (v := iz 128) hx hb dX6_signsDiffer_57 (by decide) ?_
        refine lv_irem hx hb dX6_signsDiffer_60 (show ¬ iz 128 = 0 by decide) ?_
        refine ki_any (fun z_38 hz_38a hz_38b => ?_)
        refine lv_iload_n hx hb dX6_signsDiffer_61 rfl (lv_at hl 3 rfl) ?_
        refine lv_sipush (v := iz 128) hx hb dX6_signsDiffer_62 (by decide) ?_
        refine lv_irem hx hb dX6_signsDiffer_65 (show ¬ iz 128 = 0 by decide) ?_
        refine ki_any (fun z_39 hz_39a hz_39b => ?_)
        refine ki_icmp_eq (tgt := 88) hx hb dX6_signsDiffer_66 (by decide) (by omega) (by omega) (by omega) (by omega) (fun c_40 => ?_) (fun c_40 => ?_)
        · skip
          refine lv_iload_n hx hb dX6_signsDiffer_88 rfl (lv_at hl 2 rfl) ?_
          refine lv_iload_n hx hb dX6_signsDiffer_89 rfl (lv_at hl 3 rfl) ?_
          refine ki_icmp_ge (tgt := 97) hx hb dX6_signsDiffer_90 (by decide) (by omega) (by omega) (by omega) (by omega) (fun c_41 => ?_) (fun c_41 => ?_)
          · skip
            refine lv_iload_n hx hb dX6_signsDiffer_97 rfl (lv_at hl 2 rfl) ?_
            refine lv_iload_n hx hb dX6_signsDiffer_98 rfl (lv_at hl 3 rfl) ?_
            refine ki_icmp_le (tgt := 106) hx hb dX6_signsDiffer_99 (by decide) (by omega) (by omega) (by omega) (by omega) (fun c_42 => ?_) (fun c_42 => ?_)
            · skip
              refine lv_iconst (v := iz 0) hx hb dX6_signsDiffer_106 (by decide) ?_
              exact W.iret (v := iz 0) hx hb hr (fun t ht hW => ⟨⟨iz 0, 0, rfl, ⟨rfl, by omega⟩, by rw [ht]; exact hP, va_K.moved hW.alike hK, hD⟩, hS.F ht⟩) hS.2.2 dX6_signsDiffer_107
            · skip
              refine lv_iconst (v := iz 1) hx hb dX6_signsDiffer_102 (by decide) ?_
              refine lv_goto (tgt := 107) hx hb dX6_signsDiffer_103 (by decide) ?_
              exact W.iret (v := iz 1) hx hb hr (fun t ht hW => ⟨⟨iz 1, 1, rfl, ⟨rfl, by omega⟩, by rw [ht]; exact hP, va_K.moved hW.alike hK, hD⟩, hS.F ht⟩) hS.2.2 dX6_signsDiffer_107
          · skip
            refine lv_iconst (v := iz (-1)) hx hb dX6_signsDiffer_93 (by decide) ?_
            refine lv_goto (tgt := 107) hx hb dX6_signsDiffer_94 (by decide) ?_
            exact W.iret (v := iz (-1)) hx hb hr (fun t ht hW => ⟨⟨iz (-1), (-1), rfl, ⟨rfl, by omega⟩, by rw [ht]; exact hP, va_K.moved hW.alike hK, hD⟩, hS.F ht⟩) hS.2.2 dX6_signsDiffer_107
        · skip
          refine lv_iload_n hx hb dX6_signsDiffer_69 rfl (lv_at hl 2 rfl) ?_
          refine lv_sipush (v := iz 128) hx hb dX6_signsDiffer_70 (by decide) ?_
          refine lv_irem hx hb dX6_signsDiffer_73 (show ¬ iz 128 = 0 by decide) ?_
          refine ki_any (fun z_43 hz_43a hz_43b => ?_)
          refine lv_iload_n hx hb dX6_signsDiffer_74 rfl (lv_at hl 3 rfl) ?_
          refine lv_sipush (v := iz 128) hx hb dX6_signsDiffer_75 (by decide) ?_
          refine lv_irem hx hb dX6_signsDiffer_78 (show ¬ iz 128 = 0 by decide) ?_
          refine ki_any (fun z_44 hz_44a hz_44b => ?_)
          refine ki_icmp_le (tgt := 86) hx hb dX6_signsDiffer_79 (by decide) (by omega) (by omega) (by omega) (by omega) (fun c_45 => ?_) (fun c_45 => ?_)
          · skip
            refine lv_iconst (v := iz 1) hx hb dX6_signsDiffer_86 (by decide) ?_
            exact W.iret (v := iz 1) hx hb hr (fun t ht hW => ⟨⟨iz 1, 1, rfl, ⟨rfl, by omega⟩, by rw [ht]; exact hP, va_K.moved hW.alike hK, hD⟩, hS.F ht⟩) hS.2.2 dX6_signsDiffer_87
          · skip
            refine lv_iconst (v := iz (-1)) hx hb dX6_signsDiffer_82 (by decide) ?_
            refine lv_goto (tgt := 87) hx hb dX6_signsDiffer_83 (by decide) ?_
            exact W.iret (v := iz (-1)) hx hb hr (fun t ht hW => ⟨⟨iz (-1), (-1), rfl, ⟨rfl, by omega⟩, by rw [ht]; exact hP, va_K.moved hW.alike hK, hD⟩, hS.F ht⟩) hS.2.2 dX6_signsDiffer_87
      · skip
        refine lv_iload_n hx hb dX6_signsDiffer_45 rfl (lv_at hl 1 rfl) ?_
        refine lv_iload_n hx hb dX6_signsDiffer_46 rfl (lv_at hl 0 rfl) ?_
        refine ki_icmp_ge (tgt := 54) hx hb dX6_signsDiffer_47 (by decide) (by omega) (by omega) (by omega) (by omega) (fun c_46 => ?_) (fun c_46 => ?_)
        · skip
          refine lv_iconst (v := iz 1) hx hb dX6_signsDiffer_54 (by decide) ?_
          exact W.iret (v := iz 1) hx hb hr (fun t ht hW => ⟨⟨iz 1, 1, rfl, ⟨rfl, by omega⟩, by rw [ht]; exact hP, va_K.moved hW.alike hK, hD⟩, hS.F ht⟩) hS.2.2 dX6_signsDiffer_55
        · skip
          refine lv_iconst (v := iz (-1)) hx hb dX6_signsDiffer_50 (by decide) ?_
          refine lv_goto (tgt := 55) hx hb dX6_signsDiffer_51 (by decide) ?_
          exact W.iret (v := iz (-1)) hx hb hr (fun t ht hW => ⟨⟨iz (-1), (-1), rfl, ⟨rfl, by omega⟩, by rw [ht]; exact hP, va_K.moved hW.alike hK, hD⟩, hS.F ht⟩) hS.2.2 dX6_signsDiffer_55
    · skip
      refine lv_iload_n hx hb dX6_signsDiffer_27 rfl (lv_at hl 2 rfl) ?_
      refine mk_calls (As := [.int (iz da)]) (rest := []) ⟨hx, hb, hml, hown, hts⟩ (k_letterOf l dC dI da H.size (by omega) (by omega)) (va_cwS 1 hts (kx_gS kq_05_morder_5 kq_05_morder_6 kq_04_msmall_6 kq_05_morder_7 rfl) rfl rfl rfl (by decide +kernel) ⟨Nat.le_of_ble_eq_true rfl, Nat.le_of_ble_eq_true rfl⟩) hP hD hK hG hZ hS hA rfl hl.1 rfl (Nat.le_of_ble_eq_true rfl) dX6_signsDiffer_28 ⟨Nat.le_of_ble_eq_true rfl, Nat.le_of_ble_eq_true rfl⟩ (fun z_47 H locs hq_48 hP hS => ?_)
      try dsimp only at hq_48
      refine lv_goto (tgt := 39) hx hb dX6_signsDiffer_31 (by decide) ?_
      refine lv_istore_n (lv' := [(3, .int (iz z_47)), (2, .int (iz z_31)), (0, .int (iz ca)), (1, .int (iz da))]) hx hb dX6_signsDiffer_39 rfl hl (by decide) rfl (fun ls hl => ?_)
      refine lv_iload_n hx hb dX6_signsDiffer_40 rfl (lv_at hl 1 rfl) ?_
      refine lv_iload_n hx hb dX6_signsDiffer_41 rfl (lv_at hl 0 rfl) ?_
      refine ki_icmp_eq (tgt := 56) hx hb dX6_signsDiffer_42 (by decide) (by omega) (by omega) (by omega) (by omega) (fun c_49 => ?_) (fun c_49 => ?_)
      · skip
        refine lv_iload_n hx hb dX6_signsDiffer_56 rfl (lv_at hl 2 rfl) ?_
        refine lv_sipush (v := iz 128) hx hb dX6_signsDiffer_57 (by decide) ?_
        refine lv_irem hx hb dX6_signsDiffer_60 (show ¬ iz 128 = 0 by decide) ?_
        refine ki_any (fun z_50 hz_50a hz_50b => ?_)
        refine lv_iload_n hx hb dX6_signsDiffer_61 rfl (lv_at hl 3 rfl) ?_
        refine lv_sipush (v := iz 128) hx hb dX6_signsDiffer_62 (by decide) ?_
        refine lv_irem hx hb dX6_signsDiffer_65 (show ¬ iz 128 = 0 by decide) ?_
        refine ki_any (fun z_51 hz_51a hz_51b => ?_)
        refine ki_icmp_eq (tgt := 88) hx hb dX6_signsDiffer_66 (by decide) (by omega) (by omega) (by omega) (by omega) (fun c_52 => ?_) (fun c_52 => ?_)
        · skip
          refine lv_iload_n hx hb dX6_signsDiffer_88 rfl (lv_at hl 2 rfl) ?_
          refine lv_iload_n hx hb dX6_signsDiffer_89 rfl (lv_at hl 3 rfl) ?_
          refine ki_icmp_ge (tgt := 97) hx hb dX6_signsDiffer_90 (by decide) (by omega) (by omega) (by omega) (by omega) (fun c_53 => ?_) (fun c_53 => ?_)
          · skip
            refine lv_iload_n hx hb dX6_signsDiffer_97 rfl (lv_at hl 2 rfl) ?_
            refine lv_iload_n hx hb dX6_signsDiffer_98 rfl (lv_at hl 3 rfl) ?_
            refine ki_icmp_le (tgt := 106) hx hb dX6_signsDiffer_99 (by decide) (by omega) (by omega) (by omega) (by omega) (fun c_54 => ?_) (fun c_54 => ?_)
            · skip
              refine lv_iconst (v := iz 0) hx hb dX6_signsDiffer_106 (by decide) ?_
              exact W.iret (v := iz 0) hx hb hr (fun t ht hW => ⟨⟨iz 0, 0, rfl, ⟨rfl, by omega⟩, by rw [ht]; exact hP, va_K.moved hW.alike hK, hD⟩, hS.F ht⟩) hS.2.2 dX6_signsDiffer_107
            · skip
              refine lv_iconst (v := iz 1) hx hb dX6_signsDiffer_102 (by decide) ?_
              refine lv_goto (tgt := 107) hx hb dX6_signsDiffer_103 (by decide) ?_
              exact W.iret (v := iz 1) hx hb hr (fun t ht hW => ⟨⟨iz 1, 1, rfl, ⟨rfl, by omega⟩, by rw [ht]; exact hP, va_K.moved hW.alike hK, hD⟩, hS.F ht⟩) hS.2.2 dX6_signsDiffer_107
          · skip
            refine lv_iconst (v := iz (-1)) hx hb dX6_signsDiffer_93 (by decide) ?_
            refine lv_goto (tgt := 107) hx hb dX6_signsDiffer_94 (by decide) ?_
            exact W.iret (v := iz (-1)) hx hb hr (fun t ht hW => ⟨⟨iz (-1), (-1), rfl, ⟨rfl, by omega⟩, by rw [ht]; exact hP, va_K.moved hW.alike hK, hD⟩, hS.F ht⟩) hS.2.2 dX6_signsDiffer_107
        · skip
          refine lv_iload_n hx hb dX6_signsDiffer_69 rfl (lv_at hl 2 rfl) ?_
          refine lv_sipush (v := iz 128) hx hb dX6_signsDiffer_70 (by decide) ?_
          refine lv_irem hx hb dX6_signsDiffer_73 (show ¬ iz 128 = 0 by decide) ?_
          refine ki_any (fun z_55 hz_55a hz_55b => ?_)
          refine lv_iload_n hx hb dX6_signsDiffer_74 rfl (lv_at hl 3 rfl) ?_
          refine lv_sipush (v := iz 128) hx hb dX6_signsDiffer_75 (by decide) ?_
          refine lv_irem hx hb dX6_signsDiffer_78 (show ¬ iz 128 = 0 by decide) ?_
          refine ki_any (fun z_56 hz_56a hz_56b => ?_)
          refine ki_icmp_le (tgt := 86) hx hb dX6_signsDiffer_79 (by decide) (by omega) (by omega) (by omega) (by omega) (fun c_57 => ?_) (fun c_57 => ?_)
          · skip
            refine lv_iconst (v := iz 1) hx hb dX6_signsDiffer_86 (by decide) ?_
            exact W.iret (v := iz 1) hx hb hr (fun t ht hW => ⟨⟨iz 1, 1, rfl, ⟨rfl, by omega⟩, by rw [ht]; exact hP, va_K.moved hW.alike hK, hD⟩, hS.F ht⟩) hS.2.2 dX6_signsDiffer_87
          · skip
            refine lv_iconst (v := iz (-1)) hx hb dX6_signsDiffer_82 (by decide) ?_
            refine lv_goto (tgt := 87) hx hb dX6_signsDiffer_83 (by decide) ?_
            exact W.iret (v := iz (-1)) hx hb hr (fun t ht hW => ⟨⟨iz (-1), (-1), rfl, ⟨rfl, by omega⟩, by rw [ht]; exact hP, va_K.moved hW.alike hK, hD⟩, hS.F ht⟩) hS.2.2 dX6_signsDiffer_87
      · skip
        refine lv_iload_n hx hb dX6_signsDiffer_45 rfl (lv_at hl 1 rfl) ?_
        refine lv_iload_n hx hb dX6_signsDiffer_46 rfl (lv_at hl 0 rfl) ?_
        refine ki_icmp_ge (tgt := 54) hx hb dX6_signsDiffer_47 (by decide) (by omega) (by omega) (by omega) (by omega) (fun c_58 => ?_) (fun c_58 => ?_)
        · skip
          refine lv_iconst (v := iz 1) hx hb dX6_signsDiffer_54 (by decide) ?_
          exact W.iret (v := iz 1) hx hb hr (fun t ht hW => ⟨⟨iz 1, 1, rfl, ⟨rfl, by omega⟩, by rw [ht]; exact hP, va_K.moved hW.alike hK, hD⟩, hS.F ht⟩) hS.2.2 dX6_signsDiffer_55
        · skip
          refine lv_iconst (v := iz (-1)) hx hb dX6_signsDiffer_50 (by decide) ?_
          refine lv_goto (tgt := 55) hx hb dX6_signsDiffer_51 (by decide) ?_
          exact W.iret (v := iz (-1)) hx hb hr (fun t ht hW => ⟨⟨iz (-1), (-1), rfl, ⟨rfl, by omega⟩, by rw [ht]; exact hP, va_K.moved hW.alike hK, hD⟩, hS.F ht⟩) hS.2.2 dX6_signsDiffer_55
