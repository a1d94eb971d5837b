/-! the reference: its small methods -/
theorem iz_lo (x : Int32) : -2147483648 ≤ x.toInt := by have := x.le_toInt; omega
theorem iz_hi (x : Int32) : x.toInt < 2147483648 := by have := x.toInt_lt; omega
theorem kq_04_msmall_0 : (Cond.fieldLink RX6 107 "IndexSortModel" "thrown" "I") ∈ lw_tbl := by decide +kernel
theorem kq_04_msmall_1 : (Cond.fieldLink RX6 103 "IndexSortModel" "count" "I") ∈ lw_tbl := by decide +kernel
theorem kq_04_msmall_2 : (Cond.constant RX6 110 99999) ∈ lw_tbl := by decide +kernel
theorem kq_04_msmall_3 : (Cond.methodLink RX6 111 yX6_isNone) ∈ lw_tbl := by decide +kernel
theorem kq_04_msmall_4 : (Cond.instanceMethod yX6_isNone) ∈ lw_tbl := by decide +kernel
theorem kq_04_msmall_5 : (Cond.selects RX6 yX6_isNone yX6_isNone) ∈ lw_tbl := by decide +kernel
theorem kq_04_msmall_6 : (Cond.initialized RX6) ∈ lw_tbl := by decide +kernel
theorem kq_04_msmall_7 : (Cond.code yX6_isNone cX6_isNone 2 (some .boolean)) ∈ lw_tbl := by decide +kernel
theorem kq_04_msmall_8 : (Cond.methodLink RX6 115 yX6_refused) ∈ lw_tbl := by decide +kernel
theorem kq_04_msmall_9 : (Cond.instanceMethod yX6_refused) ∈ lw_tbl := by decide +kernel
theorem kq_04_msmall_10 : (Cond.selects RX6 yX6_refused yX6_refused) ∈ lw_tbl := by decide +kernel
theorem kq_04_msmall_11 : (Cond.code yX6_refused cX6_refused 4 (some .boolean)) ∈ lw_tbl := by decide +kernel
theorem kq_04_msmall_12 : (Cond.fieldLink RX6 7 "IndexSortModel" "levels" "[I") ∈ lw_tbl := by decide +kernel
theorem kq_04_msmall_13 : (Cond.fieldLink RX6 13 "IndexSortModel" "overs" "[I") ∈ lw_tbl := by decide +kernel
theorem kq_04_msmall_14 : (Cond.fieldLink RX6 119 "IndexSortModel" "known" "Z") ∈ lw_tbl := by decide +kernel
theorem kq_04_msmall_15 : (Cond.fieldLink RX6 19 "IndexSortModel" "lengths" "[I") ∈ lw_tbl := by decide +kernel
theorem kq_04_msmall_16 : (Cond.fieldLink RX6 16 "IndexSortModel" "signs" "[I") ∈ lw_tbl := by decide +kernel
theorem kq_04_msmall_17 : (Cond.fieldLink RX6 47 "IndexSortModel" "digits" "Z") ∈ lw_tbl := by decide +kernel
theorem kq_04_msmall_18 : (Cond.fieldLink RX6 51 "IndexSortModel" "words" "Z") ∈ lw_tbl := by decide +kernel
theorem kq_04_msmall_19 : (Cond.fieldLink RX6 211 "IndexSortModel" "styled" "I") ∈ lw_tbl := by decide +kernel
theorem kq_04_msmall_20 : (Cond.fieldLink RX6 90 "IndexSortModel" "style" "[I") ∈ lw_tbl := by decide +kernel
theorem kq_04_msmall_21 : (Cond.fieldLink RX6 38 "IndexSortModel" "open" "[I") ∈ lw_tbl := by decide +kernel
theorem kq_04_msmall_22 : (Cond.fieldLink RX6 35 "IndexSortModel" "pages" "[I") ∈ lw_tbl := by decide +kernel
theorem kq_04_msmall_23 : (Cond.fieldLink RX6 22 "IndexSortModel" "kinds" "[I") ∈ lw_tbl := by decide +kernel
theorem kq_04_msmall_24 : (Cond.fieldLink RX6 25 "IndexSortModel" "froms" "[I") ∈ lw_tbl := by decide +kernel
theorem kq_04_msmall_25 : (Cond.fieldLink RX6 28 "IndexSortModel" "tos" "[I") ∈ lw_tbl := by decide +kernel
theorem kq_04_msmall_26 : (Cond.fieldLink RX6 31 "IndexSortModel" "ranged" "[Z") ∈ lw_tbl := by decide +kernel
theorem kq_04_msmall_27 : (Cond.methodLink RX6 126 yX6_toldOf) ∈ lw_tbl := by decide +kernel
theorem kq_04_msmall_28 : (Cond.instanceMethod yX6_toldOf) ∈ lw_tbl := by decide +kernel
theorem kq_04_msmall_29 : (Cond.selects RX6 yX6_toldOf yX6_toldOf) ∈ lw_tbl := by decide +kernel
theorem kq_04_msmall_30 : (Cond.code yX6_toldOf cX6_toldOf 2 (some .int)) ∈ lw_tbl := by decide +kernel
theorem kq_04_msmall_31 : (Cond.methodLink RX6 122 yX6_most) ∈ lw_tbl := by decide +kernel
theorem kq_04_msmall_32 : (Cond.static yX6_most) ∈ lw_tbl := by decide +kernel
theorem kq_04_msmall_33 : (Cond.code yX6_most cX6_most 1 (some .int)) ∈ lw_tbl := by decide +kernel
theorem kq_04_msmall_34 : (Cond.methodLink RX6 129 yX6_keep) ∈ lw_tbl := by decide +kernel
theorem kq_04_msmall_35 : (Cond.instanceMethod yX6_keep) ∈ lw_tbl := by decide +kernel
theorem kq_04_msmall_36 : (Cond.selects RX6 yX6_keep yX6_keep) ∈ lw_tbl := by decide +kernel
theorem kq_04_msmall_37 : (Cond.code yX6_keep cX6_keep 7 none) ∈ lw_tbl := by decide +kernel
theorem kq_04_msmall_38 : (Cond.fieldLink RX6 44 "IndexSortModel" "many" "[I") ∈ lw_tbl := by decide +kernel
theorem kq_04_msmall_39 : (Cond.fieldLink RX6 41 "IndexSortModel" "sees" "[I") ∈ lw_tbl := by decide +kernel
set_option maxHeartbeats 4000000 in
set_option maxRecDepth 100000 in
theorem k_thrown (l : Launch) (dC : Nat → ClassId) (dI : Nat → Nat → Nat) (mo : Nat) (ma : Nat → Nat) (cs : Nat → ClassId) (I : Nat → Int) (F : Nat → Int → Int) (sz : Nat) (hB : mB I F) : mMi l yX6_thrown (.code yX6_thrown cX6_thrown 1 (some .int)) 0 0 dC dI mo ma cs I F [.ref mo] sz (fun (r : Int) (I' : Nat → Int) (F' : Nat → Int → Int) => I = I' ∧ F = F' ∧ (r = I 0)) := by
  refine Met.ofW (cc := cX6_thrown) (maxL := 1) (ret := (some .int)) (by decide) rfl ?_
  intro p e s m args below meth c s₁ B hml hv
  obtain ⟨rfl, hsz, hP, hK, hD0, hG, hZ⟩ := hv
  have hx := B.exec
  have hb := B.bytes
  have hr := B.returns
  have hts := kx_hts (a := ([.ref mo] : List Value).toArray) hG
  have hown : s.vm.findClass RX6 = some m.cls := findClass_of_methodNamed B.named
  have hlocks := B.notSynchronized
  subst hsz
  have hD := hD0.self (sz := s.heap.size)
  generalize hAe : va_A (mW mo ma cs I F) s.heap.size = A at hD hZ ⊢
  have hA : ∀ q : Nat, s.heap.size ≤ q → A q := fun q h => by rw [← hAe]; exact Or.inr h
  have hS : va_S A s.heap s.heap [] := va_S.rf
  have hl := lv_entry ([.ref mo]) (n := 1) (Nat.le_of_ble_eq_true rfl)
  rw [lg_entry_eq]
  generalize (lg_sl ([.ref mo]) ++ List.replicate (1 - (lg_sl ([.ref mo])).length) Slot.unset).toArray = ls at hl ⊢
  have hl : lv_has ls 1 [(0, .ref mo)] := hl
  refine lv_aload_n hx hb dX6_thrown_0 rfl (lv_at hl 0 rfl) ?_
  refine va_get (D := (dC, dI)) (ci := 6) (v := .int (iz (I 0))) (C := RX6) (T := TX6) (N := 44) hx hb hts kt_X6 hown hK hP 0 rfl rfl 0 (by decide) (kx_word hG kq_04_msmall_0 rfl) (fun _ h9 => h9) rfl dX6_thrown_1 ?_
  have hbd_1 := hB.1 0
  exact mk_ireti hx hb hr hlocks hP hD hK hS dX6_thrown_4 (⟨rfl, rfl, rfl⟩)
set_option maxHeartbeats 4000000 in
set_option maxRecDepth 100000 in
theorem k_isNone (l : Launch) (dC : Nat → ClassId) (dI : Nat → Nat → Nat) (mo : Nat) (ma : Nat → Nat) (cs : Nat → ClassId) (I : Nat → Int) (F : Nat → Int → Int) (p0 : Int) (sz : Nat) (hB : mB I F) (hp01 : -2147483648 ≤ p0) (hp02 : p0 < 2147483648) : mMi l yX6_isNone (.code yX6_isNone cX6_isNone 2 (some .boolean)) 0 0 dC dI mo ma cs I F [.ref mo, .int (iz p0)] sz (fun (r : Int) (I' : Nat → Int) (F' : Nat → Int → Int) => I = I' ∧ F = F' ∧ ((r = 1 ∧ (p0 < 0 ∨ I 1 ≤ p0)) ∨ (r = 0 ∧ 0 ≤ p0 ∧ p0 < I 1))) := by
  refine Met.ofW (cc := cX6_isNone) (maxL := 2) (ret := (some .boolean)) (by decide) rfl ?_
  intro p e s m args below meth c s₁ B hml hv
  obtain ⟨rfl, hsz, hP, hK, hD0, hG, hZ⟩ := hv
  have hx := B.exec
  have hb := B.bytes
  have hr := B.returns
  have hts := kx_hts (a := ([.ref mo, .int (iz p0)] : List Value).toArray) hG
  have hown : s.vm.findClass RX6 = some m.cls := findClass_of_methodNamed B.named
  have hlocks := B.notSynchronized
  subst hsz
  have hD := hD0.self (sz := s.heap.size)
  generalize hAe : va_A (mW mo ma cs I F) s.heap.size = A at hD hZ ⊢
  have hA : ∀ q : Nat, s.heap.size ≤ q → A q := fun q h => by rw [← hAe]; exact Or.inr h
  have hS : va_S A s.heap s.heap [] := va_S.rf
  have hl := lv_entry ([.ref mo, .int (iz p0)]) (n := 2) (Nat.le_of_ble_eq_true rfl)
  rw [lg_entry_eq]
  generalize (lg_sl ([.ref mo, .int (iz p0)]) ++ List.replicate (2 - (lg_sl ([.ref mo, .int (iz p0)])).length) Slot.unset).toArray = ls at hl ⊢
  have hl : lv_has ls 2 [(0, .ref mo), (1, .int (iz p0))] := hl
  refine lv_iload_n hx hb dX6_isNone_0 rfl (lv_at hl 1 rfl) ?_
  refine ki_if_lt (tgt := 12) hx hb dX6_isNone_1 (by decide) (by omega) (by omega) (fun c_1 => ?_) (fun c_1 => ?_)
  · skip
    refine lv_iconst (v := iz 1) hx hb dX6_isNone_12 (by decide) ?_
    refine lv_goto (tgt := 17) hx hb dX6_isNone_13 (by decide) ?_
    exact mk_iretz hx hb hr hlocks hP hD hK hS dX6_isNone_17 (by omega) (⟨rfl, rfl, by omega⟩)
  · skip
    refine lv_iload_n hx hb dX6_isNone_4 rfl (lv_at hl 1 rfl) ?_
    refine lv_aload_n hx hb dX6_isNone_5 rfl (lv_at hl 0 rfl) ?_
    refine va_get (D := (dC, dI)) (ci := 6) (v := .int (iz (I 1))) (C := RX6) (T := TX6) (N := 44) hx hb hts kt_X6 hown hK hP 0 rfl rfl 1 (by decide) (kx_word hG kq_04_msmall_1 rfl) (fun _ h9 => h9) rfl dX6_isNone_6 ?_
    have hbd_2 := hB.1 1
    refine ki_icmp_lt (tgt := 16) hx hb dX6_isNone_9 (by decide) (by omega) (by omega) (by omega) (by omega) (fun c_3 => ?_) (fun c_3 => ?_)
    · skip
      refine lv_iconst (v := iz 0) hx hb dX6_isNone_16 (by decide) ?_
      exact mk_iretz hx hb hr hlocks hP hD hK hS dX6_isNone_17 (by omega) (⟨rfl, rfl, by omega⟩)
    · skip
      refine lv_iconst (v := iz 1) hx hb dX6_isNone_12 (by decide) ?_
      refine lv_goto (tgt := 17) hx hb dX6_isNone_13 (by decide) ?_
      exact mk_iretz hx hb hr hlocks hP hD hK hS dX6_isNone_17 (by omega) (⟨rfl, rfl, by omega⟩)
set_option maxHeartbeats 4000000 in
set_option maxRecDepth 100000 in
theorem k_refused1 (l : Launch) (dC : Nat → ClassId) (dI : Nat → Nat → Nat) (mo : Nat) (ma : Nat → Nat) (cs : Nat → ClassId) (I : Nat → Int) (F : Nat → Int → Int) (p1 : Int) (p2 : Int) (sz : Nat) (hp11 : -2147483648 ≤ p1) (hp12 : p1 < 2147483648) (hp21 : -2147483648 ≤ p2) (hp22 : p2 < 2147483648) : mMi l yX6_refused (.code yX6_refused cX6_refused 4 (some .boolean)) 0 0 dC dI mo ma cs I F [.ref mo, .int (iz 1), .int (iz p1), .int (iz p2)] sz (fun (r : Int) (I' : Nat → Int) (F' : Nat → Int → Int) => r = 1 ∧ (va_up I 0 1) = I' ∧ F = F') := by
  refine Met.ofW (cc := cX6_refused) (maxL := 4) (ret := (some .boolean)) (by decide) rfl ?_
  intro p e s m args below meth c s₁ B hml hv
  obtain ⟨rfl, hsz, hP, hK, hD0, hG, hZ⟩ := hv
  have hx := B.exec
  have hb := B.bytes
  have hr := B.returns
  have hts := kx_hts (a := ([.ref mo, .int (iz 1), .int (iz p1), .int (iz p2)] : List Value).toArray) hG
  have hown : s.vm.findClass RX6 = some m.cls := findClass_of_methodNamed B.named
  have hlocks := B.notSynchronized
  subst hsz
  have hD := hD0.self (sz := s.heap.size)
  generalize hAe : va_A (mW mo ma cs I F) s.heap.size = A at hD hZ ⊢
  have hA : ∀ q : Nat, s.heap.size ≤ q → A q := fun q h => by rw [← hAe]; exact Or.inr h
  have hS : va_S A s.heap s.heap [] := va_S.rf
  have hl := lv_entry ([.ref mo, .int (iz 1), .int (iz p1), .int (iz p2)]) (n := 4) (Nat.le_of_ble_eq_true rfl)
  rw [lg_entry_eq]
  generalize (lg_sl ([.ref mo, .int (iz 1), .int (iz p1), .int (iz p2)]) ++ List.replicate (4 - (lg_sl ([.ref mo, .int (iz 1), .int (iz p1), .int (iz p2)])).length) Slot.unset).toArray = ls at hl ⊢
  have hl : lv_has ls 4 [(0, .ref mo), (1, .int (iz 1)), (2, .int (iz p1)), (3, .int (iz p2))] := hl
  refine lv_aload_n hx hb dX6_refused_0 rfl (lv_at hl 0 rfl) ?_
  refine lv_iload_n hx hb dX6_refused_1 rfl (lv_at hl 1 rfl) ?_
  refine ki_if_eq (tgt := 9) hx hb dX6_refused_2 (by decide) (by omega) (by omega) (fun c_1 => ?_) (fun c_1 => ?_)
  · omega
  · skip
    refine lv_iconst (v := iz 1) hx hb dX6_refused_5 (by decide) ?_
    refine lv_goto (tgt := 26) hx hb dX6_refused_6 (by decide) ?_
    refine va_put (D := (dC, dI)) (ci := 6) (v := .int (iz 1)) (ty := .int) (C := RX6) (T := TX6) (N := 44) hx hb hts kt_X6 tyX6 tyX6_ok nmX6 hown hK hP hD hS 0 rfl rfl 0 (by decide) (kx_word hG kq_04_msmall_0 rfl) (fun _ h9 => h9) rfl (by decide +kernel) rfl rfl (Nat.le_of_ble_eq_true rfl) dX6_refused_26 (fun H locs hP hD hS => ?_)
    have hP : va_P (dC, dI) kxCl (mW mo ma cs (va_up I 0 1) F) H := hP
    have hD : va_D A (mW mo ma cs (va_up I 0 1) F) := hD
    refine lv_aload_n hx hb dX6_refused_29 rfl (lv_at hl 0 rfl) ?_
    refine va_get (D := (dC, dI)) (ci := 6) (v := .int (iz 1)) (C := RX6) (T := TX6) (N := 44) hx hb hts kt_X6 hown hK hP 0 rfl rfl 0 (by decide) (kx_word hG kq_04_msmall_0 rfl) (fun _ h9 => h9) rfl dX6_refused_30 ?_
    refine ki_if_le (tgt := 40) hx hb dX6_refused_33 (by decide) (by omega) (by omega) (fun c_2 => ?_) (fun c_2 => ?_)
    · omega
    · skip
      refine lv_iconst (v := iz 1) hx hb dX6_refused_36 (by decide) ?_
      refine lv_goto (tgt := 41) hx hb dX6_refused_37 (by decide) ?_
      exact mk_iretz hx hb hr hlocks hP hD hK hS dX6_refused_41 (by omega) (⟨rfl, rfl, rfl⟩)
set_option maxHeartbeats 4000000 in
set_option maxRecDepth 100000 in
theorem k_refused2 (l : Launch) (dC : Nat → ClassId) (dI : Nat → Nat → Nat) (mo : Nat) (ma : Nat → Nat) (cs : Nat → ClassId) (I : Nat → Int) (F : Nat → Int → Int) (p2 : Int) (sz : Nat) (hp21 : -2147483648 ≤ p2) (hp22 : p2 < 2147483648) : mMi l yX6_refused (.code yX6_refused cX6_refused 4 (some .boolean)) 0 0 dC dI mo ma cs I F [.ref mo, .int (iz 0), .int (iz 1), .int (iz p2)] sz (fun (r : Int) (I' : Nat → Int) (F' : Nat → Int → Int) => r = 1 ∧ (va_up I 0 2) = I' ∧ F = F') := by
  refine Met.ofW (cc := cX6_refused) (maxL := 4) (ret := (some .boolean)) (by decide) rfl ?_
  intro p e s m args below meth c s₁ B hml hv
  obtain ⟨rfl, hsz, hP, hK, hD0, hG, hZ⟩ := hv
  have hx := B.exec
  have hb := B.bytes
  have hr := B.returns
  have hts := kx_hts (a := ([.ref mo, .int (iz 0), .int (iz 1), .int (iz p2)] : List Value).toArray) hG
  have hown : s.vm.findClass RX6 = some m.cls := findClass_of_methodNamed B.named
  have hlocks := B.notSynchronized
  subst hsz
  have hD := hD0.self (sz := s.heap.size)
  generalize hAe : va_A (mW mo ma cs I F) s.heap.size = A at hD hZ ⊢
  have hA : ∀ q : Nat, s.heap.size ≤ q → A q := fun q h => by rw [← hAe]; exact Or.inr h
  have hS : va_S A s.heap s.heap [] := va_S.rf
  have hl := lv_entry ([.ref mo, .int (iz 0), .int (iz 1), .int (iz p2)]) (n := 4) (Nat.le_of_ble_eq_true rfl)
  rw [lg_entry_eq]
  generalize (lg_sl ([.ref mo, .int (iz 0), .int (iz 1), .int (iz p2)]) ++ List.replicate (4 - (lg_sl ([.ref mo, .int (iz 0), .int (iz 1), .int (iz p2)])).length) Slot.unset).toArray = ls at hl ⊢
  have hl : lv_has ls 4 [(0, .ref mo), (1, .int (iz 0)), (2, .int (iz 1)), (3, .int (iz p2))] := hl
  refine lv_aload_n hx hb dX6_refused_0 rfl (lv_at hl 0 rfl) ?_
  refine lv_iload_n hx hb dX6_refused_1 rfl (lv_at hl 1 rfl) ?_
  refine ki_if_eq (tgt := 9) hx hb dX6_refused_2 (by decide) (by omega) (by omega) (fun c_1 => ?_) (fun c_1 => ?_)
  · skip
    refine lv_iload_n hx hb dX6_refused_9 rfl (lv_at hl 2 rfl) ?_
    refine ki_if_eq (tgt := 17) hx hb dX6_refused_10 (by decide) (by omega) (by omega) (fun c_2 => ?_) (fun c_2 => ?_)
    · omega
    · skip
      refine lv_iconst (v := iz 2) hx hb dX6_refused_13 (by decide) ?_
      refine lv_goto (tgt := 26) hx hb dX6_refused_14 (by decide) ?_
      refine va_put (D := (dC, dI)) (ci := 6) (v := .int (iz 2)) (ty := .int) (C := RX6) (T := TX6) (N := 44) hx hb hts kt_X6 tyX6 tyX6_ok nmX6 hown hK hP hD hS 0 rfl rfl 0 (by decide) (kx_word hG kq_04_msmall_0 rfl) (fun _ h9 => h9) rfl (by decide +kernel) rfl rfl (Nat.le_of_ble_eq_true rfl) dX6_refused_26 (fun H locs hP hD hS => ?_)
      have hP : va_P (dC, dI) kxCl (mW mo ma cs (va_up I 0 2) F) H := hP
      have hD : va_D A (mW mo ma cs (va_up I 0 2) F) := hD
      refine lv_aload_n hx hb dX6_refused_29 rfl (lv_at hl 0 rfl) ?_
      refine va_get (D := (dC, dI)) (ci := 6) (v := .int (iz 2)) (C := RX6) (T := TX6) (N := 44) hx hb hts kt_X6 hown hK hP 0 rfl rfl 0 (by decide) (kx_word hG kq_04_msmall_0 rfl) (fun _ h9 => h9) rfl dX6_refused_30 ?_
      refine ki_if_le (tgt := 40) hx hb dX6_refused_33 (by decide) (by omega) (by omega) (fun c_3 => ?_) (fun c_3 => ?_)
      · omega
      · skip
        refine lv_iconst (v := iz 1) hx hb dX6_refused_36 (by decide) ?_
        refine lv_goto (tgt := 41) hx hb dX6_refused_37 (by decide) ?_
        exact mk_iretz hx hb hr hlocks hP hD hK hS dX6_refused_41 (by omega) (⟨rfl, rfl, rfl⟩)
  · omega
set_option maxHeartbeats 4000000 in
set_option maxRecDepth 100000 in
theorem k_refused3 (l : Launch) (dC : Nat → ClassId) (dI : Nat → Nat → Nat) (mo : Nat) (ma : Nat → Nat) (cs : Nat → ClassId) (I : Nat → Int) (F : Nat → Int → Int) (sz : Nat) : mMi l yX6_refused (.code yX6_refused cX6_refused 4 (some .boolean)) 0 0 dC dI mo ma cs I F [.ref mo, .int (iz 0), .int (iz 0), .int (iz 1)] sz (fun (r : Int) (I' : Nat → Int) (F' : Nat → Int → Int) => r = 1 ∧ (va_up I 0 3) = I' ∧ F = F') := by
  refine Met.ofW (cc := cX6_refused) (maxL := 4) (ret := (some .boolean)) (by decide) rfl ?_
  intro p e s m args below meth c s₁ B hml hv
  obtain ⟨rfl, hsz, hP, hK, hD0, hG, hZ⟩ := hv
  have hx := B.exec
  have hb := B.bytes
  have hr := B.returns
  have hts := kx_hts (a := ([.ref mo, .int (iz 0), .int (iz 0), .int (iz 1)] : List Value).toArray) hG
  have hown : s.vm.findClass RX6 = some m.cls := findClass_of_methodNamed B.named
  have hlocks := B.notSynchronized
  subst hsz
  have hD := hD0.self (sz := s.heap.size)
  generalize hAe : va_A (mW mo ma cs I F) s.heap.size = A at hD hZ ⊢
  have hA : ∀ q : Nat, s.heap.size ≤ q → A q := fun q h => by rw [← hAe]; exact Or.inr h
  have hS : va_S A s.heap s.heap [] := va_S.rf
  have hl := lv_entry ([.ref mo, .int (iz 0), .int (iz 0), .int (iz 1)]) (n := 4) (Nat.le_of_ble_eq_true rfl)
  rw [lg_entry_eq]
  generalize (lg_sl ([.ref mo, .int (iz 0), .int (iz 0), .int (iz 1)]) ++ List.replicate (4 - (lg_sl ([.ref mo, .int (iz 0), .int (iz 0), .int (iz 1)])).length) Slot.unset).toArray = ls at hl ⊢
  have hl : lv_has ls 4 [(0, .ref mo), (1, .int (iz 0)), (2, .int (iz 0)), (3, .int (iz 1))] := hl
  refine lv_aload_n hx hb dX6_refused_0 rfl (lv_at hl 0 rfl) ?_
  refine lv_iload_n hx hb dX6_refused_1 rfl (lv_at hl 1 rfl) ?_
  refine ki_if_eq (tgt := 9) hx hb dX6_refused_2 (by decide) (by omega) (by omega) (fun c_1 => ?_) (fun c_1 => ?_)
  · skip
    refine lv_iload_n hx hb dX6_refused_9 rfl (lv_at hl 2 rfl) ?_
    refine ki_if_eq (tgt := 17) hx hb dX6_refused_10 (by decide) (by omega) (by omega) (fun c_2 => ?_) (fun c_2 => ?_)
    · skip
      refine lv_iload_n hx hb dX6_refused_17 rfl (lv_at hl 3 rfl) ?_
      refine ki_if_eq (tgt := 25) hx hb dX6_refused_18 (by decide) (by omega) (by omega) (fun c_3 => ?_) (fun c_3 => ?_)
      · omega
      · skip
        refine lv_iconst (v := iz 3) hx hb dX6_refused_21 (by decide) ?_
        refine lv_goto (tgt := 26) hx hb dX6_refused_22 (by decide) ?_
        refine va_put (D := (dC, dI)) (ci := 6) (v := .int (iz 3)) (ty := .int) (C := RX6) (T := TX6) (N := 44) hx hb hts kt_X6 tyX6 tyX6_ok nmX6 hown hK hP hD hS 0 rfl rfl 0 (by decide) (kx_word hG kq_04_msmall_0 rfl) (fun _ h9 => h9) rfl (by decide +kernel) rfl rfl (Nat.le_of_ble_eq_true rfl) dX6_refused_26 (fun H locs hP hD hS => ?_)
        have hP : va_P (dC, dI) kxCl (mW mo ma cs (va_up I 0 3) F) H := hP
        have hD : va_D A (mW mo ma cs (va_up I 0 3) F) := hD
        refine lv_aload_n hx hb dX6_refused_29 rfl (lv_at hl 0 rfl) ?_
        refine va_get (D := (dC, dI)) (ci := 6) (v := .int (iz 3)) (C := RX6) (T := TX6) (N := 44) hx hb hts kt_X6 hown hK hP 0 rfl rfl 0 (by decide) (kx_word hG kq_04_msmall_0 rfl) (fun _ h9 => h9) rfl dX6_refused_30 ?_
        refine ki_if_le (tgt := 40) hx hb dX6_refused_33 (by decide) (by omega) (by omega) (fun c_4 => ?_) (fun c_4 => ?_)
        · omega
        · skip
          refine lv_iconst (v := iz 1) hx hb dX6_refused_36 (by decide) ?_
          refine lv_goto (tgt := 41) hx hb dX6_refused_37 (by decide) ?_
          exact mk_iretz hx hb hr hlocks hP hD hK hS dX6_refused_41 (by omega) (⟨rfl, rfl, rfl⟩)
    · omega
  · omega
set_option maxHeartbeats 4000000 in
set_option maxRecDepth 100000 in
theorem k_refused0 (l : Launch) (dC : Nat → ClassId) (dI : Nat → Nat → Nat) (mo : Nat) (ma : Nat → Nat) (cs : Nat → ClassId) (I : Nat → Int) (F : Nat → Int → Int) (sz : Nat) : mMi l yX6_refused (.code yX6_refused cX6_refused 4 (some .boolean)) 0 0 dC dI mo ma cs I F [.ref mo, .int (iz 0), .int (iz 0), .int (iz 0)] sz (fun (r : Int) (I' : Nat → Int) (F' : Nat → Int → Int) => r = 0 ∧ (va_up I 0 0) = I' ∧ F = F') := by
  refine Met.ofW (cc := cX6_refused) (maxL := 4) (ret := (some .boolean)) (by decide) rfl ?_
  intro p e s m args below meth c s₁ B hml hv
  obtain ⟨rfl, hsz, hP, hK, hD0, hG, hZ⟩ := hv
  have hx := B.exec
  have hb := B.bytes
  have hr := B.returns
  have hts := kx_hts (a := ([.ref mo, .int (iz 0), .int (iz 0), .int (iz 0)] : List Value).toArray) hG
  have hown : s.vm.findClass RX6 = some m.cls := findClass_of_methodNamed B.named
  have hlocks := B.notSynchronized
  subst hsz
  have hD := hD0.self (sz := s.heap.size)
  generalize hAe : va_A (mW mo ma cs I F) s.heap.size = A at hD hZ ⊢
  have hA : ∀ q : Nat, s.heap.size ≤ q → A q := fun q h => by rw [← hAe]; exact Or.inr h
  have hS : va_S A s.heap s.heap [] := va_S.rf
  have hl := lv_entry ([.ref mo, .int (iz 0), .int (iz 0), .int (iz 0)]) (n := 4) (Nat.le_of_ble_eq_true rfl)
  rw [lg_entry_eq]
  generalize (lg_sl ([.ref mo, .int (iz 0), .int (iz 0), .int (iz 0)]) ++ List.replicate (4 - (lg_sl ([.ref mo, .int (iz 0), .int (iz 0), .int (iz 0)])).length) Slot.unset).toArray = ls at hl ⊢
  have hl : lv_has ls 4 [(0, .ref mo), (1, .int (iz 0)), (2, .int (iz 0)), (3, .int (iz 0))] := hl
  refine lv_aload_n hx hb dX6_refused_0 rfl (lv_at hl 0 rfl) ?_
  refine lv_iload_n hx hb dX6_refused_1 rfl (lv_at hl 1 rfl) ?_
  refine ki_if_eq (tgt := 9) hx hb dX6_refused_2 (by decide) (by omega) (by omega) (fun c_1 => ?_) (fun c_1 => ?_)
  · skip
    refine lv_iload_n hx hb dX6_refused_9 rfl (lv_at hl 2 rfl) ?_
    refine ki_if_eq (tgt := 17) hx hb dX6_refused_10 (by decide) (by omega) (by omega) (fun c_2 => ?_) (fun c_2 => ?_)
    · skip
      refine lv_iload_n hx hb dX6_refused_17 rfl (lv_at hl 3 rfl) ?_
      refine ki_if_eq (tgt := 25) hx hb dX6_refused_18 (by decide) (by omega) (by omega) (fun c_3 => ?_) (fun c_3 => ?_)
      · skip
        refine lv_iconst (v := iz 0) hx hb dX6_refused_25 (by decide) ?_
        refine va_put (D := (dC, dI)) (ci := 6) (v := .int (iz 0)) (ty := .int) (C := RX6) (T := TX6) (N := 44) hx hb hts kt_X6 tyX6 tyX6_ok nmX6 hown hK hP hD hS 0 rfl rfl 0 (by decide) (kx_word hG kq_04_msmall_0 rfl) (fun _ h9 => h9) rfl (by decide +kernel) rfl rfl (Nat.le_of_ble_eq_true rfl) dX6_refused_26 (fun H locs hP hD hS => ?_)
        have hP : va_P (dC, dI) kxCl (mW mo ma cs (va_up I 0 0) F) H := hP
        have hD : va_D A (mW mo ma cs (va_up I 0 0) F) := hD
        refine lv_aload_n hx hb dX6_refused_29 rfl (lv_at hl 0 rfl) ?_
        refine va_get (D := (dC, dI)) (ci := 6) (v := .int (iz 0)) (C := RX6) (T := TX6) (N := 44) hx hb hts kt_X6 hown hK hP 0 rfl rfl 0 (by decide) (kx_word hG kq_04_msmall_0 rfl) (fun _ h9 => h9) rfl dX6_refused_30 ?_
        refine ki_if_le (tgt := 40) hx hb dX6_refused_33 (by decide) (by omega) (by omega) (fun c_4 => ?_) (fun c_4 => ?_)
        · skip
          refine lv_iconst (v := iz 0) hx hb dX6_refused_40 (by decide) ?_
          exact mk_iretz hx hb hr hlocks hP hD hK hS dX6_refused_41 (by omega) (⟨rfl, rfl, rfl⟩)
        · omega
      · omega
    · omega
  · omega
set_option maxHeartbeats 4000000 in
set_option maxRecDepth 100000 in
theorem k_most (l : Launch) (dC : Nat → ClassId) (dI : Nat → Nat → Nat) (p0 : Int) (sz : Nat) (hp01 : -2147483648 ≤ p0) (hp02 : p0 < 2147483648) : mMs l yX6_most (.code yX6_most cX6_most 1 (some .int)) 0 0 dC dI [.int (iz p0)] sz (fun (r : Int) => 0 ≤ r ∧ r ≤ 99999) := by
  refine Met.ofW (cc := cX6_most) (maxL := 1) (ret := (some .int)) (by decide) rfl ?_
  intro p e s m args below meth c s₁ B hml hv
  obtain ⟨rfl, hsz, hP, hK, hD0, hG, hZ⟩ := hv
  have hx := B.exec
  have hb := B.bytes
  have hr := B.returns
  have hts := kx_hts (a := ([.int (iz p0)] : List Value).toArray) hG
  have hown : s.vm.findClass RX6 = some m.cls := findClass_of_methodNamed B.named
  have hlocks := B.notSynchronized
  subst hsz
  have hD := hD0.self (sz := s.heap.size)
  generalize hAe : va_A [] s.heap.size = A at hD hZ ⊢
  have hA : ∀ q : Nat, s.heap.size ≤ q → A q := fun q h => by rw [← hAe]; exact Or.inr h
  have hS : va_S A s.heap s.heap [] := va_S.rf
  have hl := lv_entry ([.int (iz p0)]) (n := 1) (Nat.le_of_ble_eq_true rfl)
  rw [lg_entry_eq]
  generalize (lg_sl ([.int (iz p0)]) ++ List.replicate (1 - (lg_sl ([.int (iz p0)])).length) Slot.unset).toArray = ls at hl ⊢
  have hl : lv_has ls 1 [(0, .int (iz p0))] := hl
  refine lv_iload_n hx hb dX6_most_0 rfl (lv_at hl 0 rfl) ?_
  refine ki_if_ne (tgt := 10) hx hb dX6_most_1 (by decide) (by omega) (by omega) (fun c_1 => ?_) (fun c_1 => ?_)
  · skip
    refine lv_iload_n hx hb dX6_most_10 rfl (lv_at hl 0 rfl) ?_
    refine lv_iconst (v := iz 1) hx hb dX6_most_11 (by decide) ?_
    refine ki_icmp_ne (tgt := 20) hx hb dX6_most_12 (by decide) (by omega) (by omega) (by omega) (by omega) (fun c_2 => ?_) (fun c_2 => ?_)
    · skip
      refine lv_iload_n hx hb dX6_most_20 rfl (lv_at hl 0 rfl) ?_
      refine lv_iconst (v := iz 2) hx hb dX6_most_21 (by decide) ?_
      refine ki_icmp_ne (tgt := 31) hx hb dX6_most_22 (by decide) (by omega) (by omega) (by omega) (by omega) (fun c_3 => ?_) (fun c_3 => ?_)
      · skip
        refine lv_iconst (v := iz 0) hx hb dX6_most_31 (by decide) ?_
        exact W.iret (v := iz 0) hx hb hr (fun t ht hW => ⟨⟨iz 0, 0, rfl, ⟨rfl, by omega⟩, by rw [ht]; exact hP, va_K.moved hW.alike hK, hD⟩, hS.F ht⟩) hS.2.2 dX6_most_32
      · skip
        refine lv_sipush (v := iz 702) hx hb dX6_most_25 (by decide) ?_
        refine lv_goto (tgt := 32) hx hb dX6_most_28 (by decide) ?_
        exact W.iret (v := iz 702) hx hb hr (fun t ht hW => ⟨⟨iz 702, 702, rfl, ⟨rfl, by omega⟩, by rw [ht]; exact hP, va_K.moved hW.alike hK, hD⟩, hS.F ht⟩) hS.2.2 dX6_most_32
    · skip
      refine lv_ldc (v := 99999) hx hb hown (kx_word hG kq_04_msmall_2 rfl) dX6_most_15 ?_
      refine ki_is (show (99999 : Int32) = iz 99999 by decide) ?_
      refine lv_goto (tgt := 32) hx hb dX6_most_17 (by decide) ?_
      exact W.iret (v := iz 99999) hx hb hr (fun t ht hW => ⟨⟨iz 99999, 99999, rfl, ⟨rfl, by omega⟩, by rw [ht]; exact hP, va_K.moved hW.alike hK, hD⟩, hS.F ht⟩) hS.2.2 dX6_most_32
  · skip
    refine lv_sipush (v := iz 3999) hx hb dX6_most_4 (by decide) ?_
    refine lv_goto (tgt := 32) hx hb dX6_most_7 (by decide) ?_
    exact W.iret (v := iz 3999) hx hb hr (fun t ht hW => ⟨⟨iz 3999, 3999, rfl, ⟨rfl, by omega⟩, by rw [ht]; exact hP, va_K.moved hW.alike hK, hD⟩, hS.F ht⟩) hS.2.2 dX6_most_32
set_option maxHeartbeats 4000000 in
set_option maxRecDepth 100000 in
/-- entry: refused by 1, by 2, or done -/
theorem k_entry (l : Launch) (dC : Nat → ClassId) (dI : Nat → Nat → Nat) (mo : Nat) (ma : Nat → Nat) (cs : Nat → ClassId) (I : Nat → Int) (F : Nat → Int → Int) (lv : Int) (ab : Int) (sz : Nat) (hB : mB I F) (hc : 0 ≤ I 1 ∧ I 1 ≤ 64) (hlv1 : -2147483648 ≤ lv) (hlv2 : lv < 2147483648) (hab1 : -2147483648 ≤ ab) (hab2 : ab < 2147483648) : mMi l yX6_entry (.code yX6_entry cX6_entry 4 (some .int)) 1 23 dC dI mo ma cs I F [.ref mo, .int (iz lv), .int (iz ab)] sz (fun (r : Int) (I' : Nat → Int) (F' : Nat → Int → Int) => (r = 0 ∧ F' = F ∧ I' = va_up I 0 1 ∧ ¬ ab = -1 ∧ (ab < 0 ∨ I 1 ≤ ab)) ∨ (r = 0 ∧ F' = F ∧ I' = va_up I 0 2 ∧ (ab = -1 ∨ (0 ≤ ab ∧ ab < I 1)) ∧ ¬ ((lv = 0 ∧ ab = -1) ∨ ((lv = 1 ∨ lv = 2) ∧ 0 ≤ ab ∧ ab < I 1 ∧ F 2 ab = lv - 1))) ∨ (I' = va_up (va_up (va_up I 0 0) 16 0) 1 (I 1 + 1) ∧ F' = va_up (va_up F 2 (upI (F 2) (I 1) lv)) 3 (upI (F 3) (I 1) ab) ∧ r = I 1 ∧ ((lv = 0 ∧ ab = -1) ∨ ((lv = 1 ∨ lv = 2) ∧ 0 ≤ ab ∧ ab < I 1 ∧ F 2 ab = lv - 1)))) := by
  refine Met.ofW (cc := cX6_entry) (maxL := 4) (ret := (some .int)) (by decide) rfl ?_
  intro p e s m args below meth c s₁ B hml hv
  obtain ⟨rfl, hsz, hP, hK, hD0, hG, hZ⟩ := hv
  have hx := B.exec
  have hb := B.bytes
  have hr := B.returns
  have hts := kx_hts (a := ([.ref mo, .int (iz lv), .int (iz ab)] : List Value).toArray) hG
  have hown : s.vm.findClass RX6 = some m.cls := findClass_of_methodNamed B.named
  have hlocks := B.notSynchronized
  subst hsz
  have hD := hD0.self (sz := s.heap.size)
  generalize hAe : va_A (mW mo ma cs I F) s.heap.size = A at hD hZ ⊢
  have hA : ∀ q : Nat, s.heap.size ≤ q → A q := fun q h => by rw [← hAe]; exact Or.inr h
  have hS : va_S A s.heap s.heap [] := va_S.rf
  have hl := lv_entry ([.ref mo, .int (iz lv), .int (iz ab)]) (n := 4) (Nat.le_of_ble_eq_true rfl)
  rw [lg_entry_eq]
  generalize (lg_sl ([.ref mo, .int (iz lv), .int (iz ab)]) ++ List.replicate (4 - (lg_sl ([.ref mo, .int (iz lv), .int (iz ab)])).length) Slot.unset).toArray = ls at hl ⊢
  have hl : lv_has ls 4 [(0, .ref mo), (1, .int (iz lv)), (2, .int (iz ab))] := hl
  refine lv_iload_n hx hb dX6_entry_0 rfl (lv_at hl 1 rfl) ?_
  refine ki_if_ne (tgt := 9) hx hb dX6_entry_1 (by decide) (by omega) (by omega) (fun c_1 => ?_) (fun c_1 => ?_)
  · skip
    refine lv_iload_n hx hb dX6_entry_9 rfl (lv_at hl 1 rfl) ?_
    refine lv_iconst (v := iz 1) hx hb dX6_entry_10 (by decide) ?_
    refine ki_icmp_eq (tgt := 19) hx hb dX6_entry_11 (by decide) (by omega) (by omega) (by omega) (by omega) (fun c_2 => ?_) (fun c_2 => ?_)
    · skip
      refine lv_aload_n hx hb dX6_entry_19 rfl (lv_at hl 0 rfl) ?_
      refine lv_iload_n hx hb dX6_entry_20 rfl (lv_at hl 2 rfl) ?_
      refine mk_calli (As := [.int (iz ab)]) (rest := []) ⟨hx, hb, hml, hown, hts⟩ (k_isNone l dC dI mo ma cs I F ab s.heap.size hB (by omega) (by omega)) (cwV 1 hts (kx_gV kq_04_msmall_3 kq_04_msmall_4 kq_04_msmall_5 kq_04_msmall_6 kq_04_msmall_7 rfl) rfl rfl rfl (by decide +kernel) ⟨Nat.le_of_ble_eq_true rfl, Nat.le_of_ble_eq_true rfl⟩) hP hD hK hG hZ hS hA rfl hl.1 rfl (Nat.le_of_ble_eq_true rfl) dX6_entry_21 ⟨Nat.le_of_ble_eq_true rfl, Nat.le_of_ble_eq_true rfl⟩ (fun z_3 I_5 F_6 H locs hq_4 hP hD hS => ?_)
      try dsimp only at hq_4
      obtain ⟨rfl, rfl, hq_4⟩ := hq_4
      rcases hq_4 with ⟨rfl, hq_4⟩ | ⟨rfl, hq_4⟩
      · skip
        refine ki_if_ne (tgt := 43) hx hb dX6_entry_24 (by decide) (by omega) (by omega) (fun c_7 => ?_) (fun c_7 => ?_)
        · skip
          refine lv_iconst (v := iz 0) hx hb dX6_entry_43 (by decide) ?_
          refine lv_istore_n (lv' := [(3, .int (iz 0)), (0, .ref mo), (1, .int (iz lv)), (2, .int (iz ab))]) hx hb dX6_entry_44 rfl hl (by decide) rfl (fun ls hl => ?_)
          refine lv_aload_n hx hb dX6_entry_45 rfl (lv_at hl 1 rfl) ?_
          refine lv_iload_n hx hb dX6_entry_46 rfl (lv_at hl 3 rfl) ?_
          refine lv_iconst (v := iz (-1)) hx hb dX6_entry_47 (by decide) ?_
          refine ki_icmp_eq (tgt := 63) hx hb dX6_entry_48 (by decide) (by omega) (by omega) (by omega) (by omega) (fun c_8 => ?_) (fun c_8 => ?_)
          · skip
            refine lv_iconst (v := iz 0) hx hb dX6_entry_63 (by decide) ?_
            refine lv_iload_n hx hb dX6_entry_64 rfl (lv_at hl 0 rfl) ?_
            refine ki_if_ne (tgt := 72) hx hb dX6_entry_65 (by decide) (by omega) (by omega) (fun c_9 => ?_) (fun c_9 => ?_)
            · omega
            · skip
              refine lv_iconst (v := iz 1) hx hb dX6_entry_68 (by decide) ?_
              refine lv_goto (tgt := 73) hx hb dX6_entry_69 (by decide) ?_
              refine lv_aload_n hx hb dX6_entry_73 rfl (lv_at hl 1 rfl) ?_
              refine va_get (D := (dC, dI)) (ci := 6) (v := .int (iz (I 1))) (C := RX6) (T := TX6) (N := 44) hx hb hts kt_X6 hown hK hP 0 rfl rfl 1 (by decide) (kx_word hG kq_04_msmall_1 rfl) (fun _ h9 => h9) rfl dX6_entry_74 ?_
              have hbd_10 := hB.1 1
              refine lv_bipush (v := iz 80) hx hb dX6_entry_77 (by decide) ?_
              refine ki_icmp_ne (tgt := 86) hx hb dX6_entry_79 (by decide) (by omega) (by omega) (by omega) (by omega) (fun c_11 => ?_) (fun c_11 => ?_)
              · skip
                refine lv_iconst (v := iz 0) hx hb dX6_entry_86 (by decide) ?_
                refine mk_calli (As := [.int (iz 0), .int (iz 1), .int (iz 0)]) (rest := []) ⟨hx, hb, hml, hown, hts⟩ (k_refused2 l dC dI mo ma cs I F 0 H.size (by omega) (by omega)) (cwV 3 hts (kx_gV kq_04_msmall_8 kq_04_msmall_9 kq_04_msmall_10 kq_04_msmall_6 kq_04_msmall_11 rfl) rfl rfl rfl (by decide +kernel) ⟨Nat.le_of_ble_eq_true rfl, Nat.le_of_ble_eq_true rfl⟩) hP hD hK hG hZ hS hA rfl hl.1 rfl (Nat.le_of_ble_eq_true rfl) dX6_entry_87 ⟨Nat.le_of_ble_eq_true rfl, Nat.le_of_ble_eq_true rfl⟩ (fun z_12 I_14 F_15 H locs hq_13 hP hD hS => ?_)
                try dsimp only at hq_13
                obtain ⟨rfl, rfl, rfl⟩ := hq_13
                refine ki_if_eq (tgt := 95) hx hb dX6_entry_90 (by decide) (by omega) (by omega) (fun c_16 => ?_) (fun c_16 => ?_)
                · omega
                · skip
                  refine lv_iconst (v := iz 0) hx hb dX6_entry_93 (by decide) ?_
                  exact mk_ireti hx hb hr hlocks hP hD hK hS dX6_entry_94 (Or.inr (Or.inl ⟨by omega, rfl, rfl, by omega, by omega⟩))
              · omega
          · skip
            refine lv_aload_n hx hb dX6_entry_51 rfl (lv_at hl 1 rfl) ?_
            refine lv_iload_n hx hb dX6_entry_52 rfl (lv_at hl 3 rfl) ?_
            refine mk_calli (As := [.int (iz ab)]) (rest := [.ref mo]) ⟨hx, hb, hml, hown, hts⟩ (k_isNone l dC dI mo ma cs I F ab H.size hB (by omega) (by omega)) (cwV 1 hts (kx_gV kq_04_msmall_3 kq_04_msmall_4 kq_04_msmall_5 kq_04_msmall_6 kq_04_msmall_7 rfl) rfl rfl rfl (by decide +kernel) ⟨Nat.le_of_ble_eq_true rfl, Nat.le_of_ble_eq_true rfl⟩) hP hD hK hG hZ hS hA rfl hl.1 rfl (Nat.le_of_ble_eq_true rfl) dX6_entry_53 ⟨Nat.le_of_ble_eq_true rfl, Nat.le_of_ble_eq_true rfl⟩ (fun z_17 I_19 F_20 H locs hq_18 hP hD hS => ?_)
            try dsimp only at hq_18
            obtain ⟨rfl, rfl, hq_18⟩ := hq_18
            rcases hq_18 with ⟨rfl, hq_18⟩ | ⟨rfl, hq_18⟩
            · skip
              refine ki_if_eq (tgt := 63) hx hb dX6_entry_56 (by decide) (by omega) (by omega) (fun c_21 => ?_) (fun c_21 => ?_)
              · omega
              · skip
                refine lv_iconst (v := iz 1) hx hb dX6_entry_59 (by decide) ?_
                refine lv_goto (tgt := 64) hx hb dX6_entry_60 (by decide) ?_
                refine lv_iload_n hx hb dX6_entry_64 rfl (lv_at hl 0 rfl) ?_
                refine ki_if_ne (tgt := 72) hx hb dX6_entry_65 (by decide) (by omega) (by omega) (fun c_22 => ?_) (fun c_22 => ?_)
                · omega
                · skip
                  refine lv_iconst (v := iz 1) hx hb dX6_entry_68 (by decide) ?_
                  refine lv_goto (tgt := 73) hx hb dX6_entry_69 (by decide) ?_
                  refine lv_aload_n hx hb dX6_entry_73 rfl (lv_at hl 1 rfl) ?_
                  refine va_get (D := (dC, dI)) (ci := 6) (v := .int (iz (I 1))) (C := RX6) (T := TX6) (N := 44) hx hb hts kt_X6 hown hK hP 0 rfl rfl 1 (by decide) (kx_word hG kq_04_msmall_1 rfl) (fun _ h9 => h9) rfl dX6_entry_74 ?_
                  have hbd_23 := hB.1 1
                  refine lv_bipush (v := iz 80) hx hb dX6_entry_77 (by decide) ?_
                  refine ki_icmp_ne (tgt := 86) hx hb dX6_entry_79 (by decide) (by omega) (by omega) (by omega) (by omega) (fun c_24 => ?_) (fun c_24 => ?_)
                  · skip
                    refine lv_iconst (v := iz 0) hx hb dX6_entry_86 (by decide) ?_
                    refine mk_calli (As := [.int (iz 1), .int (iz 1), .int (iz 0)]) (rest := []) ⟨hx, hb, hml, hown, hts⟩ (k_refused1 l dC dI mo ma cs I F 1 0 H.size (by omega) (by omega) (by omega) (by omega)) (cwV 3 hts (kx_gV kq_04_msmall_8 kq_04_msmall_9 kq_04_msmall_10 kq_04_msmall_6 kq_04_msmall_11 rfl) rfl rfl rfl (by decide +kernel) ⟨Nat.le_of_ble_eq_true rfl, Nat.le_of_ble_eq_true rfl⟩) hP hD hK hG hZ hS hA rfl hl.1 rfl (Nat.le_of_ble_eq_true rfl) dX6_entry_87 ⟨Nat.le_of_ble_eq_true rfl, Nat.le_of_ble_eq_true rfl⟩ (fun z_25 I_27 F_28 H locs hq_26 hP hD hS => ?_)
                    try dsimp only at hq_26
                    obtain ⟨rfl, rfl, rfl⟩ := hq_26
                    refine ki_if_eq (tgt := 95) hx hb dX6_entry_90 (by decide) (by omega) (by omega) (fun c_29 => ?_) (fun c_29 => ?_)
                    · omega
                    · skip
                      refine lv_iconst (v := iz 0) hx hb dX6_entry_93 (by decide) ?_
                      exact mk_ireti hx hb hr hlocks hP hD hK hS dX6_entry_94 (Or.inl ⟨by omega, rfl, rfl, by omega, by omega⟩)
                  · omega
            · skip
              refine ki_if_eq (tgt := 63) hx hb dX6_entry_56 (by decide) (by omega) (by omega) (fun c_30 => ?_) (fun c_30 => ?_)
              · skip
                refine lv_iconst (v := iz 0) hx hb dX6_entry_63 (by decide) ?_
                refine lv_iload_n hx hb dX6_entry_64 rfl (lv_at hl 0 rfl) ?_
                refine ki_if_ne (tgt := 72) hx hb dX6_entry_65 (by decide) (by omega) (by omega) (fun c_31 => ?_) (fun c_31 => ?_)
                · omega
                · skip
                  refine lv_iconst (v := iz 1) hx hb dX6_entry_68 (by decide) ?_
                  refine lv_goto (tgt := 73) hx hb dX6_entry_69 (by decide) ?_
                  refine lv_aload_n hx hb dX6_entry_73 rfl (lv_at hl 1 rfl) ?_
                  refine va_get (D := (dC, dI)) (ci := 6) (v := .int (iz (I 1))) (C := RX6) (T := TX6) (N := 44) hx hb hts kt_X6 hown hK hP 0 rfl rfl 1 (by decide) (kx_word hG kq_04_msmall_1 rfl) (fun _ h9 => h9) rfl dX6_entry_74 ?_
                  have hbd_32 := hB.1 1
                  refine lv_bipush (v := iz 80) hx hb dX6_entry_77 (by decide) ?_
                  refine ki_icmp_ne (tgt := 86) hx hb dX6_entry_79 (by decide) (by omega) (by omega) (by omega) (by omega) (fun c_33 => ?_) (fun c_33 => ?_)
                  · skip
                    refine lv_iconst (v := iz 0) hx hb dX6_entry_86 (by decide) ?_
                    refine mk_calli (As := [.int (iz 0), .int (iz 1), .int (iz 0)]) (rest := []) ⟨hx, hb, hml, hown, hts⟩ (k_refused2 l dC dI mo ma cs I F 0 H.size (by omega) (by omega)) (cwV 3 hts (kx_gV kq_04_msmall_8 kq_04_msmall_9 kq_04_msmall_10 kq_04_msmall_6 kq_04_msmall_11 rfl) rfl rfl rfl (by decide +kernel) ⟨Nat.le_of_ble_eq_true rfl, Nat.le_of_ble_eq_true rfl⟩) hP hD hK hG hZ hS hA rfl hl.1 rfl (Nat.le_of_ble_eq_true rfl) dX6_entry_87 ⟨Nat.le_of_ble_eq_true rfl, Nat.le_of_ble_eq_true rfl⟩ (fun z_34 I_36 F_37 H locs hq_35 hP hD hS => ?_)
                    try dsimp only at hq_35
                    obtain ⟨rfl, rfl, rfl⟩ := hq_35
                    refine ki_if_eq (tgt := 95) hx hb dX6_entry_90 (by decide) (by omega) (by omega) (fun c_38 => ?_) (fun c_38 => ?_)
                    · omega
                    · skip
                      refine lv_iconst (v := iz 0) hx hb dX6_entry_93 (by decide) ?_
                      exact mk_ireti hx hb hr hlocks hP hD hK hS dX6_entry_94 (Or.inr (Or.inl ⟨by omega, rfl, rfl, by omega, by omega⟩))
                  · omega
              · omega
        · omega
      · skip
        refine ki_if_ne (tgt := 43) hx hb dX6_entry_24 (by decide) (by omega) (by omega) (fun c_39 => ?_) (fun c_39 => ?_)
        · omega
        · skip
          refine lv_aload_n hx hb dX6_entry_27 rfl (lv_at hl 0 rfl) ?_
          refine va_get (D := (dC, dI)) (ci := 6) (v := .ref (ma 2)) (C := RX6) (T := TX6) (N := 44) hx hb hts kt_X6 hown hK hP 0 rfl rfl 2 (by decide) (kx_word hG kq_04_msmall_12 rfl) (fun _ h9 => h9) rfl dX6_entry_28 ?_
          refine lv_iload_n hx hb dX6_entry_31 rfl (lv_at hl 2 rfl) ?_
          refine ki_iald (F := F 2) hx hb hK hP 1 0 rfl rfl (by omega) (by omega) (by decide) dX6_entry_32 ?_
          have hbd_40 := hB.2 2 ab
          refine lv_iload_n hx hb dX6_entry_33 rfl (lv_at hl 1 rfl) ?_
          refine lv_iconst (v := iz 1) hx hb dX6_entry_34 (by decide) ?_
          refine ki_isub hx hb dX6_entry_35 ?_
          refine ki_icmp_ne (tgt := 43) hx hb dX6_entry_36 (by decide) (by omega) (by omega) (by omega) (by omega) (fun c_41 => ?_) (fun c_41 => ?_)
          · skip
            refine lv_iconst (v := iz 0) hx hb dX6_entry_43 (by decide) ?_
            refine lv_istore_n (lv' := [(3, .int (iz 0)), (0, .ref mo), (1, .int (iz lv)), (2, .int (iz ab))]) hx hb dX6_entry_44 rfl hl (by decide) rfl (fun ls hl => ?_)
            refine lv_aload_n hx hb dX6_entry_45 rfl (lv_at hl 1 rfl) ?_
            refine lv_iload_n hx hb dX6_entry_46 rfl (lv_at hl 3 rfl) ?_
            refine lv_iconst (v := iz (-1)) hx hb dX6_entry_47 (by decide) ?_
            refine ki_icmp_eq (tgt := 63) hx hb dX6_entry_48 (by decide) (by omega) (by omega) (by omega) (by omega) (fun c_42 => ?_) (fun c_42 => ?_)
            · skip
              refine lv_iconst (v := iz 0) hx hb dX6_entry_63 (by decide) ?_
              refine lv_iload_n hx hb dX6_entry_64 rfl (lv_at hl 0 rfl) ?_
              refine ki_if_ne (tgt := 72) hx hb dX6_entry_65 (by decide) (by omega) (by omega) (fun c_43 => ?_) (fun c_43 => ?_)
              · omega
              · skip
                refine lv_iconst (v := iz 1) hx hb dX6_entry_68 (by decide) ?_
                refine lv_goto (tgt := 73) hx hb dX6_entry_69 (by decide) ?_
                refine lv_aload_n hx hb dX6_entry_73 rfl (lv_at hl 1 rfl) ?_
                refine va_get (D := (dC, dI)) (ci := 6) (v := .int (iz (I 1))) (C := RX6) (T := TX6) (N := 44) hx hb hts kt_X6 hown hK hP 0 rfl rfl 1 (by decide) (kx_word hG kq_04_msmall_1 rfl) (fun _ h9 => h9) rfl dX6_entry_74 ?_
                have hbd_44 := hB.1 1
                refine lv_bipush (v := iz 80) hx hb dX6_entry_77 (by decide) ?_
                refine ki_icmp_ne (tgt := 86) hx hb dX6_entry_79 (by decide) (by omega) (by omega) (by omega) (by omega) (fun c_45 => ?_) (fun c_45 => ?_)
                · skip
                  refine lv_iconst (v := iz 0) hx hb dX6_entry_86 (by decide) ?_
                  refine mk_calli (As := [.int (iz 0), .int (iz 1), .int (iz 0)]) (rest := []) ⟨hx, hb, hml, hown, hts⟩ (k_refused2 l dC dI mo ma cs I F 0 H.size (by omega) (by omega)) (cwV 3 hts (kx_gV kq_04_msmall_8 kq_04_msmall_9 kq_04_msmall_10 kq_04_msmall_6 kq_04_msmall_11 rfl) rfl rfl rfl (by decide +kernel) ⟨Nat.le_of_ble_eq_true rfl, Nat.le_of_ble_eq_true rfl⟩) hP hD hK hG hZ hS hA rfl hl.1 rfl (Nat.le_of_ble_eq_true rfl) dX6_entry_87 ⟨Nat.le_of_ble_eq_true rfl, Nat.le_of_ble_eq_true rfl⟩ (fun z_46 I_48 F_49 H locs hq_47 hP hD hS => ?_)
                  try dsimp only at hq_47
                  obtain ⟨rfl, rfl, rfl⟩ := hq_47
                  refine ki_if_eq (tgt := 95) hx hb dX6_entry_90 (by decide) (by omega) (by omega) (fun c_50 => ?_) (fun c_50 => ?_)
                  · omega
                  · skip
                    refine lv_iconst (v := iz 0) hx hb dX6_entry_93 (by decide) ?_
                    exact mk_ireti hx hb hr hlocks hP hD hK hS dX6_entry_94 (Or.inr (Or.inl ⟨by omega, rfl, rfl, by omega, by omega⟩))
                · omega
            · skip
              refine lv_aload_n hx hb dX6_entry_51 rfl (lv_at hl 1 rfl) ?_
              refine lv_iload_n hx hb dX6_entry_52 rfl (lv_at hl 3 rfl) ?_
              refine mk_calli (As := [.int (iz ab)]) (rest := [.ref mo]) ⟨hx, hb, hml, hown, hts⟩ (k_isNone l dC dI mo ma cs I F ab H.size hB (by omega) (by omega)) (cwV 1 hts (kx_gV kq_04_msmall_3 kq_04_msmall_4 kq_04_msmall_5 kq_04_msmall_6 kq_04_msmall_7 rfl) rfl rfl rfl (by decide +kernel) ⟨Nat.le_of_ble_eq_true rfl, Nat.le_of_ble_eq_true rfl⟩) hP hD hK hG hZ hS hA rfl hl.1 rfl (Nat.le_of_ble_eq_true rfl) dX6_entry_53 ⟨Nat.le_of_ble_eq_true rfl, Nat.le_of_ble_eq_true rfl⟩ (fun z_51 I_53 F_54 H locs hq_52 hP hD hS => ?_)
              try dsimp only at hq_52
              obtain ⟨rfl, rfl, hq_52⟩ := hq_52
              rcases hq_52 with ⟨rfl, hq_52⟩ | ⟨rfl, hq_52⟩
              · skip
                refine ki_if_eq (tgt := 63) hx hb dX6_entry_56 (by decide) (by omega) (by omega) (fun c_55 => ?_) (fun c_55 => ?_)
                · omega
                · skip
                  refine lv_iconst (v := iz 1) hx hb dX6_entry_59 (by decide) ?_
                  refine lv_goto (tgt := 64) hx hb dX6_entry_60 (by decide) ?_
                  refine lv_iload_n hx hb dX6_entry_64 rfl (lv_at hl 0 rfl) ?_
                  refine ki_if_ne (tgt := 72) hx hb dX6_entry_65 (by decide) (by omega) (by omega) (fun c_56 => ?_) (fun c_56 => ?_)
                  · omega
                  · skip
                    refine lv_iconst (v := iz 1) hx hb dX6_entry_68 (by decide) ?_
                    refine lv_goto (tgt := 73) hx hb dX6_entry_69 (by decide) ?_
                    refine lv_aload_n hx hb dX6_entry_73 rfl (lv_at hl 1 rfl) ?_
                    refine va_get (D := (dC, dI)) (ci := 6) (v := .int (iz (I 1))) (C := RX6) (T := TX6) (N := 44) hx hb hts kt_X6 hown hK hP 0 rfl rfl 1 (by decide) (kx_word hG kq_04_msmall_1 rfl) (fun _ h9 => h9) rfl dX6_entry_74 ?_
                    have hbd_57 := hB.1 1
                    refine lv_bipush (v := iz 80) hx hb dX6_entry_77 (by decide) ?_
                    refine ki_icmp_ne (tgt := 86) hx hb dX6_entry_79 (by decide) (by omega) (by omega) (by omega) (by omega) (fun c_58 => ?_) (fun c_58 => ?_)
                    · skip
                      refine lv_iconst (v := iz 0) hx hb dX6_entry_86 (by decide) ?_
                      refine mk_calli (As := [.int (iz 1), .int (iz 1), .int (iz 0)]) (rest := []) ⟨hx, hb, hml, hown, hts⟩ (k_refused1 l dC dI mo ma cs I F 1 0 H.size (by omega) (by omega) (by omega) (by omega)) (cwV 3 hts (kx_gV kq_04_msmall_8 kq_04_msmall_9 kq_04_msmall_10 kq_04_msmall_6 kq_04_msmall_11 rfl) rfl rfl rfl (by decide +kernel) ⟨Nat.le_of_ble_eq_true rfl, Nat.le_of_ble_eq_true rfl⟩) hP hD hK hG hZ hS hA rfl hl.1 rfl (Nat.le_of_ble_eq_true rfl) dX6_entry_87 ⟨Nat.le_of_ble_eq_true rfl, Nat.le_of_ble_eq_true rfl⟩ (fun z_59 I_61 F_62 H locs hq_60 hP hD hS => ?_)
                      try dsimp only at hq_60
                      obtain ⟨rfl, rfl, rfl⟩ := hq_60
                      refine ki_if_eq (tgt := 95) hx hb dX6_entry_90 (by decide) (by omega) (by omega) (fun c_63 => ?_) (fun c_63 => ?_)
                      · omega
                      · skip
                        refine lv_iconst (v := iz 0) hx hb dX6_entry_93 (by decide) ?_
                        exact mk_ireti hx hb hr hlocks hP hD hK hS dX6_entry_94 (Or.inl ⟨by omega, rfl, rfl, by omega, by omega⟩)
                    · omega
              · skip
                refine ki_if_eq (tgt := 63) hx hb dX6_entry_56 (by decide) (by omega) (by omega) (fun c_64 => ?_) (fun c_64 => ?_)
                · skip
                  refine lv_iconst (v := iz 0) hx hb dX6_entry_63 (by decide) ?_
                  refine lv_iload_n hx hb dX6_entry_64 rfl (lv_at hl 0 rfl) ?_
                  refine ki_if_ne (tgt := 72) hx hb dX6_entry_65 (by decide) (by omega) (by omega) (fun c_65 => ?_) (fun c_65 => ?_)
                  · omega
                  · skip
                    refine lv_iconst (v := iz 1) hx hb dX6_entry_68 (by decide) ?_
                    refine lv_goto (tgt := 73) hx hb dX6_entry_69 (by decide) ?_
                    refine lv_aload_n hx hb dX6_entry_73 rfl (lv_at hl 1 rfl) ?_
                    refine va_get (D := (dC, dI)) (ci := 6) (v := .int (iz (I 1))) (C := RX6) (T := TX6) (N := 44) hx hb hts kt_X6 hown hK hP 0 rfl rfl 1 (by decide) (kx_word hG kq_04_msmall_1 rfl) (fun _ h9 => h9) rfl dX6_entry_74 ?_
                    have hbd_66 := hB.1 1
                    refine lv_bipush (v := iz 80) hx hb dX6_entry_77 (by decide) ?_
                    refine ki_icmp_ne (tgt := 86) hx hb dX6_entry_79 (by decide) (by omega) (by omega) (by omega) (by omega) (fun c_67 => ?_) (fun c_67 => ?_)
                    · skip
                      refine lv_iconst (v := iz 0) hx hb dX6_entry_86 (by decide) ?_
                      refine mk_calli (As := [.int (iz 0), .int (iz 1), .int (iz 0)]) (rest := []) ⟨hx, hb, hml, hown, hts⟩ (k_refused2 l dC dI mo ma cs I F 0 H.size (by omega) (by omega)) (cwV 3 hts (kx_gV kq_04_msmall_8 kq_04_msmall_9 kq_04_msmall_10 kq_04_msmall_6 kq_04_msmall_11 rfl) rfl rfl rfl (by decide +kernel) ⟨Nat.le_of_ble_eq_true rfl, Nat.le_of_ble_eq_true rfl⟩) hP hD hK hG hZ hS hA rfl hl.1 rfl (Nat.le_of_ble_eq_true rfl) dX6_entry_87 ⟨Nat.le_of_ble_eq_true rfl, Nat.le_of_ble_eq_true rfl⟩ (fun z_68 I_70 F_71 H locs hq_69 hP hD hS => ?_)
                      try dsimp only at hq_69
                      obtain ⟨rfl, rfl, rfl⟩ := hq_69
                      refine ki_if_eq (tgt := 95) hx hb dX6_entry_90 (by decide) (by omega) (by omega) (fun c_72 => ?_) (fun c_72 => ?_)
                      · omega
                      · skip
                        refine lv_iconst (v := iz 0) hx hb dX6_entry_93 (by decide) ?_
                        exact mk_ireti hx hb hr hlocks hP hD hK hS dX6_entry_94 (Or.inr (Or.inl ⟨by omega, rfl, rfl, by omega, by omega⟩))
                    · omega
                · omega
          · skip
            refine lv_iconst (v := iz 1) hx hb dX6_entry_39 (by decide) ?_
            refine lv_goto (tgt := 44) hx hb dX6_entry_40 (by decide) ?_
            refine lv_istore_n (lv' := [(3, .int (iz 1)), (0, .ref mo), (1, .int (iz lv)), (2, .int (iz ab))]) hx hb dX6_entry_44 rfl hl (by decide) rfl (fun ls hl => ?_)
            refine lv_aload_n hx hb dX6_entry_45 rfl (lv_at hl 1 rfl) ?_
            refine lv_iload_n hx hb dX6_entry_46 rfl (lv_at hl 3 rfl) ?_
            refine lv_iconst (v := iz (-1)) hx hb dX6_entry_47 (by decide) ?_
            refine ki_icmp_eq (tgt := 63) hx hb dX6_entry_48 (by decide) (by omega) (by omega) (by omega) (by omega) (fun c_73 => ?_) (fun c_73 => ?_)
            · skip
              refine lv_iconst (v := iz 0) hx hb dX6_entry_63 (by decide) ?_
              refine lv_iload_n hx hb dX6_entry_64 rfl (lv_at hl 0 rfl) ?_
              refine ki_if_ne (tgt := 72) hx hb dX6_entry_65 (by decide) (by omega) (by omega) (fun c_74 => ?_) (fun c_74 => ?_)
              · skip
                refine lv_iconst (v := iz 0) hx hb dX6_entry_72 (by decide) ?_
                refine lv_aload_n hx hb dX6_entry_73 rfl (lv_at hl 1 rfl) ?_
                refine va_get (D := (dC, dI)) (ci := 6) (v := .int (iz (I 1))) (C := RX6) (T := TX6) (N := 44) hx hb hts kt_X6 hown hK hP 0 rfl rfl 1 (by decide) (kx_word hG kq_04_msmall_1 rfl) (fun _ h9 => h9) rfl dX6_entry_74 ?_
                have hbd_75 := hB.1 1
                refine lv_bipush (v := iz 80) hx hb dX6_entry_77 (by decide) ?_
                refine ki_icmp_ne (tgt := 86) hx hb dX6_entry_79 (by decide) (by omega) (by omega) (by omega) (by omega) (fun c_76 => ?_) (fun c_76 => ?_)
                · skip
                  refine lv_iconst (v := iz 0) hx hb dX6_entry_86 (by decide) ?_
                  refine mk_calli (As := [.int (iz 0), .int (iz 0), .int (iz 0)]) (rest := []) ⟨hx, hb, hml, hown, hts⟩ (k_refused0 l dC dI mo ma cs I F  H.size ) (cwV 3 hts (kx_gV kq_04_msmall_8 kq_04_msmall_9 kq_04_msmall_10 kq_04_msmall_6 kq_04_msmall_11 rfl) rfl rfl rfl (by decide +kernel) ⟨Nat.le_of_ble_eq_true rfl, Nat.le_of_ble_eq_true rfl⟩) hP hD hK hG hZ hS hA rfl hl.1 rfl (Nat.le_of_ble_eq_true rfl) dX6_entry_87 ⟨Nat.le_of_ble_eq_true rfl, Nat.le_of_ble_eq_true rfl⟩ (fun z_77 I_79 F_80 H locs hq_78 hP hD hS => ?_)
                  try dsimp only at hq_78
                  obtain ⟨rfl, rfl, rfl⟩ := hq_78
                  refine ki_if_eq (tgt := 95) hx hb dX6_entry_90 (by decide) (by omega) (by omega) (fun c_81 => ?_) (fun c_81 => ?_)
                  · skip
                    refine lv_aload_n hx hb dX6_entry_95 rfl (lv_at hl 1 rfl) ?_
                    refine va_get (D := (dC, dI)) (ci := 6) (v := .ref (ma 2)) (C := RX6) (T := TX6) (N := 44) hx hb hts kt_X6 hown hK hP 0 rfl rfl 2 (by decide) (kx_word hG kq_04_msmall_12 rfl) (fun _ h9 => h9) rfl dX6_entry_96 ?_
                    refine lv_aload_n hx hb dX6_entry_99 rfl (lv_at hl 1 rfl) ?_
                    refine va_get (D := (dC, dI)) (ci := 6) (v := .int (iz (I 1))) (C := RX6) (T := TX6) (N := 44) hx hb hts kt_X6 hown hK hP 0 rfl rfl 1 (by decide) (kx_word hG kq_04_msmall_1 rfl) (fun _ h9 => h9) rfl dX6_entry_100 ?_
                    refine lv_iload_n hx hb dX6_entry_103 rfl (lv_at hl 2 rfl) ?_
                    refine ki_iast (F := F 2) hx hb hK hP hD hS 1 0 rfl rfl (by omega) (by omega) (by decide) dX6_entry_104 (fun H locs hP hD hS => ?_)
                    have hP : va_P (dC, dI) kxCl (mW mo ma cs (va_up I 0 0) (va_up F 2 (upI (F 2) (I 1) lv))) H := hP
                    have hD : va_D A (mW mo ma cs (va_up I 0 0) (va_up F 2 (upI (F 2) (I 1) lv))) := hD
                    refine lv_aload_n hx hb dX6_entry_105 rfl (lv_at hl 1 rfl) ?_
                    refine va_get (D := (dC, dI)) (ci := 6) (v := .ref (ma 3)) (C := RX6) (T := TX6) (N := 44) hx hb hts kt_X6 hown hK hP 0 rfl rfl 3 (by decide) (kx_word hG kq_04_msmall_13 rfl) (fun _ h9 => h9) rfl dX6_entry_106 ?_
                    refine lv_aload_n hx hb dX6_entry_109 rfl (lv_at hl 1 rfl) ?_
                    refine va_get (D := (dC, dI)) (ci := 6) (v := .int (iz (I 1))) (C := RX6) (T := TX6) (N := 44) hx hb hts kt_X6 hown hK hP 0 rfl rfl 1 (by decide) (kx_word hG kq_04_msmall_1 rfl) (fun _ h9 => h9) rfl dX6_entry_110 ?_
                    refine lv_iload_n hx hb dX6_entry_113 rfl (lv_at hl 3 rfl) ?_
                    refine ki_iast (F := F 3) hx hb hK hP hD hS 2 1 rfl rfl (by omega) (by omega) (by decide) dX6_entry_114 (fun H locs hP hD hS => ?_)
                    have hP : va_P (dC, dI) kxCl (mW mo ma cs (va_up I 0 0) (va_up (va_up F 2 (upI (F 2) (I 1) lv)) 3 (upI (F 3) (I 1) ab))) H := hP
                    have hD : va_D A (mW mo ma cs (va_up I 0 0) (va_up (va_up F 2 (upI (F 2) (I 1) lv)) 3 (upI (F 3) (I 1) ab))) := hD
                    refine lv_aload_n hx hb dX6_entry_115 rfl (lv_at hl 1 rfl) ?_
                    refine lv_iconst (v := iz 0) hx hb dX6_entry_116 (by decide) ?_
                    refine va_put (D := (dC, dI)) (ci := 6) (v := .int (iz 0)) (ty := .boolean) (C := RX6) (T := TX6) (N := 44) hx hb hts kt_X6 tyX6 tyX6_ok nmX6 hown hK hP hD hS 0 rfl rfl 16 (by decide) (kx_word hG kq_04_msmall_14 rfl) (fun _ h9 => h9) rfl (by decide +kernel) (mz_bool (Or.inl rfl)).1 (mz_bool (Or.inl rfl)).2 (Nat.le_of_ble_eq_true rfl) dX6_entry_117 (fun H locs hP hD hS => ?_)
                    have hP : va_P (dC, dI) kxCl (mW mo ma cs (va_up (va_up I 0 0) 16 0) (va_up (va_up F 2 (upI (F 2) (I 1) lv)) 3 (upI (F 3) (I 1) ab))) H := hP
                    have hD : va_D A (mW mo ma cs (va_up (va_up I 0 0) 16 0) (va_up (va_up F 2 (upI (F 2) (I 1) lv)) 3 (upI (F 3) (I 1) ab))) := hD
                    refine lv_aload_n hx hb dX6_entry_120 rfl (lv_at hl 1 rfl) ?_
                    refine lv_dup hx hb dX6_entry_121 rfl ?_
                    refine va_get (D := (dC, dI)) (ci := 6) (v := .int (iz (I 1))) (C := RX6) (T := TX6) (N := 44) hx hb hts kt_X6 hown hK hP 0 rfl rfl 1 (by decide) (kx_word hG kq_04_msmall_1 rfl) (fun _ h9 => h9) rfl dX6_entry_122 ?_
                    refine lv_iconst (v := iz 1) hx hb dX6_entry_125 (by decide) ?_
                    refine ki_iadd hx hb dX6_entry_126 ?_
                    refine va_put (D := (dC, dI)) (ci := 6) (v := .int (iz ((I 1) + 1))) (ty := .int) (C := RX6) (T := TX6) (N := 44) hx hb hts kt_X6 tyX6 tyX6_ok nmX6 hown hK hP hD hS 0 rfl rfl 1 (by decide) (kx_word hG kq_04_msmall_1 rfl) (fun _ h9 => h9) rfl (by decide +kernel) rfl rfl (Nat.le_of_ble_eq_true rfl) dX6_entry_127 (fun H locs hP hD hS => ?_)
                    have hP : va_P (dC, dI) kxCl (mW mo ma cs (va_up (va_up (va_up I 0 0) 16 0) 1 ((I 1) + 1)) (va_up (va_up F 2 (upI (F 2) (I 1) lv)) 3 (upI (F 3) (I 1) ab))) H := hP
                    have hD : va_D A (mW mo ma cs (va_up (va_up (va_up I 0 0) 16 0) 1 ((I 1) + 1)) (va_up (va_up F 2 (upI (F 2) (I 1) lv)) 3 (upI (F 3) (I 1) ab))) := hD
                    refine lv_aload_n hx hb dX6_entry_130 rfl (lv_at hl 1 rfl) ?_
                    refine va_get (D := (dC, dI)) (ci := 6) (v := .int (iz ((I 1) + 1))) (C := RX6) (T := TX6) (N := 44) hx hb hts kt_X6 hown hK hP 0 rfl rfl 1 (by decide) (kx_word hG kq_04_msmall_1 rfl) (fun _ h9 => h9) rfl dX6_entry_131 ?_
                    refine lv_iconst (v := iz 1) hx hb dX6_entry_134 (by decide) ?_
                    refine ki_isub hx hb dX6_entry_135 ?_
                    exact mk_ireti hx hb hr hlocks hP hD hK hS dX6_entry_136 (Or.inr (Or.inr ⟨rfl, rfl, by omega, by omega⟩))
                  · omega
                · omega
              · omega
            · skip
              refine lv_aload_n hx hb dX6_entry_51 rfl (lv_at hl 1 rfl) ?_
              refine lv_iload_n hx hb dX6_entry_52 rfl (lv_at hl 3 rfl) ?_
              refine mk_calli (As := [.int (iz ab)]) (rest := [.ref mo]) ⟨hx, hb, hml, hown, hts⟩ (k_isNone l dC dI mo ma cs I F ab H.size hB (by omega) (by omega)) (cwV 1 hts (kx_gV kq_04_msmall_3 kq_04_msmall_4 kq_04_msmall_5 kq_04_msmall_6 kq_04_msmall_7 rfl) rfl rfl rfl (by decide +kernel) ⟨Nat.le_of_ble_eq_true rfl, Nat.le_of_ble_eq_true rfl⟩) hP hD hK hG hZ hS hA rfl hl.1 rfl (Nat.le_of_ble_eq_true rfl) dX6_entry_53 ⟨Nat.le_of_ble_eq_true rfl, Nat.le_of_ble_eq_true rfl⟩ (fun z_82 I_84 F_85 H locs hq_83 hP hD hS => ?_)
              try dsimp only at hq_83
              obtain ⟨rfl, rfl, hq_83⟩ := hq_83
              rcases hq_83 with ⟨rfl, hq_83⟩ | ⟨rfl, hq_83⟩
              · skip
                refine ki_if_eq (tgt := 63) hx hb dX6_entry_56 (by decide) (by omega) (by omega) (fun c_86 => ?_) (fun c_86 => ?_)
                · omega
                · skip
                  refine lv_iconst (v := iz 1) hx hb dX6_entry_59 (by decide) ?_
                  refine lv_goto (tgt := 64) hx hb dX6_entry_60 (by decide) ?_
                  refine lv_iload_n hx hb dX6_entry_64 rfl (lv_at hl 0 rfl) ?_
                  refine ki_if_ne (tgt := 72) hx hb dX6_entry_65 (by decide) (by omega) (by omega) (fun c_87 => ?_) (fun c_87 => ?_)
                  · skip
                    refine lv_iconst (v := iz 0) hx hb dX6_entry_72 (by decide) ?_
                    refine lv_aload_n hx hb dX6_entry_73 rfl (lv_at hl 1 rfl) ?_
                    refine va_get (D := (dC, dI)) (ci := 6) (v := .int (iz (I 1))) (C := RX6) (T := TX6) (N := 44) hx hb hts kt_X6 hown hK hP 0 rfl rfl 1 (by decide) (kx_word hG kq_04_msmall_1 rfl) (fun _ h9 => h9) rfl dX6_entry_74 ?_
                    have hbd_88 := hB.1 1
                    refine lv_bipush (v := iz 80) hx hb dX6_entry_77 (by decide) ?_
                    refine ki_icmp_ne (tgt := 86) hx hb dX6_entry_79 (by decide) (by omega) (by omega) (by omega) (by omega) (fun c_89 => ?_) (fun c_89 => ?_)
                    · skip
                      refine lv_iconst (v := iz 0) hx hb dX6_entry_86 (by decide) ?_
                      refine mk_calli (As := [.int (iz 1), .int (iz 0), .int (iz 0)]) (rest := []) ⟨hx, hb, hml, hown, hts⟩ (k_refused1 l dC dI mo ma cs I F 0 0 H.size (by omega) (by omega) (by omega) (by omega)) (cwV 3 hts (kx_gV kq_04_msmall_8 kq_04_msmall_9 kq_04_msmall_10 kq_04_msmall_6 kq_04_msmall_11 rfl) rfl rfl rfl (by decide +kernel) ⟨Nat.le_of_ble_eq_true rfl, Nat.le_of_ble_eq_true rfl⟩) hP hD hK hG hZ hS hA rfl hl.1 rfl (Nat.le_of_ble_eq_true rfl) dX6_entry_87 ⟨Nat.le_of_ble_eq_true rfl, Nat.le_of_ble_eq_true rfl⟩ (fun z_90 I_92 F_93 H locs hq_91 hP hD hS => ?_)
                      try dsimp only at hq_91
                      obtain ⟨rfl, rfl, rfl⟩ := hq_91
                      refine ki_if_eq (tgt := 95) hx hb dX6_entry_90 (by decide) (by omega) (by omega) (fun c_94 => ?_) (fun c_94 => ?_)
                      · omega
                      · skip
                        refine lv_iconst (v := iz 0) hx hb dX6_entry_93 (by decide) ?_
                        exact mk_ireti hx hb hr hlocks hP hD hK hS dX6_entry_94 (Or.inl ⟨by omega, rfl, rfl, by omega, by omega⟩)
                    · omega
                  · omega
              · skip
                refine ki_if_eq (tgt := 63) hx hb dX6_entry_56 (by decide) (by omega) (by omega) (fun c_95 => ?_) (fun c_95 => ?_)
                · skip
                  refine lv_iconst (v := iz 0) hx hb dX6_entry_63 (by decide) ?_
                  refine lv_iload_n hx hb dX6_entry_64 rfl (lv_at hl 0 rfl) ?_
                  refine ki_if_ne (tgt := 72) hx hb dX6_entry_65 (by decide) (by omega) (by omega) (fun c_96 => ?_) (fun c_96 => ?_)
                  · skip
                    refine lv_iconst (v := iz 0) hx hb dX6_entry_72 (by decide) ?_
                    refine lv_aload_n hx hb dX6_entry_73 rfl (lv_at hl 1 rfl) ?_
                    refine va_get (D := (dC, dI)) (ci := 6) (v := .int (iz (I 1))) (C := RX6) (T := TX6) (N := 44) hx hb hts kt_X6 hown hK hP 0 rfl rfl 1 (by decide) (kx_word hG kq_04_msmall_1 rfl) (fun _ h9 => h9) rfl dX6_entry_74 ?_
                    have hbd_97 := hB.1 1
                    refine lv_bipush (v := iz 80) hx hb dX6_entry_77 (by decide) ?_
                    refine ki_icmp_ne (tgt := 86) hx hb dX6_entry_79 (by decide) (by omega) (by omega) (by omega) (by omega) (fun c_98 => ?_) (fun c_98 => ?_)
                    · skip
                      refine lv_iconst (v := iz 0) hx hb dX6_entry_86 (by decide) ?_
                      refine mk_calli (As := [.int (iz 0), .int (iz 0), .int (iz 0)]) (rest := []) ⟨hx, hb, hml, hown, hts⟩ (k_refused0 l dC dI mo ma cs I F  H.size ) (cwV 3 hts (kx_gV kq_04_msmall_8 kq_04_msmall_9 kq_04_msmall_10 kq_04_msmall_6 kq_04_msmall_11 rfl) rfl rfl rfl (by decide +kernel) ⟨Nat.le_of_ble_eq_true rfl, Nat.le_of_ble_eq_true rfl⟩) hP hD hK hG hZ hS hA rfl hl.1 rfl (Nat.le_of_ble_eq_true rfl) dX6_entry_87 ⟨Nat.le_of_ble_eq_true rfl, Nat.le_of_ble_eq_true rfl⟩ (fun z_99 I_101 F_102 H locs hq_100 hP hD hS => ?_)
                      try dsimp only at hq_100
                      obtain ⟨rfl, rfl, rfl⟩ := hq_100
                      refine ki_if_eq (tgt := 95) hx hb dX6_entry_90 (by decide) (by omega) (by omega) (fun c_103 => ?_) (fun c_103 => ?_)
                      · skip
                        refine lv_aload_n hx hb dX6_entry_95 rfl (lv_at hl 1 rfl) ?_
                        refine va_get (D := (dC, dI)) (ci := 6) (v := .ref (ma 2)) (C := RX6) (T := TX6) (N := 44) hx hb hts kt_X6 hown hK hP 0 rfl rfl 2 (by decide) (kx_word hG kq_04_msmall_12 rfl) (fun _ h9 => h9) rfl dX6_entry_96 ?_
                        refine lv_aload_n hx hb dX6_entry_99 rfl (lv_at hl 1 rfl) ?_
                        refine va_get (D := (dC, dI)) (ci := 6) (v := .int (iz (I 1))) (C := RX6) (T := TX6) (N := 44) hx hb hts kt_X6 hown hK hP 0 rfl rfl 1 (by decide) (kx_word hG kq_04_msmall_1 rfl) (fun _ h9 => h9) rfl dX6_entry_100 ?_
                        refine lv_iload_n hx hb dX6_entry_103 rfl (lv_at hl 2 rfl) ?_
                        refine ki_iast (F := F 2) hx hb hK hP hD hS 1 0 rfl rfl (by omega) (by omega) (by decide) dX6_entry_104 (fun H locs hP hD hS => ?_)
                        have hP : va_P (dC, dI) kxCl (mW mo ma cs (va_up I 0 0) (va_up F 2 (upI (F 2) (I 1) lv))) H := hP
                        have hD : va_D A (mW mo ma cs (va_up I 0 0) (va_up F 2 (upI (F 2) (I 1) lv))) := hD
                        refine lv_aload_n hx hb dX6_entry_105 rfl (lv_at hl 1 rfl) ?_
                        refine va_get (D := (dC, dI)) (ci := 6) (v := .ref (ma 3)) (C := RX6) (T := TX6) (N := 44) hx hb hts kt_X6 hown hK hP 0 rfl rfl 3 (by decide) (kx_word hG kq_04_msmall_13 rfl) (fun _ h9 => h9) rfl dX6_entry_106 ?_
                        refine lv_aload_n hx hb dX6_entry_109 rfl (lv_at hl 1 rfl) ?_
                        refine va_get (D := (dC, dI)) (ci := 6) (v := .int (iz (I 1))) (C := RX6) (T := TX6) (N := 44) hx hb hts kt_X6 hown hK hP 0 rfl rfl 1 (by decide) (kx_word hG kq_04_msmall_1 rfl) (fun _ h9 => h9) rfl dX6_entry_110 ?_
                        refine lv_iload_n hx hb dX6_entry_113 rfl (lv_at hl 3 rfl) ?_
                        refine ki_iast (F := F 3) hx hb hK hP hD hS 2 1 rfl rfl (by omega) (by omega) (by decide) dX6_entry_114 (fun H locs hP hD hS => ?_)
                        have hP : va_P (dC, dI) kxCl (mW mo ma cs (va_up I 0 0) (va_up (va_up F 2 (upI (F 2) (I 1) lv)) 3 (upI (F 3) (I 1) ab))) H := hP
                        have hD : va_D A (mW mo ma cs (va_up I 0 0) (va_up (va_up F 2 (upI (F 2) (I 1) lv)) 3 (upI (F 3) (I 1) ab))) := hD
                        refine lv_aload_n hx hb dX6_entry_115 rfl (lv_at hl 1 rfl) ?_
                        refine lv_iconst (v := iz 0) hx hb dX6_entry_116 (by decide) ?_
                        refine va_put (D := (dC, dI)) (ci := 6) (v := .int (iz 0)) (ty := .boolean) (C := RX6) (T := TX6) (N := 44) hx hb hts kt_X6 tyX6 tyX6_ok nmX6 hown hK hP hD hS 0 rfl rfl 16 (by decide) (kx_word hG kq_04_msmall_14 rfl) (fun _ h9 => h9) rfl (by decide +kernel) (mz_bool (Or.inl rfl)).1 (mz_bool (Or.inl rfl)).2 (Nat.le_of_ble_eq_true rfl) dX6_entry_117 (fun H locs hP hD hS => ?_)
                        have hP : va_P (dC, dI) kxCl (mW mo ma cs (va_up (va_up I 0 0) 16 0) (va_up (va_up F 2 (upI (F 2) (I 1) lv)) 3 (upI (F 3) (I 1) ab))) H := hP
                        have hD : va_D A (mW mo ma cs (va_up (va_up I 0 0) 16 0) (va_up (va_up F 2 (upI (F 2) (I 1) lv)) 3 (upI (F 3) (I 1) ab))) := hD
                        refine lv_aload_n hx hb dX6_entry_120 rfl (lv_at hl 1 rfl) ?_
                        refine lv_dup hx hb dX6_entry_121 rfl ?_
                        refine va_get (D := (dC, dI)) (ci := 6) (v := .int (iz (I 1))) (C := RX6) (T := TX6) (N := 44) hx hb hts kt_X6 hown hK hP 0 rfl rfl 1 (by decide) (kx_word hG kq_04_msmall_1 rfl) (fun _ h9 => h9) rfl dX6_entry_122 ?_
                        refine lv_iconst (v := iz 1) hx hb dX6_entry_125 (by decide) ?_
                        refine ki_iadd hx hb dX6_entry_126 ?_
                        refine va_put (D := (dC, dI)) (ci := 6) (v := .int (iz ((I 1) + 1))) (ty := .int) (C := RX6) (T := TX6) (N := 44) hx hb hts kt_X6 tyX6 tyX6_ok nmX6 hown hK hP hD hS 0 rfl rfl 1 (by decide) (kx_word hG kq_04_msmall_1 rfl) (fun _ h9 => h9) rfl (by decide +kernel) rfl rfl (Nat.le_of_ble_eq_true rfl) dX6_entry_127 (fun H locs hP hD hS => ?_)
                        have hP : va_P (dC, dI) kxCl (mW mo ma cs (va_up (va_up (va_up I 0 0) 16 0) 1 ((I 1) + 1)) (va_up (va_up F 2 (upI (F 2) (I 1) lv)) 3 (upI (F 3) (I 1) ab))) H := hP
                        have hD : va_D A (mW mo ma cs (va_up (va_up (va_up I 0 0) 16 0) 1 ((I 1) + 1)) (va_up (va_up F 2 (upI (F 2) (I 1) lv)) 3 (upI (F 3) (I 1) ab))) := hD
                        refine lv_aload_n hx hb dX6_entry_130 rfl (lv_at hl 1 rfl) ?_
                        refine va_get (D := (dC, dI)) (ci := 6) (v := .int (iz ((I 1) + 1))) (C := RX6) (T := TX6) (N := 44) hx hb hts kt_X6 hown hK hP 0 rfl rfl 1 (by decide) (kx_word hG kq_04_msmall_1 rfl) (fun _ h9 => h9) rfl dX6_entry_131 ?_
                        refine lv_iconst (v := iz 1) hx hb dX6_entry_134 (by decide) ?_
                        refine ki_isub hx hb dX6_entry_135 ?_
                        exact mk_ireti hx hb hr hlocks hP hD hK hS dX6_entry_136 (Or.inr (Or.inr ⟨rfl, rfl, by omega, by omega⟩))
                      · omega
                    · omega
                  · omega
                · omega
    · skip
      refine lv_iload_n hx hb dX6_entry_14 rfl (lv_at hl 1 rfl) ?_
      refine lv_iconst (v := iz 2) hx hb dX6_entry_15 (by decide) ?_
      refine ki_icmp_ne (tgt := 43) hx hb dX6_entry_16 (by decide) (by omega) (by omega) (by omega) (by omega) (fun c_104 => ?_) (fun c_104 => ?_)
      · skip
        refine lv_iconst (v := iz 0) hx hb dX6_entry_43 (by decide) ?_
        refine lv_istore_n (lv' := [(3, .int (iz 0)), (0, .ref mo), (1, .int (iz lv)), (2, .int (iz ab))]) hx hb dX6_entry_44 rfl hl (by decide) rfl (fun ls hl => ?_)
        refine lv_aload_n hx hb dX6_entry_45 rfl (lv_at hl 1 rfl) ?_
        refine lv_iload_n hx hb dX6_entry_46 rfl (lv_at hl 3 rfl) ?_
        refine lv_iconst (v := iz (-1)) hx hb dX6_entry_47 (by decide) ?_
        refine ki_icmp_eq (tgt := 63) hx hb dX6_entry_48 (by decide) (by omega) (by omega) (by omega) (by omega) (fun c_105 => ?_) (fun c_105 => ?_)
        · skip
          refine lv_iconst (v := iz 0) hx hb dX6_entry_63 (by decide) ?_
          refine lv_iload_n hx hb dX6_entry_64 rfl (lv_at hl 0 rfl) ?_
          refine ki_if_ne (tgt := 72) hx hb dX6_entry_65 (by decide) (by omega) (by omega) (fun c_106 => ?_) (fun c_106 => ?_)
          · omega
          · skip
            refine lv_iconst (v := iz 1) hx hb dX6_entry_68 (by decide) ?_
            refine lv_goto (tgt := 73) hx hb dX6_entry_69 (by decide) ?_
            refine lv_aload_n hx hb dX6_entry_73 rfl (lv_at hl 1 rfl) ?_
            refine va_get (D := (dC, dI)) (ci := 6) (v := .int (iz (I 1))) (C := RX6) (T := TX6) (N := 44) hx hb hts kt_X6 hown hK hP 0 rfl rfl 1 (by decide) (kx_word hG kq_04_msmall_1 rfl) (fun _ h9 => h9) rfl dX6_entry_74 ?_
            have hbd_107 := hB.1 1
            refine lv_bipush (v := iz 80) hx hb dX6_entry_77 (by decide) ?_
            refine ki_icmp_ne (tgt := 86) hx hb dX6_entry_79 (by decide) (by omega) (by omega) (by omega) (by omega) (fun c_108 => ?_) (fun c_108 => ?_)
            · skip
              refine lv_iconst (v := iz 0) hx hb dX6_entry_86 (by decide) ?_
              refine mk_calli (As := [.int (iz 0), .int (iz 1), .int (iz 0)]) (rest := []) ⟨hx, hb, hml, hown, hts⟩ (k_refused2 l dC dI mo ma cs I F 0 s.heap.size (by omega) (by omega)) (cwV 3 hts (kx_gV kq_04_msmall_8 kq_04_msmall_9 kq_04_msmall_10 kq_04_msmall_6 kq_04_msmall_11 rfl) rfl rfl rfl (by decide +kernel) ⟨Nat.le_of_ble_eq_true rfl, Nat.le_of_ble_eq_true rfl⟩) hP hD hK hG hZ hS hA rfl hl.1 rfl (Nat.le_of_ble_eq_true rfl) dX6_entry_87 ⟨Nat.le_of_ble_eq_true rfl, Nat.le_of_ble_eq_true rfl⟩ (fun z_109 I_111 F_112 H locs hq_110 hP hD hS => ?_)
              try dsimp only at hq_110
              obtain ⟨rfl, rfl, rfl⟩ := hq_110
              refine ki_if_eq (tgt := 95) hx hb dX6_entry_90 (by decide) (by omega) (by omega) (fun c_113 => ?_) (fun c_113 => ?_)
              · omega
              · skip
                refine lv_iconst (v := iz 0) hx hb dX6_entry_93 (by decide) ?_
                exact mk_ireti hx hb hr hlocks hP hD hK hS dX6_entry_94 (Or.inr (Or.inl ⟨by omega, rfl, rfl, by omega, by omega⟩))
            · omega
        · skip
          refine lv_aload_n hx hb dX6_entry_51 rfl (lv_at hl 1 rfl) ?_
          refine lv_iload_n hx hb dX6_entry_52 rfl (lv_at hl 3 rfl) ?_
          refine mk_calli (As := [.int (iz ab)]) (rest := [.ref mo]) ⟨hx, hb, hml, hown, hts⟩ (k_isNone l dC dI mo ma cs I F ab s.heap.size hB (by omega) (by omega)) (cwV 1 hts (kx_gV kq_04_msmall_3 kq_04_msmall_4 kq_04_msmall_5 kq_04_msmall_6 kq_04_msmall_7 rfl) rfl rfl rfl (by decide +kernel) ⟨Nat.le_of_ble_eq_true rfl, Nat.le_of_ble_eq_true rfl⟩) hP hD hK hG hZ hS hA rfl hl.1 rfl (Nat.le_of_ble_eq_true rfl) dX6_entry_53 ⟨Nat.le_of_ble_eq_true rfl, Nat.le_of_ble_eq_true rfl⟩ (fun z_114 I_116 F_117 H locs hq_115 hP hD hS => ?_)
          try dsimp only at hq_115
          obtain ⟨rfl, rfl, hq_115⟩ := hq_115
          rcases hq_115 with ⟨rfl, hq_115⟩ | ⟨rfl, hq_115⟩
          · skip
            refine ki_if_eq (tgt := 63) hx hb dX6_entry_56 (by decide) (by omega) (by omega) (fun c_118 => ?_) (fun c_118 => ?_)
            · omega
            · skip
              refine lv_iconst (v := iz 1) hx hb dX6_entry_59 (by decide) ?_
              refine lv_goto (tgt := 64) hx hb dX6_entry_60 (by decide) ?_
              refine lv_iload_n hx hb dX6_entry_64 rfl (lv_at hl 0 rfl) ?_
              refine ki_if_ne (tgt := 72) hx hb dX6_entry_65 (by decide) (by omega) (by omega) (fun c_119 => ?_) (fun c_119 => ?_)
              · omega
              · skip
                refine lv_iconst (v := iz 1) hx hb dX6_entry_68 (by decide) ?_
                refine lv_goto (tgt := 73) hx hb dX6_entry_69 (by decide) ?_
                refine lv_aload_n hx hb dX6_entry_73 rfl (lv_at hl 1 rfl) ?_
                refine va_get (D := (dC, dI)) (ci := 6) (v := .int (iz (I 1))) (C := RX6) (T := TX6) (N := 44) hx hb hts kt_X6 hown hK hP 0 rfl rfl 1 (by decide) (kx_word hG kq_04_msmall_1 rfl) (fun _ h9 => h9) rfl dX6_entry_74 ?_
                have hbd_120 := hB.1 1
                refine lv_bipush (v := iz 80) hx hb dX6_entry_77 (by decide) ?_
                refine ki_icmp_ne (tgt := 86) hx hb dX6_entry_79 (by decide) (by omega) (by omega) (by omega) (by omega) (fun c_121 => ?_) (fun c_121 => ?_)
                · skip
                  refine lv_iconst (v := iz 0) hx hb dX6_entry_86 (by decide) ?_
                  refine mk_calli (As := [.int (iz 1), .int (iz 1), .int (iz 0)]) (rest := []) ⟨hx, hb, hml, hown, hts⟩ (k_refused1 l dC dI mo ma cs I F 1 0 H.size (by omega) (by omega) (by omega) (by omega)) (cwV 3 hts (kx_gV kq_04_msmall_8 kq_04_msmall_9 kq_04_msmall_10 kq_04_msmall_6 kq_04_msmall_11 rfl) rfl rfl rfl (by decide +kernel) ⟨Nat.le_of_ble_eq_true rfl, Nat.le_of_ble_eq_true rfl⟩) hP hD hK hG hZ hS hA rfl hl.1 rfl (Nat.le_of_ble_eq_true rfl) dX6_entry_87 ⟨Nat.le_of_ble_eq_true rfl, Nat.le_of_ble_eq_true rfl⟩ (fun z_122 I_124 F_125 H locs hq_123 hP hD hS => ?_)
                  try dsimp only at hq_123
                  obtain ⟨rfl, rfl, rfl⟩ := hq_123
                  refine ki_if_eq (tgt := 95) hx hb dX6_entry_90 (by decide) (by omega) (by omega) (fun c_126 => ?_) (fun c_126 => ?_)
                  · omega
                  · skip
                    refine lv_iconst (v := iz 0) hx hb dX6_entry_93 (by decide) ?_
                    exact mk_ireti hx hb hr hlocks hP hD hK hS dX6_entry_94 (Or.inl ⟨by omega, rfl, rfl, by omega, by omega⟩)
                · omega
          · skip
            refine ki_if_eq (tgt := 63) hx hb dX6_entry_56 (by decide) (by omega) (by omega) (fun c_127 => ?_) (fun c_127 => ?_)
            · skip
              refine lv_iconst (v := iz 0) hx hb dX6_entry_63 (by decide) ?_
              refine lv_iload_n hx hb dX6_entry_64 rfl (lv_at hl 0 rfl) ?_
              refine ki_if_ne (tgt := 72) hx hb dX6_entry_65 (by decide) (by omega) (by omega) (fun c_128 => ?_) (fun c_128 => ?_)
              · omega
              · skip
                refine lv_iconst (v := iz 1) hx hb dX6_entry_68 (by decide) ?_
                refine lv_goto (tgt := 73) hx hb dX6_entry_69 (by decide) ?_
                refine lv_aload_n hx hb dX6_entry_73 rfl (lv_at hl 1 rfl) ?_
                refine va_get (D := (dC, dI)) (ci := 6) (v := .int (iz (I 1))) (C := RX6) (T := TX6) (N := 44) hx hb hts kt_X6 hown hK hP 0 rfl rfl 1 (by decide) (kx_word hG kq_04_msmall_1 rfl) (fun _ h9 => h9) rfl dX6_entry_74 ?_
                have hbd_129 := hB.1 1
                refine lv_bipush (v := iz 80) hx hb dX6_entry_77 (by decide) ?_
                refine ki_icmp_ne (tgt := 86) hx hb dX6_entry_79 (by decide) (by omega) (by omega) (by omega) (by omega) (fun c_130 => ?_) (fun c_130 => ?_)
                · skip
                  refine lv_iconst (v := iz 0) hx hb dX6_entry_86 (by decide) ?_
                  refine mk_calli (As := [.int (iz 0), .int (iz 1), .int (iz 0)]) (rest := []) ⟨hx, hb, hml, hown, hts⟩ (k_refused2 l dC dI mo ma cs I F 0 H.size (by omega) (by omega)) (cwV 3 hts (kx_gV kq_04_msmall_8 kq_04_msmall_9 kq_04_msmall_10 kq_04_msmall_6 kq_04_msmall_11 rfl) rfl rfl rfl (by decide +kernel) ⟨Nat.le_of_ble_eq_true rfl, Nat.le_of_ble_eq_true rfl⟩) hP hD hK hG hZ hS hA rfl hl.1 rfl (Nat.le_of_ble_eq_true rfl) dX6_entry_87 ⟨Nat.le_of_ble_eq_true rfl, Nat.le_of_ble_eq_true rfl⟩ (fun z_131 I_133 F_134 H locs hq_132 hP hD hS => ?_)
                  try dsimp only at hq_132
                  obtain ⟨rfl, rfl, rfl⟩ := hq_132
                  refine ki_if_eq (tgt := 95) hx hb dX6_entry_90 (by decide) (by omega) (by omega) (fun c_135 => ?_) (fun c_135 => ?_)
                  · omega
                  · skip
                    refine lv_iconst (v := iz 0) hx hb dX6_entry_93 (by decide) ?_
                    exact mk_ireti hx hb hr hlocks hP hD hK hS dX6_entry_94 (Or.inr (Or.inl ⟨by omega, rfl, rfl, by omega, by omega⟩))
                · omega
            · omega
      · skip
        refine lv_aload_n hx hb dX6_entry_19 rfl (lv_at hl 0 rfl) ?_
        refine lv_iload_n hx hb dX6_entry_20 rfl (lv_at hl 2 rfl) ?_
        refine mk_calli (As := [.int (iz ab)]) (rest := []) ⟨hx, hb, hml, hown, hts⟩ (k_isNone l dC dI mo ma cs I F ab s.heap.size hB (by omega) (by omega)) (cwV 1 hts (kx_gV kq_04_msmall_3 kq_04_msmall_4 kq_04_msmall_5 kq_04_msmall_6 kq_04_msmall_7 rfl) rfl rfl rfl (by decide +kernel) ⟨Nat.le_of_ble_eq_true rfl, Nat.le_of_ble_eq_true rfl⟩) hP hD hK hG hZ hS hA rfl hl.1 rfl (Nat.le_of_ble_eq_true rfl) dX6_entry_21 ⟨Nat.le_of_ble_eq_true rfl, Nat.le_of_ble_eq_true rfl⟩ (fun z_136 I_138 F_139 H locs hq_137 hP hD hS => ?_)
        try dsimp only at hq_137
        obtain ⟨rfl, rfl, hq_137⟩ := hq_137
        rcases hq_137 with ⟨rfl, hq_137⟩ | ⟨rfl, hq_137⟩
        · skip
          refine ki_if_ne (tgt := 43) hx hb dX6_entry_24 (by decide) (by omega) (by omega) (fun c_140 => ?_) (fun c_140 => ?_)
          · skip
            refine lv_iconst (v := iz 0) hx hb dX6_entry_43 (by decide) ?_
            refine lv_istore_n (lv' := [(3, .int (iz 0)), (0, .ref mo), (1, .int (iz lv)), (2, .int (iz ab))]) hx hb dX6_entry_44 rfl hl (by decide) rfl (fun ls hl => ?_)
            refine lv_aload_n hx hb dX6_entry_45 rfl (lv_at hl 1 rfl) ?_
            refine lv_iload_n hx hb dX6_entry_46 rfl (lv_at hl 3 rfl) ?_
            refine lv_iconst (v := iz (-1)) hx hb dX6_entry_47 (by decide) ?_
            refine ki_icmp_eq (tgt := 63) hx hb dX6_entry_48 (by decide) (by omega) (by omega) (by omega) (by omega) (fun c_141 => ?_) (fun c_141 => ?_)
            · skip
              refine lv_iconst (v := iz 0) hx hb dX6_entry_63 (by decide) ?_
              refine lv_iload_n hx hb dX6_entry_64 rfl (lv_at hl 0 rfl) ?_
              refine ki_if_ne (tgt := 72) hx hb dX6_entry_65 (by decide) (by omega) (by omega) (fun c_142 => ?_) (fun c_142 => ?_)
              · omega
              · skip
                refine lv_iconst (v := iz 1) hx hb dX6_entry_68 (by decide) ?_
                refine lv_goto (tgt := 73) hx hb dX6_entry_69 (by decide) ?_
                refine lv_aload_n hx hb dX6_entry_73 rfl (lv_at hl 1 rfl) ?_
                refine va_get (D := (dC, dI)) (ci := 6) (v := .int (iz (I 1))) (C := RX6) (T := TX6) (N := 44) hx hb hts kt_X6 hown hK hP 0 rfl rfl 1 (by decide) (kx_word hG kq_04_msmall_1 rfl) (fun _ h9 => h9) rfl dX6_entry_74 ?_
                have hbd_143 := hB.1 1
                refine lv_bipush (v := iz 80) hx hb dX6_entry_77 (by decide) ?_
                refine ki_icmp_ne (tgt := 86) hx hb dX6_entry_79 (by decide) (by omega) (by omega) (by omega) (by omega) (fun c_144 => ?_) (fun c_144 => ?_)
                · skip
                  refine lv_iconst (v := iz 0) hx hb dX6_entry_86 (by decide) ?_
                  refine mk_calli (As := [.int (iz 0), .int (iz 1), .int (iz 0)]) (rest := []) ⟨hx, hb, hml, hown, hts⟩ (k_refused2 l dC dI mo ma cs I F 0 H.size (by omega) (by omega)) (cwV 3 hts (kx_gV kq_04_msmall_8 kq_04_msmall_9 kq_04_msmall_10 kq_04_msmall_6 kq_04_msmall_11 rfl) rfl rfl rfl (by decide +kernel) ⟨Nat.le_of_ble_eq_true rfl, Nat.le_of_ble_eq_true rfl⟩) hP hD hK hG hZ hS hA rfl hl.1 rfl (Nat.le_of_ble_eq_true rfl) dX6_entry_87 ⟨Nat.le_of_ble_eq_true rfl, Nat.le_of_ble_eq_true rfl⟩ (fun z_145 I_147 F_148 H locs hq_146 hP hD hS => ?_)
                  try dsimp only at hq_146
                  obtain ⟨rfl, rfl, rfl⟩ := hq_146
                  refine ki_if_eq (tgt := 95) hx hb dX6_entry_90 (by decide) (by omega) (by omega) (fun c_149 => ?_) (fun c_149 => ?_)
                  · omega
                  · skip
                    refine lv_iconst (v := iz 0) hx hb dX6_entry_93 (by decide) ?_
                    exact mk_ireti hx hb hr hlocks hP hD hK hS dX6_entry_94 (Or.inr (Or.inl ⟨by omega, rfl, rfl, by omega, by omega⟩))
                · omega
            · skip
              refine lv_aload_n hx hb dX6_entry_51 rfl (lv_at hl 1 rfl) ?_
              refine lv_iload_n hx hb dX6_entry_52 rfl (lv_at hl 3 rfl) ?_
              refine mk_calli (As := [.int (iz ab)]) (rest := [.ref mo]) ⟨hx, hb, hml, hown, hts⟩ (k_isNone l dC dI mo ma cs I F ab H.size hB (by omega) (by omega)) (cwV 1 hts (kx_gV kq_04_msmall_3 kq_04_msmall_4 kq_04_msmall_5 kq_04_msmall_6 kq_04_msmall_7 rfl) rfl rfl rfl (by decide +kernel) ⟨Nat.le_of_ble_eq_true rfl, Nat.le_of_ble_eq_true rfl⟩) hP hD hK hG hZ hS hA rfl hl.1 rfl (Nat.le_of_ble_eq_true rfl) dX6_entry_53 ⟨Nat.le_of_ble_eq_true rfl, Nat.le_of_ble_eq_true rfl⟩ (fun z_150 I_152 F_153 H locs hq_151 hP hD hS => ?_)
              try dsimp only at hq_151
              obtain ⟨rfl, rfl, hq_151⟩ := hq_151
              rcases hq_151 with ⟨rfl, hq_151⟩ | ⟨rfl, hq_151⟩
              · skip
                refine ki_if_eq (tgt := 63) hx hb dX6_entry_56 (by decide) (by omega) (by omega) (fun c_154 => ?_) (fun c_154 => ?_)
                · omega
                · skip
                  refine lv_iconst (v := iz 1) hx hb dX6_entry_59 (by decide) ?_
                  refine lv_goto (tgt := 64) hx hb dX6_entry_60 (by decide) ?_
                  refine lv_iload_n hx hb dX6_entry_64 rfl (lv_at hl 0 rfl) ?_
                  refine ki_if_ne (tgt := 72) hx hb dX6_entry_65 (by decide) (by omega) (by omega) (fun c_155 => ?_) (fun c_155 => ?_)
                  · omega
                  · skip
                    refine lv_iconst (v := iz 1) hx hb dX6_entry_68 (by decide) ?_
                    refine lv_goto (tgt := 73) hx hb dX6_entry_69 (by decide) ?_
                    refine lv_aload_n hx hb dX6_entry_73 rfl (lv_at hl 1 rfl) ?_
                    refine va_get (D := (dC, dI)) (ci := 6) (v := .int (iz (I 1))) (C := RX6) (T := TX6) (N := 44) hx hb hts kt_X6 hown hK hP 0 rfl rfl 1 (by decide) (kx_word hG kq_04_msmall_1 rfl) (fun _ h9 => h9) rfl dX6_entry_74 ?_
                    have hbd_156 := hB.1 1
                    refine lv_bipush (v := iz 80) hx hb dX6_entry_77 (by decide) ?_
                    refine ki_icmp_ne (tgt := 86) hx hb dX6_entry_79 (by decide) (by omega) (by omega) (by omega) (by omega) (fun c_157 => ?_) (fun c_157 => ?_)
                    · skip
                      refine lv_iconst (v := iz 0) hx hb dX6_entry_86 (by decide) ?_
                      refine mk_calli (As := [.int (iz 1), .int (iz 1), .int (iz 0)]) (rest := []) ⟨hx, hb, hml, hown, hts⟩ (k_refused1 l dC dI mo ma cs I F 1 0 H.size (by omega) (by omega) (by omega) (by omega)) (cwV 3 hts (kx_gV kq_04_msmall_8 kq_04_msmall_9 kq_04_msmall_10 kq_04_msmall_6 kq_04_msmall_11 rfl) rfl rfl rfl (by decide +kernel) ⟨Nat.le_of_ble_eq_true rfl, Nat.le_of_ble_eq_true rfl⟩) hP hD hK hG hZ hS hA rfl hl.1 rfl (Nat.le_of_ble_eq_true rfl) dX6_entry_87 ⟨Nat.le_of_ble_eq_true rfl, Nat.le_of_ble_eq_true rfl⟩ (fun z_158 I_160 F_161 H locs hq_159 hP hD hS => ?_)
                      try dsimp only at hq_159
                      obtain ⟨rfl, rfl, rfl⟩ := hq_159
                      refine ki_if_eq (tgt := 95) hx hb dX6_entry_90 (by decide) (by omega) (by omega) (fun c_162 => ?_) (fun c_162 => ?_)
                      · omega
                      · skip
                        refine lv_iconst (v := iz 0) hx hb dX6_entry_93 (by decide) ?_
                        exact mk_ireti hx hb hr hlocks hP hD hK hS dX6_entry_94 (Or.inl ⟨by omega, rfl, rfl, by omega, by omega⟩)
                    · omega
              · skip
                refine ki_if_eq (tgt := 63) hx hb dX6_entry_56 (by decide) (by omega) (by omega) (fun c_163 => ?_) (fun c_163 => ?_)
                · skip
                  refine lv_iconst (v := iz 0) hx hb dX6_entry_63 (by decide) ?_
                  refine lv_iload_n hx hb dX6_entry_64 rfl (lv_at hl 0 rfl) ?_
                  refine ki_if_ne (tgt := 72) hx hb dX6_entry_65 (by decide) (by omega) (by omega) (fun c_164 => ?_) (fun c_164 => ?_)
                  · omega
                  · skip
                    refine lv_iconst (v := iz 1) hx hb dX6_entry_68 (by decide) ?_
                    refine lv_goto (tgt := 73) hx hb dX6_entry_69 (by decide) ?_
                    refine lv_aload_n hx hb dX6_entry_73 rfl (lv_at hl 1 rfl) ?_
                    refine va_get (D := (dC, dI)) (ci := 6) (v := .int (iz (I 1))) (C := RX6) (T := TX6) (N := 44) hx hb hts kt_X6 hown hK hP 0 rfl rfl 1 (by decide) (kx_word hG kq_04_msmall_1 rfl) (fun _ h9 => h9) rfl dX6_entry_74 ?_
                    have hbd_165 := hB.1 1
                    refine lv_bipush (v := iz 80) hx hb dX6_entry_77 (by decide) ?_
                    refine ki_icmp_ne (tgt := 86) hx hb dX6_entry_79 (by decide) (by omega) (by omega) (by omega) (by omega) (fun c_166 => ?_) (fun c_166 => ?_)
                    · skip
                      refine lv_iconst (v := iz 0) hx hb dX6_entry_86 (by decide) ?_
                      refine mk_calli (As := [.int (iz 0), .int (iz 1), .int (iz 0)]) (rest := []) ⟨hx, hb, hml, hown, hts⟩ (k_refused2 l dC dI mo ma cs I F 0 H.size (by omega) (by omega)) (cwV 3 hts (kx_gV kq_04_msmall_8 kq_04_msmall_9 kq_04_msmall_10 kq_04_msmall_6 kq_04_msmall_11 rfl) rfl rfl rfl (by decide +kernel) ⟨Nat.le_of_ble_eq_true rfl, Nat.le_of_ble_eq_true rfl⟩) hP hD hK hG hZ hS hA rfl hl.1 rfl (Nat.le_of_ble_eq_true rfl) dX6_entry_87 ⟨Nat.le_of_ble_eq_true rfl, Nat.le_of_ble_eq_true rfl⟩ (fun z_167 I_169 F_170 H locs hq_168 hP hD hS => ?_)
                      try dsimp only at hq_168
                      obtain ⟨rfl, rfl, rfl⟩ := hq_168
                      refine ki_if_eq (tgt := 95) hx hb dX6_entry_90 (by decide) (by omega) (by omega) (fun c_171 => ?_) (fun c_171 => ?_)
                      · omega
                      · skip
                        refine lv_iconst (v := iz 0) hx hb dX6_entry_93 (by decide) ?_
                        exact mk_ireti hx hb hr hlocks hP hD hK hS dX6_entry_94 (Or.inr (Or.inl ⟨by omega, rfl, rfl, by omega, by omega⟩))
                    · omega
                · omega
          · omega
        · skip
          refine ki_if_ne (tgt := 43) hx hb dX6_entry_24 (by decide) (by omega) (by omega) (fun c_172 => ?_) (fun c_172 => ?_)
          · omega
          · skip
            refine lv_aload_n hx hb dX6_entry_27 rfl (lv_at hl 0 rfl) ?_
            refine va_get (D := (dC, dI)) (ci := 6) (v := .ref (ma 2)) (C := RX6) (T := TX6) (N := 44) hx hb hts kt_X6 hown hK hP 0 rfl rfl 2 (by decide) (kx_word hG kq_04_msmall_12 rfl) (fun _ h9 => h9) rfl dX6_entry_28 ?_
            refine lv_iload_n hx hb dX6_entry_31 rfl (lv_at hl 2 rfl) ?_
            refine ki_iald (F := F 2) hx hb hK hP 1 0 rfl rfl (by omega) (by omega) (by decide) dX6_entry_32 ?_
            have hbd_173 := hB.2 2 ab
            refine lv_iload_n hx hb dX6_entry_33 rfl (lv_at hl 1 rfl) ?_
            refine lv_iconst (v := iz 1) hx hb dX6_entry_34 (by decide) ?_
            refine ki_isub hx hb dX6_entry_35 ?_
            refine ki_icmp_ne (tgt := 43) hx hb dX6_entry_36 (by decide) (by omega) (by omega) (by omega) (by omega) (fun c_174 => ?_) (fun c_174 => ?_)
            · skip
              refine lv_iconst (v := iz 0) hx hb dX6_entry_43 (by decide) ?_
              refine lv_istore_n (lv' := [(3, .int (iz 0)), (0, .ref mo), (1, .int (iz lv)), (2, .int (iz ab))]) hx hb dX6_entry_44 rfl hl (by decide) rfl (fun ls hl => ?_)
              refine lv_aload_n hx hb dX6_entry_45 rfl (lv_at hl 1 rfl) ?_
              refine lv_iload_n hx hb dX6_entry_46 rfl (lv_at hl 3 rfl) ?_
              refine lv_iconst (v := iz (-1)) hx hb dX6_entry_47 (by decide) ?_
              refine ki_icmp_eq (tgt := 63) hx hb dX6_entry_48 (by decide) (by omega) (by omega) (by omega) (by omega) (fun c_175 => ?_) (fun c_175 => ?_)
              · skip
                refine lv_iconst (v := iz 0) hx hb dX6_entry_63 (by decide) ?_
                refine lv_iload_n hx hb dX6_entry_64 rfl (lv_at hl 0 rfl) ?_
                refine ki_if_ne (tgt := 72) hx hb dX6_entry_65 (by decide) (by omega) (by omega) (fun c_176 => ?_) (fun c_176 => ?_)
                · omega
                · skip
                  refine lv_iconst (v := iz 1) hx hb dX6_entry_68 (by decide) ?_
                  refine lv_goto (tgt := 73) hx hb dX6_entry_69 (by decide) ?_
                  refine lv_aload_n hx hb dX6_entry_73 rfl (lv_at hl 1 rfl) ?_
                  refine va_get (D := (dC, dI)) (ci := 6) (v := .int (iz (I 1))) (C := RX6) (T := TX6) (N := 44) hx hb hts kt_X6 hown hK hP 0 rfl rfl 1 (by decide) (kx_word hG kq_04_msmall_1 rfl) (fun _ h9 => h9) rfl dX6_entry_74 ?_
                  have hbd_177 := hB.1 1
                  refine lv_bipush (v := iz 80) hx hb dX6_entry_77 (by decide) ?_
                  refine ki_icmp_ne (tgt := 86) hx hb dX6_entry_79 (by decide) (by omega) (by omega) (by omega) (by omega) (fun c_178 => ?_) (fun c_178 => ?_)
                  · skip
                    refine lv_iconst (v := iz 0) hx hb dX6_entry_86 (by decide) ?_
                    refine mk_calli (As := [.int (iz 0), .int (iz 1), .int (iz 0)]) (rest := []) ⟨hx, hb, hml, hown, hts⟩ (k_refused2 l dC dI mo ma cs I F 0 H.size (by omega) (by omega)) (cwV 3 hts (kx_gV kq_04_msmall_8 kq_04_msmall_9 kq_04_msmall_10 kq_04_msmall_6 kq_04_msmall_11 rfl) rfl rfl rfl (by decide +kernel) ⟨Nat.le_of_ble_eq_true rfl, Nat.le_of_ble_eq_true rfl⟩) hP hD hK hG hZ hS hA rfl hl.1 rfl (Nat.le_of_ble_eq_true rfl) dX6_entry_87 ⟨Nat.le_of_ble_eq_true rfl, Nat.le_of_ble_eq_true rfl⟩ (fun z_179 I_181 F_182 H locs hq_180 hP hD hS => ?_)
                    try dsimp only at hq_180
                    obtain ⟨rfl, rfl, rfl⟩ := hq_180
                    refine ki_if_eq (tgt := 95) hx hb dX6_entry_90 (by decide) (by omega) (by omega) (fun c_183 => ?_) (fun c_183 => ?_)
                    · omega
                    · skip
                      refine lv_iconst (v := iz 0) hx hb dX6_entry_93 (by decide) ?_
                      exact mk_ireti hx hb hr hlocks hP hD hK hS dX6_entry_94 (Or.inr (Or.inl ⟨by omega, rfl, rfl, by omega, by omega⟩))
                  · omega
              · skip
                refine lv_aload_n hx hb dX6_entry_51 rfl (lv_at hl 1 rfl) ?_
                refine lv_iload_n hx hb dX6_entry_52 rfl (lv_at hl 3 rfl) ?_
                refine mk_calli (As := [.int (iz ab)]) (rest := [.ref mo]) ⟨hx, hb, hml, hown, hts⟩ (k_isNone l dC dI mo ma cs I F ab H.size hB (by omega) (by omega)) (cwV 1 hts (kx_gV kq_04_msmall_3 kq_04_msmall_4 kq_04_msmall_5 kq_04_msmall_6 kq_04_msmall_7 rfl) rfl rfl rfl (by decide +kernel) ⟨Nat.le_of_ble_eq_true rfl, Nat.le_of_ble_eq_true rfl⟩) hP hD hK hG hZ hS hA rfl hl.1 rfl (Nat.le_of_ble_eq_true rfl) dX6_entry_53 ⟨Nat.le_of_ble_eq_true rfl, Nat.le_of_ble_eq_true rfl⟩ (fun z_184 I_186 F_187 H locs hq_185 hP hD hS => ?_)
                try dsimp only at hq_185
                obtain ⟨rfl, rfl, hq_185⟩ := hq_185
                rcases hq_185 with ⟨rfl, hq_185⟩ | ⟨rfl, hq_185⟩
                · skip
                  refine ki_if_eq (tgt := 63) hx hb dX6_entry_56 (by decide) (by omega) (by omega) (fun c_188 => ?_) (fun c_188 => ?_)
                  · omega
                  · skip
                    refine lv_iconst (v := iz 1) hx hb dX6_entry_59 (by decide) ?_
                    refine lv_goto (tgt := 64) hx hb dX6_entry_60 (by decide) ?_
                    refine lv_iload_n hx hb dX6_entry_64 rfl (lv_at hl 0 rfl) ?_
                    refine ki_if_ne (tgt := 72) hx hb dX6_entry_65 (by decide) (by omega) (by omega) (fun c_189 => ?_) (fun c_189 => ?_)
                    · omega
                    · skip
                      refine lv_iconst (v := iz 1) hx hb dX6_entry_68 (by decide) ?_
                      refine lv_goto (tgt := 73) hx hb dX6_entry_69 (by decide) ?_
                      refine lv_aload_n hx hb dX6_entry_73 rfl (lv_at hl 1 rfl) ?_
                      refine va_get (D := (dC, dI)) (ci := 6) (v := .int (iz (I 1))) (C := RX6) (T := TX6) (N := 44) hx hb hts kt_X6 hown hK hP 0 rfl rfl 1 (by decide) (kx_word hG kq_04_msmall_1 rfl) (fun _ h9 => h9) rfl dX6_entry_74 ?_
                      have hbd_190 := hB.1 1
                      refine lv_bipush (v := iz 80) hx hb dX6_entry_77 (by decide) ?_
                      refine ki_icmp_ne (tgt := 86) hx hb dX6_entry_79 (by decide) (by omega) (by omega) (by omega) (by omega) (fun c_191 => ?_) (fun c_191 => ?_)
                      · skip
                        refine lv_iconst (v := iz 0) hx hb dX6_entry_86 (by decide) ?_
                        refine mk_calli (As := [.int (iz 1), .int (iz 1), .int (iz 0)]) (rest := []) ⟨hx, hb, hml, hown, hts⟩ (k_refused1 l dC dI mo ma cs I F 1 0 H.size (by omega) (by omega) (by omega) (by omega)) (cwV 3 hts (kx_gV kq_04_msmall_8 kq_04_msmall_9 kq_04_msmall_10 kq_04_msmall_6 kq_04_msmall_11 rfl) rfl rfl rfl (by decide +kernel) ⟨Nat.le_of_ble_eq_true rfl, Nat.le_of_ble_eq_true rfl⟩) hP hD hK hG hZ hS hA rfl hl.1 rfl (Nat.le_of_ble_eq_true rfl) dX6_entry_87 ⟨Nat.le_of_ble_eq_true rfl, Nat.le_of_ble_eq_true rfl⟩ (fun z_192 I_194 F_195 H locs hq_193 hP hD hS => ?_)
                        try dsimp only at hq_193
                        obtain ⟨rfl, rfl, rfl⟩ := hq_193
                        refine ki_if_eq (tgt := 95) hx hb dX6_entry_90 (by decide) (by omega) (by omega) (fun c_196 => ?_) (fun c_196 => ?_)
                        · omega
                        · skip
                          refine lv_iconst (v := iz 0) hx hb dX6_entry_93 (by decide) ?_
                          exact mk_ireti hx hb hr hlocks hP hD hK hS dX6_entry_94 (Or.inl ⟨by omega, rfl, rfl, by omega, by omega⟩)
                      · omega
                · skip
                  refine ki_if_eq (tgt := 63) hx hb dX6_entry_56 (by decide) (by omega) (by omega) (fun c_197 => ?_) (fun c_197 => ?_)
                  · skip
                    refine lv_iconst (v := iz 0) hx hb dX6_entry_63 (by decide) ?_
                    refine lv_iload_n hx hb dX6_entry_64 rfl (lv_at hl 0 rfl) ?_
                    refine ki_if_ne (tgt := 72) hx hb dX6_entry_65 (by decide) (by omega) (by omega) (fun c_198 => ?_) (fun c_198 => ?_)
                    · omega
                    · skip
                      refine lv_iconst (v := iz 1) hx hb dX6_entry_68 (by decide) ?_
                      refine lv_goto (tgt := 73) hx hb dX6_entry_69 (by decide) ?_
                      refine lv_aload_n hx hb dX6_entry_73 rfl (lv_at hl 1 rfl) ?_
                      refine va_get (D := (dC, dI)) (ci := 6) (v := .int (iz (I 1))) (C := RX6) (T := TX6) (N := 44) hx hb hts kt_X6 hown hK hP 0 rfl rfl 1 (by decide) (kx_word hG kq_04_msmall_1 rfl) (fun _ h9 => h9) rfl dX6_entry_74 ?_
                      have hbd_199 := hB.1 1
                      refine lv_bipush (v := iz 80) hx hb dX6_entry_77 (by decide) ?_
                      refine ki_icmp_ne (tgt := 86) hx hb dX6_entry_79 (by decide) (by omega) (by omega) (by omega) (by omega) (fun c_200 => ?_) (fun c_200 => ?_)
                      · skip
                        refine lv_iconst (v := iz 0) hx hb dX6_entry_86 (by decide) ?_
                        refine mk_calli (As := [.int (iz 0), .int (iz 1), .int (iz 0)]) (rest := []) ⟨hx, hb, hml, hown, hts⟩ (k_refused2 l dC dI mo ma cs I F 0 H.size (by omega) (by omega)) (cwV 3 hts (kx_gV kq_04_msmall_8 kq_04_msmall_9 kq_04_msmall_10 kq_04_msmall_6 kq_04_msmall_11 rfl) rfl rfl rfl (by decide +kernel) ⟨Nat.le_of_ble_eq_true rfl, Nat.le_of_ble_eq_true rfl⟩) hP hD hK hG hZ hS hA rfl hl.1 rfl (Nat.le_of_ble_eq_true rfl) dX6_entry_87 ⟨Nat.le_of_ble_eq_true rfl, Nat.le_of_ble_eq_true rfl⟩ (fun z_201 I_203 F_204 H locs hq_202 hP hD hS => ?_)
                        try dsimp only at hq_202
                        obtain ⟨rfl, rfl, rfl⟩ := hq_202
                        refine ki_if_eq (tgt := 95) hx hb dX6_entry_90 (by decide) (by omega) (by omega) (fun c_205 => ?_) (fun c_205 => ?_)
                        · omega
                        · skip
                          refine lv_iconst (v := iz 0) hx hb dX6_entry_93 (by decide) ?_
                          exact mk_ireti hx hb hr hlocks hP hD hK hS dX6_entry_94 (Or.inr (Or.inl ⟨by omega, rfl, rfl, by omega, by omega⟩))
                      · omega
                  · omega
            · skip
              refine lv_iconst (v := iz 1) hx hb dX6_entry_39 (by decide) ?_
              refine lv_goto (tgt := 44) hx hb dX6_entry_40 (by decide) ?_
              refine lv_istore_n (lv' := [(3, .int (iz 1)), (0, .ref mo), (1, .int (iz lv)), (2, .int (iz ab))]) hx hb dX6_entry_44 rfl hl (by decide) rfl (fun ls hl => ?_)
              refine lv_aload_n hx hb dX6_entry_45 rfl (lv_at hl 1 rfl) ?_
              refine lv_iload_n hx hb dX6_entry_46 rfl (lv_at hl 3 rfl) ?_
              refine lv_iconst (v := iz (-1)) hx hb dX6_entry_47 (by decide) ?_
              refine ki_icmp_eq (tgt := 63) hx hb dX6_entry_48 (by decide) (by omega) (by omega) (by omega) (by omega) (fun c_206 => ?_) (fun c_206 => ?_)
              · skip
                refine lv_iconst (v := iz 0) hx hb dX6_entry_63 (by decide) ?_
                refine lv_iload_n hx hb dX6_entry_64 rfl (lv_at hl 0 rfl) ?_
                refine ki_if_ne (tgt := 72) hx hb dX6_entry_65 (by decide) (by omega) (by omega) (fun c_207 => ?_) (fun c_207 => ?_)
                · skip
                  refine lv_iconst (v := iz 0) hx hb dX6_entry_72 (by decide) ?_
                  refine lv_aload_n hx hb dX6_entry_73 rfl (lv_at hl 1 rfl) ?_
                  refine va_get (D := (dC, dI)) (ci := 6) (v := .int (iz (I 1))) (C := RX6) (T := TX6) (N := 44) hx hb hts kt_X6 hown hK hP 0 rfl rfl 1 (by decide) (kx_word hG kq_04_msmall_1 rfl) (fun _ h9 => h9) rfl dX6_entry_74 ?_
                  have hbd_208 := hB.1 1
                  refine lv_bipush (v := iz 80) hx hb dX6_entry_77 (by decide) ?_
                  refine ki_icmp_ne (tgt := 86) hx hb dX6_entry_79 (by decide) (by omega) (by omega) (by omega) (by omega) (fun c_209 => ?_) (fun c_209 => ?_)
                  · skip
                    refine lv_iconst (v := iz 0) hx hb dX6_entry_86 (by decide) ?_
                    refine mk_calli (As := [.int (iz 0), .int (iz 0), .int (iz 0)]) (rest := []) ⟨hx, hb, hml, hown, hts⟩ (k_refused0 l dC dI mo ma cs I F  H.size ) (cwV 3 hts (kx_gV kq_04_msmall_8 kq_04_msmall_9 kq_04_msmall_10 kq_04_msmall_6 kq_04_msmall_11 rfl) rfl rfl rfl (by decide +kernel) ⟨Nat.le_of_ble_eq_true rfl, Nat.le_of_ble_eq_true rfl⟩) hP hD hK hG hZ hS hA rfl hl.1 rfl (Nat.le_of_ble_eq_true rfl) dX6_entry_87 ⟨Nat.le_of_ble_eq_true rfl, Nat.le_of_ble_eq_true rfl⟩ (fun z_210 I_212 F_213 H locs hq_211 hP hD hS => ?_)
                    try dsimp only at hq_211
                    obtain ⟨rfl, rfl, rfl⟩ := hq_211
                    refine ki_if_eq (tgt := 95) hx hb dX6_entry_90 (by decide) (by omega) (by omega) (fun c_214 => ?_) (fun c_214 => ?_)
                    · skip
                      refine lv_aload_n hx hb dX6_entry_95 rfl (lv_at hl 1 rfl) ?_
                      refine va_get (D := (dC, dI)) (ci := 6) (v := .ref (ma 2)) (C := RX6) (T := TX6) (N := 44) hx hb hts kt_X6 hown hK hP 0 rfl rfl 2 (by decide) (kx_word hG kq_04_msmall_12 rfl) (fun _ h9 => h9) rfl dX6_entry_96 ?_
                      refine lv_aload_n hx hb dX6_entry_99 rfl (lv_at hl 1 rfl) ?_
                      refine va_get (D := (dC, dI)) (ci := 6) (v := .int (iz (I 1))) (C := RX6) (T := TX6) (N := 44) hx hb hts kt_X6 hown hK hP 0 rfl rfl 1 (by decide) (kx_word hG kq_04_msmall_1 rfl) (fun _ h9 => h9) rfl dX6_entry_100 ?_
                      refine lv_iload_n hx hb dX6_entry_103 rfl (lv_at hl 2 rfl) ?_
                      refine ki_iast (F := F 2) hx hb hK hP hD hS 1 0 rfl rfl (by omega) (by omega) (by decide) dX6_entry_104 (fun H locs hP hD hS => ?_)
                      have hP : va_P (dC, dI) kxCl (mW mo ma cs (va_up I 0 0) (va_up F 2 (upI (F 2) (I 1) lv))) H := hP
                      have hD : va_D A (mW mo ma cs (va_up I 0 0) (va_up F 2 (upI (F 2) (I 1) lv))) := hD
                      refine lv_aload_n hx hb dX6_entry_105 rfl (lv_at hl 1 rfl) ?_
                      refine va_get (D := (dC, dI)) (ci := 6) (v := .ref (ma 3)) (C := RX6) (T := TX6) (N := 44) hx hb hts kt_X6 hown hK hP 0 rfl rfl 3 (by decide) (kx_word hG kq_04_msmall_13 rfl) (fun _ h9 => h9) rfl dX6_entry_106 ?_
                      refine lv_aload_n hx hb dX6_entry_109 rfl (lv_at hl 1 rfl) ?_
                      refine va_get (D := (dC, dI)) (ci := 6) (v := .int (iz (I 1))) (C := RX6) (T := TX6) (N := 44) hx hb hts kt_X6 hown hK hP 0 rfl rfl 1 (by decide) (kx_word hG kq_04_msmall_1 rfl) (fun _ h9 => h9) rfl dX6_entry_110 ?_
                      refine lv_iload_n hx hb dX6_entry_113 rfl (lv_at hl 3 rfl) ?_
                      refine ki_iast (F := F 3) hx hb hK hP hD hS 2 1 rfl rfl (by omega) (by omega) (by decide) dX6_entry_114 (fun H locs hP hD hS => ?_)
                      have hP : va_P (dC, dI) kxCl (mW mo ma cs (va_up I 0 0) (va_up (va_up F 2 (upI (F 2) (I 1) lv)) 3 (upI (F 3) (I 1) ab))) H := hP
                      have hD : va_D A (mW mo ma cs (va_up I 0 0) (va_up (va_up F 2 (upI (F 2) (I 1) lv)) 3 (upI (F 3) (I 1) ab))) := hD
                      refine lv_aload_n hx hb dX6_entry_115 rfl (lv_at hl 1 rfl) ?_
                      refine lv_iconst (v := iz 0) hx hb dX6_entry_116 (by decide) ?_
                      refine va_put (D := (dC, dI)) (ci := 6) (v := .int (iz 0)) (ty := .boolean) (C := RX6) (T := TX6) (N := 44) hx hb hts kt_X6 tyX6 tyX6_ok nmX6 hown hK hP hD hS 0 rfl rfl 16 (by decide) (kx_word hG kq_04_msmall_14 rfl) (fun _ h9 => h9) rfl (by decide +kernel) (mz_bool (Or.inl rfl)).1 (mz_bool (Or.inl rfl)).2 (Nat.le_of_ble_eq_true rfl) dX6_entry_117 (fun H locs hP hD hS => ?_)
                      have hP : va_P (dC, dI) kxCl (mW mo ma cs (va_up (va_up I 0 0) 16 0) (va_up (va_up F 2 (upI (F 2) (I 1) lv)) 3 (upI (F 3) (I 1) ab))) H := hP
                      have hD : va_D A (mW mo ma cs (va_up (va_up I 0 0) 16 0) (va_up (va_up F 2 (upI (F 2) (I 1) lv)) 3 (upI (F 3) (I 1) ab))) := hD
                      refine lv_aload_n hx hb dX6_entry_120 rfl (lv_at hl 1 rfl) ?_
                      refine lv_dup hx hb dX6_entry_121 rfl ?_
                      refine va_get (D := (dC, dI)) (ci := 6) (v := .int (iz (I 1))) (C := RX6) (T := TX6) (N := 44) hx hb hts kt_X6 hown hK hP 0 rfl rfl 1 (by decide) (kx_word hG kq_04_msmall_1 rfl) (fun _ h9 => h9) rfl dX6_entry_122 ?_
                      refine lv_iconst (v := iz 1) hx hb dX6_entry_125 (by decide) ?_
                      refine ki_iadd hx hb dX6_entry_126 ?_
                      refine va_put (D := (dC, dI)) (ci := 6) (v := .int (iz ((I 1) + 1))) (ty := .int) (C := RX6) (T := TX6) (N := 44) hx hb hts kt_X6 tyX6 tyX6_ok nmX6 hown hK hP hD hS 0 rfl rfl 1 (by decide) (kx_word hG kq_04_msmall_1 rfl) (fun _ h9 => h9) rfl (by decide +kernel) rfl rfl (Nat.le_of_ble_eq_true rfl) dX6_entry_127 (fun H locs hP hD hS => ?_)
                      have hP : va_P (dC, dI) kxCl (mW mo ma cs (va_up (va_up (va_up I 0 0) 16 0) 1 ((I 1) + 1)) (va_up (va_up F 2 (upI (F 2) (I 1) lv)) 3 (upI (F 3) (I 1) ab))) H := hP
                      have hD : va_D A (mW mo ma cs (va_up (va_up (va_up I 0 0) 16 0) 1 ((I 1) + 1)) (va_up (va_up F 2 (upI (F 2) (I 1) lv)) 3 (upI (F 3) (I 1) ab))) := hD
                      refine lv_aload_n hx hb dX6_entry_130 rfl (lv_at hl 1 rfl) ?_
                      refine va_get (D := (dC, dI)) (ci := 6) (v := .int (iz ((I 1) + 1))) (C := RX6) (T := TX6) (N := 44) hx hb hts kt_X6 hown hK hP 0 rfl rfl 1 (by decide) (kx_word hG kq_04_msmall_1 rfl) (fun _ h9 => h9) rfl dX6_entry_131 ?_
                      refine lv_iconst (v := iz 1) hx hb dX6_entry_134 (by decide) ?_
                      refine ki_isub hx hb dX6_entry_135 ?_
                      exact mk_ireti hx hb hr hlocks hP hD hK hS dX6_entry_136 (Or.inr (Or.inr ⟨rfl, rfl, by omega, by omega⟩))
                    · omega
                  · omega
                · omega
              · skip
                refine lv_aload_n hx hb dX6_entry_51 rfl (lv_at hl 1 rfl) ?_
                refine lv_iload_n hx hb dX6_entry_52 rfl (lv_at hl 3 rfl) ?_
                refine mk_calli (As := [.int (iz ab)]) (rest := [.ref mo]) ⟨hx, hb, hml, hown, hts⟩ (k_isNone l dC dI mo ma cs I F ab H.size hB (by omega) (by omega)) (cwV 1 hts (kx_gV kq_04_msmall_3 kq_04_msmall_4 kq_04_msmall_5 kq_04_msmall_6 kq_04_msmall_7 rfl) rfl rfl rfl (by decide +kernel) ⟨Nat.le_of_ble_eq_true rfl, Nat.le_of_ble_eq_true rfl⟩) hP hD hK hG hZ hS hA rfl hl.1 rfl (Nat.le_of_ble_eq_true rfl) dX6_entry_53 ⟨Nat.le_of_ble_eq_true rfl, Nat.le_of_ble_eq_true rfl⟩ (fun z_215 I_217 F_218 H locs hq_216 hP hD hS => ?_)
                try dsimp only at hq_216
                obtain ⟨rfl, rfl, hq_216⟩ := hq_216
                rcases hq_216 with ⟨rfl, hq_216⟩ | ⟨rfl, hq_216⟩
                · skip
                  refine ki_if_eq (tgt := 63) hx hb dX6_entry_56 (by decide) (by omega) (by omega) (fun c_219 => ?_) (fun c_219 => ?_)
                  · omega
                  · skip
                    refine lv_iconst (v := iz 1) hx hb dX6_entry_59 (by decide) ?_
                    refine lv_goto (tgt := 64) hx hb dX6_entry_60 (by decide) ?_
                    refine lv_iload_n hx hb dX6_entry_64 rfl (lv_at hl 0 rfl) ?_
                    refine ki_if_ne (tgt := 72) hx hb dX6_entry_65 (by decide) (by omega) (by omega) (fun c_220 => ?_) (fun c_220 => ?_)
                    · skip
                      refine lv_iconst (v := iz 0) hx hb dX6_entry_72 (by decide) ?_
                      refine lv_aload_n hx hb dX6_entry_73 rfl (lv_at hl 1 rfl) ?_
                      refine va_get (D := (dC, dI)) (ci := 6) (v := .int (iz (I 1))) (C := RX6) (T := TX6) (N := 44) hx hb hts kt_X6 hown hK hP 0 rfl rfl 1 (by decide) (kx_word hG kq_04_msmall_1 rfl) (fun _ h9 => h9) rfl dX6_entry_74 ?_
                      have hbd_221 := hB.1 1
                      refine lv_bipush (v := iz 80) hx hb dX6_entry_77 (by decide) ?_
                      refine ki_icmp_ne (tgt := 86) hx hb dX6_entry_79 (by decide) (by omega) (by omega) (by omega) (by omega) (fun c_222 => ?_) (fun c_222 => ?_)
                      · skip
                        refine lv_iconst (v := iz 0) hx hb dX6_entry_86 (by decide) ?_
                        refine mk_calli (As := [.int (iz 1), .int (iz 0), .int (iz 0)]) (rest := []) ⟨hx, hb, hml, hown, hts⟩ (k_refused1 l dC dI mo ma cs I F 0 0 H.size (by omega) (by omega) (by omega) (by omega)) (cwV 3 hts (kx_gV kq_04_msmall_8 kq_04_msmall_9 kq_04_msmall_10 kq_04_msmall_6 kq_04_msmall_11 rfl) rfl rfl rfl (by decide +kernel) ⟨Nat.le_of_ble_eq_true rfl, Nat.le_of_ble_eq_true rfl⟩) hP hD hK hG hZ hS hA rfl hl.1 rfl (Nat.le_of_ble_eq_true rfl) dX6_entry_87 ⟨Nat.le_of_ble_eq_true rfl, Nat.le_of_ble_eq_true rfl⟩ (fun z_223 I_225 F_226 H locs hq_224 hP hD hS => ?_)
                        try dsimp only at hq_224
                        obtain ⟨rfl, rfl, rfl⟩ := hq_224
                        refine ki_if_eq (tgt := 95) hx hb dX6_entry_90 (by decide) (by omega) (by omega) (fun c_227 => ?_) (fun c_227 => ?_)
                        · omega
                        · skip
                          refine lv_iconst (v := iz 0) hx hb dX6_entry_93 (by decide) ?_
                          exact mk_ireti hx hb hr hlocks hP hD hK hS dX6_entry_94 (Or.inl ⟨by omega, rfl, rfl, by omega, by omega⟩)
                      · omega
                    · omega
                · skip
                  refine ki_if_eq (tgt := 63) hx hb dX6_entry_56 (by decide) (by omega) (by omega) (fun c_228 => ?_) (fun c_228 => ?_)
                  · skip
                    refine lv_iconst (v := iz 0) hx hb dX6_entry_63 (by decide) ?_
                    refine lv_iload_n hx hb dX6_entry_64 rfl (lv_at hl 0 rfl) ?_
                    refine ki_if_ne (tgt := 72) hx hb dX6_entry_65 (by decide) (by omega) (by omega) (fun c_229 => ?_) (fun c_229 => ?_)
                    · skip
                      refine lv_iconst (v := iz 0) hx hb dX6_entry_72 (by decide) ?_
                      refine lv_aload_n hx hb dX6_entry_73 rfl (lv_at hl 1 rfl) ?_
                      refine va_get (D := (dC, dI)) (ci := 6) (v := .int (iz (I 1))) (C := RX6) (T := TX6) (N := 44) hx hb hts kt_X6 hown hK hP 0 rfl rfl 1 (by decide) (kx_word hG kq_04_msmall_1 rfl) (fun _ h9 => h9) rfl dX6_entry_74 ?_
                      have hbd_230 := hB.1 1
                      refine lv_bipush (v := iz 80) hx hb dX6_entry_77 (by decide) ?_
                      refine ki_icmp_ne (tgt := 86) hx hb dX6_entry_79 (by decide) (by omega) (by omega) (by omega) (by omega) (fun c_231 => ?_) (fun c_231 => ?_)
                      · skip
                        refine lv_iconst (v := iz 0) hx hb dX6_entry_86 (by decide) ?_
                        refine mk_calli (As := [.int (iz 0), .int (iz 0), .int (iz 0)]) (rest := []) ⟨hx, hb, hml, hown, hts⟩ (k_refused0 l dC dI mo ma cs I F  H.size ) (cwV 3 hts (kx_gV kq_04_msmall_8 kq_04_msmall_9 kq_04_msmall_10 kq_04_msmall_6 kq_04_msmall_11 rfl) rfl rfl rfl (by decide +kernel) ⟨Nat.le_of_ble_eq_true rfl, Nat.le_of_ble_eq_true rfl⟩) hP hD hK hG hZ hS hA rfl hl.1 rfl (Nat.le_of_ble_eq_true rfl) dX6_entry_87 ⟨Nat.le_of_ble_eq_true rfl, Nat.le_of_ble_eq_true rfl⟩ (fun z_232 I_234 F_235 H locs hq_233 hP hD hS => ?_)
                        try dsimp only at hq_233
                        obtain ⟨rfl, rfl, rfl⟩ := hq_233
                        refine ki_if_eq (tgt := 95) hx hb dX6_entry_90 (by decide) (by omega) (by omega) (fun c_236 => ?_) (fun c_236 => ?_)
                        · skip
                          refine lv_aload_n hx hb dX6_entry_95 rfl (lv_at hl 1 rfl) ?_
                          refine va_get (D := (dC, dI)) (ci := 6) (v := .ref (ma 2)) (C := RX6) (T := TX6) (N := 44) hx hb hts kt_X6 hown hK hP 0 rfl rfl 2 (by decide) (kx_word hG kq_04_msmall_12 rfl) (fun _ h9 => h9) rfl dX6_entry_96 ?_
                          refine lv_aload_n hx hb dX6_entry_99 rfl (lv_at hl 1 rfl) ?_
                          refine va_get (D := (dC, dI)) (ci := 6) (v := .int (iz (I 1))) (C := RX6) (T := TX6) (N := 44) hx hb hts kt_X6 hown hK hP 0 rfl rfl 1 (by decide) (kx_word hG kq_04_msmall_1 rfl) (fun _ h9 => h9) rfl dX6_entry_100 ?_
                          refine lv_iload_n hx hb dX6_entry_103 rfl (lv_at hl 2 rfl) ?_
                          refine ki_iast (F := F 2) hx hb hK hP hD hS 1 0 rfl rfl (by omega) (by omega) (by decide) dX6_entry_104 (fun H locs hP hD hS => ?_)
                          have hP : va_P (dC, dI) kxCl (mW mo ma cs (va_up I 0 0) (va_up F 2 (upI (F 2) (I 1) lv))) H := hP
                          have hD : va_D A (mW mo ma cs (va_up I 0 0) (va_up F 2 (upI (F 2) (I 1) lv))) := hD
                          refine lv_aload_n hx hb dX6_entry_105 rfl (lv_at hl 1 rfl) ?_
                          refine va_get (D := (dC, dI)) (ci := 6) (v := .ref (ma 3)) (C := RX6) (T := TX6) (N := 44) hx hb hts kt_X6 hown hK hP 0 rfl rfl 3 (by decide) (kx_word hG kq_04_msmall_13 rfl) (fun _ h9 => h9) rfl dX6_entry_106 ?_
                          refine lv_aload_n hx hb dX6_entry_109 rfl (lv_at hl 1 rfl) ?_
                          refine va_get (D := (dC, dI)) (ci := 6) (v := .int (iz (I 1))) (C := RX6) (T := TX6) (N := 44) hx hb hts kt_X6 hown hK hP 0 rfl rfl 1 (by decide) (kx_word hG kq_04_msmall_1 rfl) (fun _ h9 => h9) rfl dX6_entry_110 ?_
                          refine lv_iload_n hx hb dX6_entry_113 rfl (lv_at hl 3 rfl) ?_
                          refine ki_iast (F := F 3) hx hb hK hP hD hS 2 1 rfl rfl (by omega) (by omega) (by decide) dX6_entry_114 (fun H locs hP hD hS => ?_)
                          have hP : va_P (dC, dI) kxCl (mW mo ma cs (va_up I 0 0) (va_up (va_up F 2 (upI (F 2) (I 1) lv)) 3 (upI (F 3) (I 1) ab))) H := hP
                          have hD : va_D A (mW mo ma cs (va_up I 0 0) (va_up (va_up F 2 (upI (F 2) (I 1) lv)) 3 (upI (F 3) (I 1) ab))) := hD
                          refine lv_aload_n hx hb dX6_entry_115 rfl (lv_at hl 1 rfl) ?_
                          refine lv_iconst (v := iz 0) hx hb dX6_entry_116 (by decide) ?_
                          refine va_put (D := (dC, dI)) (ci := 6) (v := .int (iz 0)) (ty := .boolean) (C := RX6) (T := TX6) (N := 44) hx hb hts kt_X6 tyX6 tyX6_ok nmX6 hown hK hP hD hS 0 rfl rfl 16 (by decide) (kx_word hG kq_04_msmall_14 rfl) (fun _ h9 => h9) rfl (by decide +kernel) (mz_bool (Or.inl rfl)).1 (mz_bool (Or.inl rfl)).2 (Nat.le_of_ble_eq_true rfl) dX6_entry_117 (fun H locs hP hD hS => ?_)
                          have hP : va_P (dC, dI) kxCl (mW mo ma cs (va_up (va_up I 0 0) 16 0) (va_up (va_up F 2 (upI (F 2) (I 1) lv)) 3 (upI (F 3) (I 1) ab))) H := hP
                          have hD : va_D A (mW mo ma cs (va_up (va_up I 0 0) 16 0) (va_up (va_up F 2 (upI (F 2) (I 1) lv)) 3 (upI (F 3) (I 1) ab))) := hD
                          refine lv_aload_n hx hb dX6_entry_120 rfl (lv_at hl 1 rfl) ?_
                          refine lv_dup hx hb dX6_entry_121 rfl ?_
                          refine va_get (D := (dC, dI)) (ci := 6) (v := .int (iz (I 1))) (C := RX6) (T := TX6) (N := 44) hx hb hts kt_X6 hown hK hP 0 rfl rfl 1 (by decide) (kx_word hG kq_04_msmall_1 rfl) (fun _ h9 => h9) rfl dX6_entry_122 ?_
                          refine lv_iconst (v := iz 1) hx hb dX6_entry_125 (by decide) ?_
                          refine ki_iadd hx hb dX6_entry_126 ?_
                          refine va_put (D := (dC, dI)) (ci := 6) (v := .int (iz ((I 1) + 1))) (ty := .int) (C := RX6) (T := TX6) (N := 44) hx hb hts kt_X6 tyX6 tyX6_ok nmX6 hown hK hP hD hS 0 rfl rfl 1 (by decide) (kx_word hG kq_04_msmall_1 rfl) (fun _ h9 => h9) rfl (by decide +kernel) rfl rfl (Nat.le_of_ble_eq_true rfl) dX6_entry_127 (fun H locs hP hD hS => ?_)
                          have hP : va_P (dC, dI) kxCl (mW mo ma cs (va_up (va_up (va_up I 0 0) 16 0) 1 ((I 1) + 1)) (va_up (va_up F 2 (upI (F 2) (I 1) lv)) 3 (upI (F 3) (I 1) ab))) H := hP
                          have hD : va_D A (mW mo ma cs (va_up (va_up (va_up I 0 0) 16 0) 1 ((I 1) + 1)) (va_up (va_up F 2 (upI (F 2) (I 1) lv)) 3 (upI (F 3) (I 1) ab))) := hD
                          refine lv_aload_n hx hb dX6_entry_130 rfl (lv_at hl 1 rfl) ?_
                          refine va_get (D := (dC, dI)) (ci := 6) (v := .int (iz ((I 1) + 1))) (C := RX6) (T := TX6) (N := 44) hx hb hts kt_X6 hown hK hP 0 rfl rfl 1 (by decide) (kx_word hG kq_04_msmall_1 rfl) (fun _ h9 => h9) rfl dX6_entry_131 ?_
                          refine lv_iconst (v := iz 1) hx hb dX6_entry_134 (by decide) ?_
                          refine ki_isub hx hb dX6_entry_135 ?_
                          exact mk_ireti hx hb hr hlocks hP hD hK hS dX6_entry_136 (Or.inr (Or.inr ⟨rfl, rfl, by omega, by omega⟩))
                        · omega
                      · omega
                    · omega
                  · omega
  · skip
    refine lv_iload_n hx hb dX6_entry_4 rfl (lv_at hl 2 rfl) ?_
    refine lv_iconst (v := iz (-1)) hx hb dX6_entry_5 (by decide) ?_
    refine ki_icmp_eq (tgt := 39) hx hb dX6_entry_6 (by decide) (by omega) (by omega) (by omega) (by omega) (fun c_237 => ?_) (fun c_237 => ?_)
    · skip
      refine lv_iconst (v := iz 1) hx hb dX6_entry_39 (by decide) ?_
      refine lv_goto (tgt := 44) hx hb dX6_entry_40 (by decide) ?_
      refine lv_istore_n (lv' := [(3, .int (iz 1)), (0, .ref mo), (1, .int (iz lv)), (2, .int (iz ab))]) hx hb dX6_entry_44 rfl hl (by decide) rfl (fun ls hl => ?_)
      refine lv_aload_n hx hb dX6_entry_45 rfl (lv_at hl 1 rfl) ?_
      refine lv_iload_n hx hb dX6_entry_46 rfl (lv_at hl 3 rfl) ?_
      refine lv_iconst (v := iz (-1)) hx hb dX6_entry_47 (by decide) ?_
      refine ki_icmp_eq (tgt := 63) hx hb dX6_entry_48 (by decide) (by omega) (by omega) (by omega) (by omega) (fun c_238 => ?_) (fun c_238 => ?_)
      · skip
        refine lv_iconst (v := iz 0) hx hb dX6_entry_63 (by decide) ?_
        refine lv_iload_n hx hb dX6_entry_64 rfl (lv_at hl 0 rfl) ?_
        refine ki_if_ne (tgt := 72) hx hb dX6_entry_65 (by decide) (by omega) (by omega) (fun c_239 => ?_) (fun c_239 => ?_)
        · skip
          refine lv_iconst (v := iz 0) hx hb dX6_entry_72 (by decide) ?_
          refine lv_aload_n hx hb dX6_entry_73 rfl (lv_at hl 1 rfl) ?_
          refine va_get (D := (dC, dI)) (ci := 6) (v := .int (iz (I 1))) (C := RX6) (T := TX6) (N := 44) hx hb hts kt_X6 hown hK hP 0 rfl rfl 1 (by decide) (kx_word hG kq_04_msmall_1 rfl) (fun _ h9 => h9) rfl dX6_entry_74 ?_
          have hbd_240 := hB.1 1
          refine lv_bipush (v := iz 80) hx hb dX6_entry_77 (by decide) ?_
          refine ki_icmp_ne (tgt := 86) hx hb dX6_entry_79 (by decide) (by omega) (by omega) (by omega) (by omega) (fun c_241 => ?_) (fun c_241 => ?_)
          · skip
            refine lv_iconst (v := iz 0) hx hb dX6_entry_86 (by decide) ?_
            refine mk_calli (As := [.int (iz 0), .int (iz 0), .int (iz 0)]) (rest := []) ⟨hx, hb, hml, hown, hts⟩ (k_refused0 l dC dI mo ma cs I F  s.heap.size ) (cwV 3 hts (kx_gV kq_04_msmall_8 kq_04_msmall_9 kq_04_msmall_10 kq_04_msmall_6 kq_04_msmall_11 rfl) rfl rfl rfl (by decide +kernel) ⟨Nat.le_of_ble_eq_true rfl, Nat.le_of_ble_eq_true rfl⟩) hP hD hK hG hZ hS hA rfl hl.1 rfl (Nat.le_of_ble_eq_true rfl) dX6_entry_87 ⟨Nat.le_of_ble_eq_true rfl, Nat.le_of_ble_eq_true rfl⟩ (fun z_242 I_244 F_245 H locs hq_243 hP hD hS => ?_)
            try dsimp only at hq_243
            obtain ⟨rfl, rfl, rfl⟩ := hq_243
            refine ki_if_eq (tgt := 95) hx hb dX6_entry_90 (by decide) (by omega) (by omega) (fun c_246 => ?_) (fun c_246 => ?_)
            · skip
              refine lv_aload_n hx hb dX6_entry_95 rfl (lv_at hl 1 rfl) ?_
              refine va_get (D := (dC, dI)) (ci := 6) (v := .ref (ma 2)) (C := RX6) (T := TX6) (N := 44) hx hb hts kt_X6 hown hK hP 0 rfl rfl 2 (by decide) (kx_word hG kq_04_msmall_12 rfl) (fun _ h9 => h9) rfl dX6_entry_96 ?_
              refine lv_aload_n hx hb dX6_entry_99 rfl (lv_at hl 1 rfl) ?_
              refine va_get (D := (dC, dI)) (ci := 6) (v := .int (iz (I 1))) (C := RX6) (T := TX6) (N := 44) hx hb hts kt_X6 hown hK hP 0 rfl rfl 1 (by decide) (kx_word hG kq_04_msmall_1 rfl) (fun _ h9 => h9) rfl dX6_entry_100 ?_
              refine lv_iload_n hx hb dX6_entry_103 rfl (lv_at hl 2 rfl) ?_
              refine ki_iast (F := F 2) hx hb hK hP hD hS 1 0 rfl rfl (by omega) (by omega) (by decide) dX6_entry_104 (fun H locs hP hD hS => ?_)
              have hP : va_P (dC, dI) kxCl (mW mo ma cs (va_up I 0 0) (va_up F 2 (upI (F 2) (I 1) lv))) H := hP
              have hD : va_D A (mW mo ma cs (va_up I 0 0) (va_up F 2 (upI (F 2) (I 1) lv))) := hD
              refine lv_aload_n hx hb dX6_entry_105 rfl (lv_at hl 1 rfl) ?_
              refine va_get (D := (dC, dI)) (ci := 6) (v := .ref (ma 3)) (C := RX6) (T := TX6) (N := 44) hx hb hts kt_X6 hown hK hP 0 rfl rfl 3 (by decide) (kx_word hG kq_04_msmall_13 rfl) (fun _ h9 => h9) rfl dX6_entry_106 ?_
              refine lv_aload_n hx hb dX6_entry_109 rfl (lv_at hl 1 rfl) ?_
              refine va_get (D := (dC, dI)) (ci := 6) (v := .int (iz (I 1))) (C := RX6) (T := TX6) (N := 44) hx hb hts kt_X6 hown hK hP 0 rfl rfl 1 (by decide) (kx_word hG kq_04_msmall_1 rfl) (fun _ h9 => h9) rfl dX6_entry_110 ?_
              refine lv_iload_n hx hb dX6_entry_113 rfl (lv_at hl 3 rfl) ?_
              refine ki_iast (F := F 3) hx hb hK hP hD hS 2 1 rfl rfl (by omega) (by omega) (by decide) dX6_entry_114 (fun H locs hP hD hS => ?_)
              have hP : va_P (dC, dI) kxCl (mW mo ma cs (va_up I 0 0) (va_up (va_up F 2 (upI (F 2) (I 1) lv)) 3 (upI (F 3) (I 1) ab))) H := hP
              have hD : va_D A (mW mo ma cs (va_up I 0 0) (va_up (va_up F 2 (upI (F 2) (I 1) lv)) 3 (upI (F 3) (I 1) ab))) := hD
              refine lv_aload_n hx hb dX6_entry_115 rfl (lv_at hl 1 rfl) ?_
              refine lv_iconst (v := iz 0) hx hb dX6_entry_116 (by decide) ?_
              refine va_put (D := (dC, dI)) (ci := 6) (v := .int (iz 0)) (ty := .boolean) (C := RX6) (T := TX6) (N := 44) hx hb hts kt_X6 tyX6 tyX6_ok nmX6 hown hK hP hD hS 0 rfl rfl 16 (by decide) (kx_word hG kq_04_msmall_14 rfl) (fun _ h9 => h9) rfl (by decide +kernel) (mz_bool (Or.inl rfl)).1 (mz_bool (Or.inl rfl)).2 (Nat.le_of_ble_eq_true rfl) dX6_entry_117 (fun H locs hP hD hS => ?_)
              have hP : va_P (dC, dI) kxCl (mW mo ma cs (va_up (va_up I 0 0) 16 0) (va_up (va_up F 2 (upI (F 2) (I 1) lv)) 3 (upI (F 3) (I 1) ab))) H := hP
              have hD : va_D A (mW mo ma cs (va_up (va_up I 0 0) 16 0) (va_up (va_up F 2 (upI (F 2) (I 1) lv)) 3 (upI (F 3) (I 1) ab))) := hD
              refine lv_aload_n hx hb dX6_entry_120 rfl (lv_at hl 1 rfl) ?_
              refine lv_dup hx hb dX6_entry_121 rfl ?_
              refine va_get (D := (dC, dI)) (ci := 6) (v := .int (iz (I 1))) (C := RX6) (T := TX6) (N := 44) hx hb hts kt_X6 hown hK hP 0 rfl rfl 1 (by decide) (kx_word hG kq_04_msmall_1 rfl) (fun _ h9 => h9) rfl dX6_entry_122 ?_
              refine lv_iconst (v := iz 1) hx hb dX6_entry_125 (by decide) ?_
              refine ki_iadd hx hb dX6_entry_126 ?_
              refine va_put (D := (dC, dI)) (ci := 6) (v := .int (iz ((I 1) + 1))) (ty := .int) (C := RX6) (T := TX6) (N := 44) hx hb hts kt_X6 tyX6 tyX6_ok nmX6 hown hK hP hD hS 0 rfl rfl 1 (by decide) (kx_word hG kq_04_msmall_1 rfl) (fun _ h9 => h9) rfl (by decide +kernel) rfl rfl (Nat.le_of_ble_eq_true rfl) dX6_entry_127 (fun H locs hP hD hS => ?_)
              have hP : va_P (dC, dI) kxCl (mW mo ma cs (va_up (va_up (va_up I 0 0) 16 0) 1 ((I 1) + 1)) (va_up (va_up F 2 (upI (F 2) (I 1) lv)) 3 (upI (F 3) (I 1) ab))) H := hP
              have hD : va_D A (mW mo ma cs (va_up (va_up (va_up I 0 0) 16 0) 1 ((I 1) + 1)) (va_up (va_up F 2 (upI (F 2) (I 1) lv)) 3 (upI (F 3) (I 1) ab))) := hD
              refine lv_aload_n hx hb dX6_entry_130 rfl (lv_at hl 1 rfl) ?_
              refine va_get (D := (dC, dI)) (ci := 6) (v := .int (iz ((I 1) + 1))) (C := RX6) (T := TX6) (N := 44) hx hb hts kt_X6 hown hK hP 0 rfl rfl 1 (by decide) (kx_word hG kq_04_msmall_1 rfl) (fun _ h9 => h9) rfl dX6_entry_131 ?_
              refine lv_iconst (v := iz 1) hx hb dX6_entry_134 (by decide) ?_
              refine ki_isub hx hb dX6_entry_135 ?_
              exact mk_ireti hx hb hr hlocks hP hD hK hS dX6_entry_136 (Or.inr (Or.inr ⟨rfl, rfl, by omega, by omega⟩))
            · omega
          · omega
        · omega
      · omega
    · skip
      refine lv_iload_n hx hb dX6_entry_9 rfl (lv_at hl 1 rfl) ?_
      refine lv_iconst (v := iz 1) hx hb dX6_entry_10 (by decide) ?_
      refine ki_icmp_eq (tgt := 19) hx hb dX6_entry_11 (by decide) (by omega) (by omega) (by omega) (by omega) (fun c_247 => ?_) (fun c_247 => ?_)
      · omega
      · skip
        refine lv_iload_n hx hb dX6_entry_14 rfl (lv_at hl 1 rfl) ?_
        refine lv_iconst (v := iz 2) hx hb dX6_entry_15 (by decide) ?_
        refine ki_icmp_ne (tgt := 43) hx hb dX6_entry_16 (by decide) (by omega) (by omega) (by omega) (by omega) (fun c_248 => ?_) (fun c_248 => ?_)
        · skip
          refine lv_iconst (v := iz 0) hx hb dX6_entry_43 (by decide) ?_
          refine lv_istore_n (lv' := [(3, .int (iz 0)), (0, .ref mo), (1, .int (iz lv)), (2, .int (iz ab))]) hx hb dX6_entry_44 rfl hl (by decide) rfl (fun ls hl => ?_)
          refine lv_aload_n hx hb dX6_entry_45 rfl (lv_at hl 1 rfl) ?_
          refine lv_iload_n hx hb dX6_entry_46 rfl (lv_at hl 3 rfl) ?_
          refine lv_iconst (v := iz (-1)) hx hb dX6_entry_47 (by decide) ?_
          refine ki_icmp_eq (tgt := 63) hx hb dX6_entry_48 (by decide) (by omega) (by omega) (by omega) (by omega) (fun c_249 => ?_) (fun c_249 => ?_)
          · omega
          · skip
            refine lv_aload_n hx hb dX6_entry_51 rfl (lv_at hl 1 rfl) ?_
            refine lv_iload_n hx hb dX6_entry_52 rfl (lv_at hl 3 rfl) ?_
            refine mk_calli (As := [.int (iz ab)]) (rest := [.ref mo]) ⟨hx, hb, hml, hown, hts⟩ (k_isNone l dC dI mo ma cs I F ab s.heap.size hB (by omega) (by omega)) (cwV 1 hts (kx_gV kq_04_msmall_3 kq_04_msmall_4 kq_04_msmall_5 kq_04_msmall_6 kq_04_msmall_7 rfl) rfl rfl rfl (by decide +kernel) ⟨Nat.le_of_ble_eq_true rfl, Nat.le_of_ble_eq_true rfl⟩) hP hD hK hG hZ hS hA rfl hl.1 rfl (Nat.le_of_ble_eq_true rfl) dX6_entry_53 ⟨Nat.le_of_ble_eq_true rfl, Nat.le_of_ble_eq_true rfl⟩ (fun z_250 I_252 F_253 H locs hq_251 hP hD hS => ?_)
            try dsimp only at hq_251
            obtain ⟨rfl, rfl, hq_251⟩ := hq_251
            rcases hq_251 with ⟨rfl, hq_251⟩ | ⟨rfl, hq_251⟩
            · skip
              refine ki_if_eq (tgt := 63) hx hb dX6_entry_56 (by decide) (by omega) (by omega) (fun c_254 => ?_) (fun c_254 => ?_)
              · omega
              · skip
                refine lv_iconst (v := iz 1) hx hb dX6_entry_59 (by decide) ?_
                refine lv_goto (tgt := 64) hx hb dX6_entry_60 (by decide) ?_
                refine lv_iload_n hx hb dX6_entry_64 rfl (lv_at hl 0 rfl) ?_
                refine ki_if_ne (tgt := 72) hx hb dX6_entry_65 (by decide) (by omega) (by omega) (fun c_255 => ?_) (fun c_255 => ?_)
                · omega
                · skip
                  refine lv_iconst (v := iz 1) hx hb dX6_entry_68 (by decide) ?_
                  refine lv_goto (tgt := 73) hx hb dX6_entry_69 (by decide) ?_
                  refine lv_aload_n hx hb dX6_entry_73 rfl (lv_at hl 1 rfl) ?_
                  refine va_get (D := (dC, dI)) (ci := 6) (v := .int (iz (I 1))) (C := RX6) (T := TX6) (N := 44) hx hb hts kt_X6 hown hK hP 0 rfl rfl 1 (by decide) (kx_word hG kq_04_msmall_1 rfl) (fun _ h9 => h9) rfl dX6_entry_74 ?_
                  have hbd_256 := hB.1 1
                  refine lv_bipush (v := iz 80) hx hb dX6_entry_77 (by decide) ?_
                  refine ki_icmp_ne (tgt := 86) hx hb dX6_entry_79 (by decide) (by omega) (by omega) (by omega) (by omega) (fun c_257 => ?_) (fun c_257 => ?_)
                  · skip
                    refine lv_iconst (v := iz 0) hx hb dX6_entry_86 (by decide) ?_
                    refine mk_calli (As := [.int (iz 1), .int (iz 1), .int (iz 0)]) (rest := []) ⟨hx, hb, hml, hown, hts⟩ (k_refused1 l dC dI mo ma cs I F 1 0 H.size (by omega) (by omega) (by omega) (by omega)) (cwV 3 hts (kx_gV kq_04_msmall_8 kq_04_msmall_9 kq_04_msmall_10 kq_04_msmall_6 kq_04_msmall_11 rfl) rfl rfl rfl (by decide +kernel) ⟨Nat.le_of_ble_eq_true rfl, Nat.le_of_ble_eq_true rfl⟩) hP hD hK hG hZ hS hA rfl hl.1 rfl (Nat.le_of_ble_eq_true rfl) dX6_entry_87 ⟨Nat.le_of_ble_eq_true rfl, Nat.le_of_ble_eq_true rfl⟩ (fun z_258 I_260 F_261 H locs hq_259 hP hD hS => ?_)
                    try dsimp only at hq_259
                    obtain ⟨rfl, rfl, rfl⟩ := hq_259
                    refine ki_if_eq (tgt := 95) hx hb dX6_entry_90 (by decide) (by omega) (by omega) (fun c_262 => ?_) (fun c_262 => ?_)
                    · omega
                    · skip
                      refine lv_iconst (v := iz 0) hx hb dX6_entry_93 (by decide) ?_
                      exact mk_ireti hx hb hr hlocks hP hD hK hS dX6_entry_94 (Or.inl ⟨by omega, rfl, rfl, by omega, by omega⟩)
                  · omega
            · skip
              refine ki_if_eq (tgt := 63) hx hb dX6_entry_56 (by decide) (by omega) (by omega) (fun c_263 => ?_) (fun c_263 => ?_)
              · skip
                refine lv_iconst (v := iz 0) hx hb dX6_entry_63 (by decide) ?_
                refine lv_iload_n hx hb dX6_entry_64 rfl (lv_at hl 0 rfl) ?_
                refine ki_if_ne (tgt := 72) hx hb dX6_entry_65 (by decide) (by omega) (by omega) (fun c_264 => ?_) (fun c_264 => ?_)
                · omega
                · skip
                  refine lv_iconst (v := iz 1) hx hb dX6_entry_68 (by decide) ?_
                  refine lv_goto (tgt := 73) hx hb dX6_entry_69 (by decide) ?_
                  refine lv_aload_n hx hb dX6_entry_73 rfl (lv_at hl 1 rfl) ?_
                  refine va_get (D := (dC, dI)) (ci := 6) (v := .int (iz (I 1))) (C := RX6) (T := TX6) (N := 44) hx hb hts kt_X6 hown hK hP 0 rfl rfl 1 (by decide) (kx_word hG kq_04_msmall_1 rfl) (fun _ h9 => h9) rfl dX6_entry_74 ?_
                  have hbd_265 := hB.1 1
                  refine lv_bipush (v := iz 80) hx hb dX6_entry_77 (by decide) ?_
                  refine ki_icmp_ne (tgt := 86) hx hb dX6_entry_79 (by decide) (by omega) (by omega) (by omega) (by omega) (fun c_266 => ?_) (fun c_266 => ?_)
                  · skip
                    refine lv_iconst (v := iz 0) hx hb dX6_entry_86 (by decide) ?_
                    refine mk_calli (As := [.int (iz 0), .int (iz 1), .int (iz 0)]) (rest := []) ⟨hx, hb, hml, hown, hts⟩ (k_refused2 l dC dI mo ma cs I F 0 H.size (by omega) (by omega)) (cwV 3 hts (kx_gV kq_04_msmall_8 kq_04_msmall_9 kq_04_msmall_10 kq_04_msmall_6 kq_04_msmall_11 rfl) rfl rfl rfl (by decide +kernel) ⟨Nat.le_of_ble_eq_true rfl, Nat.le_of_ble_eq_true rfl⟩) hP hD hK hG hZ hS hA rfl hl.1 rfl (Nat.le_of_ble_eq_true rfl) dX6_entry_87 ⟨Nat.le_of_ble_eq_true rfl, Nat.le_of_ble_eq_true rfl⟩ (fun z_267 I_269 F_270 H locs hq_268 hP hD hS => ?_)
                    try dsimp only at hq_268
                    obtain ⟨rfl, rfl, rfl⟩ := hq_268
                    refine ki_if_eq (tgt := 95) hx hb dX6_entry_90 (by decide) (by omega) (by omega) (fun c_271 => ?_) (fun c_271 => ?_)
                    · omega
                    · skip
                      refine lv_iconst (v := iz 0) hx hb dX6_entry_93 (by decide) ?_
                      exact mk_ireti hx hb hr hlocks hP hD hK hS dX6_entry_94 (Or.inr (Or.inl ⟨by omega, rfl, rfl, by omega, by omega⟩))
                  · omega
              · omega
        · omega
set_option maxHeartbeats 4000000 in
set_option maxRecDepth 100000 in
/-- sign -/
theorem k_sign (l : Launch) (dC : Nat → ClassId) (dI : Nat → Nat → Nat) (mo : Nat) (ma : Nat → Nat) (cs : Nat → ClassId) (I : Nat → Int) (F : Nat → Int → Int) (p0 : Int) (p1 : Int) (sz : Nat) (hB : mB I F) (hc : 0 ≤ I 1 ∧ I 1 ≤ 64) (hn : ∀ e, 0 ≤ F 5 e ∧ F 5 e ≤ 20) (hp01 : -2147483648 ≤ p0) (hp02 : p0 < 2147483648) (hp11 : -2147483648 ≤ p1) (hp12 : p1 < 2147483648) : mMi l yX6_sign (.code yX6_sign cX6_sign 3 (some .int)) 1 23 dC dI mo ma cs I F [.ref mo, .int (iz p0), .int (iz p1)] sz (fun (r : Int) (I' : Nat → Int) (F' : Nat → Int → Int) => (r = 0 ∧ F' = F ∧ I' = va_up I 0 1 ∧ (p0 < 0 ∨ I 1 ≤ p0)) ∨ (r = 0 ∧ F' = F ∧ I' = va_up I 0 2 ∧ (0 ≤ p0 ∧ p0 < I 1) ∧ (p1 < 0 ∨ 255 < p1)) ∨ (r = 0 ∧ F' = F ∧ I' = va_up I 0 3 ∧ (0 ≤ p0 ∧ p0 < I 1) ∧ (0 ≤ p1 ∧ p1 ≤ 255) ∧ F 5 p0 = 20) ∨ (I' = va_up (va_up I 0 0) 16 0 ∧ F' = va_up (va_up F 4 (upI (F 4) (20 * p0 + F 5 p0) p1)) 5 (upI (F 5) p0 (F 5 p0 + 1)) ∧ r = F 5 p0 + 1 ∧ (0 ≤ p0 ∧ p0 < I 1) ∧ (0 ≤ p1 ∧ p1 ≤ 255) ∧ ¬ F 5 p0 = 20)) := by
  refine Met.ofW (cc := cX6_sign) (maxL := 3) (ret := (some .int)) (by decide) rfl ?_
  intro p e s m args below meth c s₁ B hml hv
  obtain ⟨rfl, hsz, hP, hK, hD0, hG, hZ⟩ := hv
  have hx := B.exec
  have hb := B.bytes
  have hr := B.returns
  have hts := kx_hts (a := ([.ref mo, .int (iz p0), .int (iz p1)] : List Value).toArray) hG
  have hown : s.vm.findClass RX6 = some m.cls := findClass_of_methodNamed B.named
  have hlocks := B.notSynchronized
  subst hsz
  have hD := hD0.self (sz := s.heap.size)
  generalize hAe : va_A (mW mo ma cs I F) s.heap.size = A at hD hZ ⊢
  have hA : ∀ q : Nat, s.heap.size ≤ q → A q := fun q h => by rw [← hAe]; exact Or.inr h
  have hS : va_S A s.heap s.heap [] := va_S.rf
  have hl := lv_entry ([.ref mo, .int (iz p0), .int (iz p1)]) (n := 3) (Nat.le_of_ble_eq_true rfl)
  rw [lg_entry_eq]
  generalize (lg_sl ([.ref mo, .int (iz p0), .int (iz p1)]) ++ List.replicate (3 - (lg_sl ([.ref mo, .int (iz p0), .int (iz p1)])).length) Slot.unset).toArray = ls at hl ⊢
  have hl : lv_has ls 3 [(0, .ref mo), (1, .int (iz p0)), (2, .int (iz p1))] := hl
  have hnp := hn p0
  refine lv_aload_n hx hb dX6_sign_0 rfl (lv_at hl 0 rfl) ?_
  refine lv_aload_n hx hb dX6_sign_1 rfl (lv_at hl 0 rfl) ?_
  refine lv_iload_n hx hb dX6_sign_2 rfl (lv_at hl 1 rfl) ?_
  refine mk_calli (As := [.int (iz p0)]) (rest := [.ref mo]) ⟨hx, hb, hml, hown, hts⟩ (k_isNone l dC dI mo ma cs I F p0 s.heap.size hB (by omega) (by omega)) (cwV 1 hts (kx_gV kq_04_msmall_3 kq_04_msmall_4 kq_04_msmall_5 kq_04_msmall_6 kq_04_msmall_7 rfl) rfl rfl rfl (by decide +kernel) ⟨Nat.le_of_ble_eq_true rfl, Nat.le_of_ble_eq_true rfl⟩) hP hD hK hG hZ hS hA rfl hl.1 rfl (Nat.le_of_ble_eq_true rfl) dX6_sign_3 ⟨Nat.le_of_ble_eq_true rfl, Nat.le_of_ble_eq_true rfl⟩ (fun z_1 I_3 F_4 H locs hq_2 hP hD hS => ?_)
  try dsimp only at hq_2
  obtain ⟨rfl, rfl, hq_2⟩ := hq_2
  rcases hq_2 with ⟨rfl, hq_2⟩ | ⟨rfl, hq_2⟩
  · skip
    refine lv_iload_n hx hb dX6_sign_6 rfl (lv_at hl 2 rfl) ?_
    refine ki_if_lt (tgt := 17) hx hb dX6_sign_7 (by decide) (by omega) (by omega) (fun c_5 => ?_) (fun c_5 => ?_)
    · skip
      refine lv_iconst (v := iz 1) hx hb dX6_sign_17 (by decide) ?_
      refine lv_goto (tgt := 22) hx hb dX6_sign_18 (by decide) ?_
      refine lv_aload_n hx hb dX6_sign_22 rfl (lv_at hl 0 rfl) ?_
      refine lv_iload_n hx hb dX6_sign_23 rfl (lv_at hl 1 rfl) ?_
      refine mk_calli (As := [.int (iz p0)]) (rest := [.int (iz 1), .int (iz 1), .ref mo]) ⟨hx, hb, hml, hown, hts⟩ (k_isNone l dC dI mo ma cs I F p0 H.size hB (by omega) (by omega)) (cwV 1 hts (kx_gV kq_04_msmall_3 kq_04_msmall_4 kq_04_msmall_5 kq_04_msmall_6 kq_04_msmall_7 rfl) rfl rfl rfl (by decide +kernel) ⟨Nat.le_of_ble_eq_true rfl, Nat.le_of_ble_eq_true rfl⟩) hP hD hK hG hZ hS hA rfl hl.1 rfl (Nat.le_of_ble_eq_true rfl) dX6_sign_24 ⟨Nat.le_of_ble_eq_true rfl, Nat.le_of_ble_eq_true rfl⟩ (fun z_6 I_8 F_9 H locs hq_7 hP hD hS => ?_)
      try dsimp only at hq_7
      obtain ⟨rfl, rfl, hq_7⟩ := hq_7
      rcases hq_7 with ⟨rfl, hq_7⟩ | ⟨rfl, hq_7⟩
      · skip
        refine ki_if_ne (tgt := 45) hx hb dX6_sign_27 (by decide) (by omega) (by omega) (fun c_10 => ?_) (fun c_10 => ?_)
        · skip
          refine lv_iconst (v := iz 0) hx hb dX6_sign_45 (by decide) ?_
          refine mk_calli (As := [.int (iz 1), .int (iz 1), .int (iz 0)]) (rest := []) ⟨hx, hb, hml, hown, hts⟩ (k_refused1 l dC dI mo ma cs I F 1 0 H.size (by omega) (by omega) (by omega) (by omega)) (cwV 3 hts (kx_gV kq_04_msmall_8 kq_04_msmall_9 kq_04_msmall_10 kq_04_msmall_6 kq_04_msmall_11 rfl) rfl rfl rfl (by decide +kernel) ⟨Nat.le_of_ble_eq_true rfl, Nat.le_of_ble_eq_true rfl⟩) hP hD hK hG hZ hS hA rfl hl.1 rfl (Nat.le_of_ble_eq_true rfl) dX6_sign_46 ⟨Nat.le_of_ble_eq_true rfl, Nat.le_of_ble_eq_true rfl⟩ (fun z_11 I_13 F_14 H locs hq_12 hP hD hS => ?_)
          try dsimp only at hq_12
          obtain ⟨rfl, rfl, rfl⟩ := hq_12
          refine ki_if_eq (tgt := 54) hx hb dX6_sign_49 (by decide) (by omega) (by omega) (fun c_15 => ?_) (fun c_15 => ?_)
          · omega
          · skip
            refine lv_iconst (v := iz 0) hx hb dX6_sign_52 (by decide) ?_
            exact mk_ireti hx hb hr hlocks hP hD hK hS dX6_sign_53 (Or.inl ⟨by omega, rfl, rfl, by omega⟩)
        · omega
      · skip
        refine ki_if_ne (tgt := 45) hx hb dX6_sign_27 (by decide) (by omega) (by omega) (fun c_16 => ?_) (fun c_16 => ?_)
        · omega
        · skip
          refine lv_aload_n hx hb dX6_sign_30 rfl (lv_at hl 0 rfl) ?_
          refine va_get (D := (dC, dI)) (ci := 6) (v := .ref (ma 5)) (C := RX6) (T := TX6) (N := 44) hx hb hts kt_X6 hown hK hP 0 rfl rfl 5 (by decide) (kx_word hG kq_04_msmall_15 rfl) (fun _ h9 => h9) rfl dX6_sign_31 ?_
          refine lv_iload_n hx hb dX6_sign_34 rfl (lv_at hl 1 rfl) ?_
          refine ki_iald (F := F 5) hx hb hK hP 4 3 rfl rfl (by omega) (by omega) (by decide) dX6_sign_35 ?_
          have hbd_17 := hB.2 5 p0
          refine lv_bipush (v := iz 20) hx hb dX6_sign_36 (by decide) ?_
          refine ki_icmp_ne (tgt := 45) hx hb dX6_sign_38 (by decide) (by omega) (by omega) (by omega) (by omega) (fun c_18 => ?_) (fun c_18 => ?_)
          · skip
            refine lv_iconst (v := iz 0) hx hb dX6_sign_45 (by decide) ?_
            refine mk_calli (As := [.int (iz 1), .int (iz 1), .int (iz 0)]) (rest := []) ⟨hx, hb, hml, hown, hts⟩ (k_refused1 l dC dI mo ma cs I F 1 0 H.size (by omega) (by omega) (by omega) (by omega)) (cwV 3 hts (kx_gV kq_04_msmall_8 kq_04_msmall_9 kq_04_msmall_10 kq_04_msmall_6 kq_04_msmall_11 rfl) rfl rfl rfl (by decide +kernel) ⟨Nat.le_of_ble_eq_true rfl, Nat.le_of_ble_eq_true rfl⟩) hP hD hK hG hZ hS hA rfl hl.1 rfl (Nat.le_of_ble_eq_true rfl) dX6_sign_46 ⟨Nat.le_of_ble_eq_true rfl, Nat.le_of_ble_eq_true rfl⟩ (fun z_19 I_21 F_22 H locs hq_20 hP hD hS => ?_)
            try dsimp only at hq_20
            obtain ⟨rfl, rfl, rfl⟩ := hq_20
            refine ki_if_eq (tgt := 54) hx hb dX6_sign_49 (by decide) (by omega) (by omega) (fun c_23 => ?_) (fun c_23 => ?_)
            · omega
            · skip
              refine lv_iconst (v := iz 0) hx hb dX6_sign_52 (by decide) ?_
              exact mk_ireti hx hb hr hlocks hP hD hK hS dX6_sign_53 (Or.inl ⟨by omega, rfl, rfl, by omega⟩)
          · skip
            refine lv_iconst (v := iz 1) hx hb dX6_sign_41 (by decide) ?_
            refine lv_goto (tgt := 46) hx hb dX6_sign_42 (by decide) ?_
            refine mk_calli (As := [.int (iz 1), .int (iz 1), .int (iz 1)]) (rest := []) ⟨hx, hb, hml, hown, hts⟩ (k_refused1 l dC dI mo ma cs I F 1 1 H.size (by omega) (by omega) (by omega) (by omega)) (cwV 3 hts (kx_gV kq_04_msmall_8 kq_04_msmall_9 kq_04_msmall_10 kq_04_msmall_6 kq_04_msmall_11 rfl) rfl rfl rfl (by decide +kernel) ⟨Nat.le_of_ble_eq_true rfl, Nat.le_of_ble_eq_true rfl⟩) hP hD hK hG hZ hS hA rfl hl.1 rfl (Nat.le_of_ble_eq_true rfl) dX6_sign_46 ⟨Nat.le_of_ble_eq_true rfl, Nat.le_of_ble_eq_true rfl⟩ (fun z_24 I_26 F_27 H locs hq_25 hP hD hS => ?_)
            try dsimp only at hq_25
            obtain ⟨rfl, rfl, rfl⟩ := hq_25
            refine ki_if_eq (tgt := 54) hx hb dX6_sign_49 (by decide) (by omega) (by omega) (fun c_28 => ?_) (fun c_28 => ?_)
            · omega
            · skip
              refine lv_iconst (v := iz 0) hx hb dX6_sign_52 (by decide) ?_
              exact mk_ireti hx hb hr hlocks hP hD hK hS dX6_sign_53 (Or.inl ⟨by omega, rfl, rfl, by omega⟩)
    · skip
      refine lv_iload_n hx hb dX6_sign_10 rfl (lv_at hl 2 rfl) ?_
      refine lv_sipush (v := iz 255) hx hb dX6_sign_11 (by decide) ?_
      refine ki_icmp_le (tgt := 21) hx hb dX6_sign_14 (by decide) (by omega) (by omega) (by omega) (by omega) (fun c_29 => ?_) (fun c_29 => ?_)
      · skip
        refine lv_iconst (v := iz 0) hx hb dX6_sign_21 (by decide) ?_
        refine lv_aload_n hx hb dX6_sign_22 rfl (lv_at hl 0 rfl) ?_
        refine lv_iload_n hx hb dX6_sign_23 rfl (lv_at hl 1 rfl) ?_
        refine mk_calli (As := [.int (iz p0)]) (rest := [.int (iz 0), .int (iz 1), .ref mo]) ⟨hx, hb, hml, hown, hts⟩ (k_isNone l dC dI mo ma cs I F p0 H.size hB (by omega) (by omega)) (cwV 1 hts (kx_gV kq_04_msmall_3 kq_04_msmall_4 kq_04_msmall_5 kq_04_msmall_6 kq_04_msmall_7 rfl) rfl rfl rfl (by decide +kernel) ⟨Nat.le_of_ble_eq_true rfl, Nat.le_of_ble_eq_true rfl⟩) hP hD hK hG hZ hS hA rfl hl.1 rfl (Nat.le_of_ble_eq_true rfl) dX6_sign_24 ⟨Nat.le_of_ble_eq_true rfl, Nat.le_of_ble_eq_true rfl⟩ (fun z_30 I_32 F_33 H locs hq_31 hP hD hS => ?_)
        try dsimp only at hq_31
        obtain ⟨rfl, rfl, hq_31⟩ := hq_31
        rcases hq_31 with ⟨rfl, hq_31⟩ | ⟨rfl, hq_31⟩
        · skip
          refine ki_if_ne (tgt := 45) hx hb dX6_sign_27 (by decide) (by omega) (by omega) (fun c_34 => ?_) (fun c_34 => ?_)
          · skip
            refine lv_iconst (v := iz 0) hx hb dX6_sign_45 (by decide) ?_
            refine mk_calli (As := [.int (iz 1), .int (iz 0), .int (iz 0)]) (rest := []) ⟨hx, hb, hml, hown, hts⟩ (k_refused1 l dC dI mo ma cs I F 0 0 H.size (by omega) (by omega) (by omega) (by omega)) (cwV 3 hts (kx_gV kq_04_msmall_8 kq_04_msmall_9 kq_04_msmall_10 kq_04_msmall_6 kq_04_msmall_11 rfl) rfl rfl rfl (by decide +kernel) ⟨Nat.le_of_ble_eq_true rfl, Nat.le_of_ble_eq_true rfl⟩) hP hD hK hG hZ hS hA rfl hl.1 rfl (Nat.le_of_ble_eq_true rfl) dX6_sign_46 ⟨Nat.le_of_ble_eq_true rfl, Nat.le_of_ble_eq_true rfl⟩ (fun z_35 I_37 F_38 H locs hq_36 hP hD hS => ?_)
            try dsimp only at hq_36
            obtain ⟨rfl, rfl, rfl⟩ := hq_36
            refine ki_if_eq (tgt := 54) hx hb dX6_sign_49 (by decide) (by omega) (by omega) (fun c_39 => ?_) (fun c_39 => ?_)
            · omega
            · skip
              refine lv_iconst (v := iz 0) hx hb dX6_sign_52 (by decide) ?_
              exact mk_ireti hx hb hr hlocks hP hD hK hS dX6_sign_53 (Or.inl ⟨by omega, rfl, rfl, by omega⟩)
          · omega
        · skip
          refine ki_if_ne (tgt := 45) hx hb dX6_sign_27 (by decide) (by omega) (by omega) (fun c_40 => ?_) (fun c_40 => ?_)
          · omega
          · skip
            refine lv_aload_n hx hb dX6_sign_30 rfl (lv_at hl 0 rfl) ?_
            refine va_get (D := (dC, dI)) (ci := 6) (v := .ref (ma 5)) (C := RX6) (T := TX6) (N := 44) hx hb hts kt_X6 hown hK hP 0 rfl rfl 5 (by decide) (kx_word hG kq_04_msmall_15 rfl) (fun _ h9 => h9) rfl dX6_sign_31 ?_
            refine lv_iload_n hx hb dX6_sign_34 rfl (lv_at hl 1 rfl) ?_
            refine ki_iald (F := F 5) hx hb hK hP 4 3 rfl rfl (by omega) (by omega) (by decide) dX6_sign_35 ?_
            have hbd_41 := hB.2 5 p0
            refine lv_bipush (v := iz 20) hx hb dX6_sign_36 (by decide) ?_
            refine ki_icmp_ne (tgt := 45) hx hb dX6_sign_38 (by decide) (by omega) (by omega) (by omega) (by omega) (fun c_42 => ?_) (fun c_42 => ?_)
            · skip
              refine lv_iconst (v := iz 0) hx hb dX6_sign_45 (by decide) ?_
              refine mk_calli (As := [.int (iz 1), .int (iz 0), .int (iz 0)]) (rest := []) ⟨hx, hb, hml, hown, hts⟩ (k_refused1 l dC dI mo ma cs I F 0 0 H.size (by omega) (by omega) (by omega) (by omega)) (cwV 3 hts (kx_gV kq_04_msmall_8 kq_04_msmall_9 kq_04_msmall_10 kq_04_msmall_6 kq_04_msmall_11 rfl) rfl rfl rfl (by decide +kernel) ⟨Nat.le_of_ble_eq_true rfl, Nat.le_of_ble_eq_true rfl⟩) hP hD hK hG hZ hS hA rfl hl.1 rfl (Nat.le_of_ble_eq_true rfl) dX6_sign_46 ⟨Nat.le_of_ble_eq_true rfl, Nat.le_of_ble_eq_true rfl⟩ (fun z_43 I_45 F_46 H locs hq_44 hP hD hS => ?_)
              try dsimp only at hq_44
              obtain ⟨rfl, rfl, rfl⟩ := hq_44
              refine ki_if_eq (tgt := 54) hx hb dX6_sign_49 (by decide) (by omega) (by omega) (fun c_47 => ?_) (fun c_47 => ?_)
              · omega
              · skip
                refine lv_iconst (v := iz 0) hx hb dX6_sign_52 (by decide) ?_
                exact mk_ireti hx hb hr hlocks hP hD hK hS dX6_sign_53 (Or.inl ⟨by omega, rfl, rfl, by omega⟩)
            · skip
              refine lv_iconst (v := iz 1) hx hb dX6_sign_41 (by decide) ?_
              refine lv_goto (tgt := 46) hx hb dX6_sign_42 (by decide) ?_
              refine mk_calli (As := [.int (iz 1), .int (iz 0), .int (iz 1)]) (rest := []) ⟨hx, hb, hml, hown, hts⟩ (k_refused1 l dC dI mo ma cs I F 0 1 H.size (by omega) (by omega) (by omega) (by omega)) (cwV 3 hts (kx_gV kq_04_msmall_8 kq_04_msmall_9 kq_04_msmall_10 kq_04_msmall_6 kq_04_msmall_11 rfl) rfl rfl rfl (by decide +kernel) ⟨Nat.le_of_ble_eq_true rfl, Nat.le_of_ble_eq_true rfl⟩) hP hD hK hG hZ hS hA rfl hl.1 rfl (Nat.le_of_ble_eq_true rfl) dX6_sign_46 ⟨Nat.le_of_ble_eq_true rfl, Nat.le_of_ble_eq_true rfl⟩ (fun z_48 I_50 F_51 H locs hq_49 hP hD hS => ?_)
              try dsimp only at hq_49
              obtain ⟨rfl, rfl, rfl⟩ := hq_49
              refine ki_if_eq (tgt := 54) hx hb dX6_sign_49 (by decide) (by omega) (by omega) (fun c_52 => ?_) (fun c_52 => ?_)
              · omega
              · skip
                refine lv_iconst (v := iz 0) hx hb dX6_sign_52 (by decide) ?_
                exact mk_ireti hx hb hr hlocks hP hD hK hS dX6_sign_53 (Or.inl ⟨by omega, rfl, rfl, by omega⟩)
      · skip
        refine lv_iconst (v := iz 1) hx hb dX6_sign_17 (by decide) ?_
        refine lv_goto (tgt := 22) hx hb dX6_sign_18 (by decide) ?_
        refine lv_aload_n hx hb dX6_sign_22 rfl (lv_at hl 0 rfl) ?_
        refine lv_iload_n hx hb dX6_sign_23 rfl (lv_at hl 1 rfl) ?_
        refine mk_calli (As := [.int (iz p0)]) (rest := [.int (iz 1), .int (iz 1), .ref mo]) ⟨hx, hb, hml, hown, hts⟩ (k_isNone l dC dI mo ma cs I F p0 H.size hB (by omega) (by omega)) (cwV 1 hts (kx_gV kq_04_msmall_3 kq_04_msmall_4 kq_04_msmall_5 kq_04_msmall_6 kq_04_msmall_7 rfl) rfl rfl rfl (by decide +kernel) ⟨Nat.le_of_ble_eq_true rfl, Nat.le_of_ble_eq_true rfl⟩) hP hD hK hG hZ hS hA rfl hl.1 rfl (Nat.le_of_ble_eq_true rfl) dX6_sign_24 ⟨Nat.le_of_ble_eq_true rfl, Nat.le_of_ble_eq_true rfl⟩ (fun z_53 I_55 F_56 H locs hq_54 hP hD hS => ?_)
        try dsimp only at hq_54
        obtain ⟨rfl, rfl, hq_54⟩ := hq_54
        rcases hq_54 with ⟨rfl, hq_54⟩ | ⟨rfl, hq_54⟩
        · skip
          refine ki_if_ne (tgt := 45) hx hb dX6_sign_27 (by decide) (by omega) (by omega) (fun c_57 => ?_) (fun c_57 => ?_)
          · skip
            refine lv_iconst (v := iz 0) hx hb dX6_sign_45 (by decide) ?_
            refine mk_calli (As := [.int (iz 1), .int (iz 1), .int (iz 0)]) (rest := []) ⟨hx, hb, hml, hown, hts⟩ (k_refused1 l dC dI mo ma cs I F 1 0 H.size (by omega) (by omega) (by omega) (by omega)) (cwV 3 hts (kx_gV kq_04_msmall_8 kq_04_msmall_9 kq_04_msmall_10 kq_04_msmall_6 kq_04_msmall_11 rfl) rfl rfl rfl (by decide +kernel) ⟨Nat.le_of_ble_eq_true rfl, Nat.le_of_ble_eq_true rfl⟩) hP hD hK hG hZ hS hA rfl hl.1 rfl (Nat.le_of_ble_eq_true rfl) dX6_sign_46 ⟨Nat.le_of_ble_eq_true rfl, Nat.le_of_ble_eq_true rfl⟩ (fun z_58 I_60 F_61 H locs hq_59 hP hD hS => ?_)
            try dsimp only at hq_59
            obtain ⟨rfl, rfl, rfl⟩ := hq_59
            refine ki_if_eq (tgt := 54) hx hb dX6_sign_49 (by decide) (by omega) (by omega) (fun c_62 => ?_) (fun c_62 => ?_)
            · omega
            · skip
              refine lv_iconst (v := iz 0) hx hb dX6_sign_52 (by decide) ?_
              exact mk_ireti hx hb hr hlocks hP hD hK hS dX6_sign_53 (Or.inl ⟨by omega, rfl, rfl, by omega⟩)
          · omega
        · skip
          refine ki_if_ne (tgt := 45) hx hb dX6_sign_27 (by decide) (by omega) (by omega) (fun c_63 => ?_) (fun c_63 => ?_)
          · omega
          · skip
            refine lv_aload_n hx hb dX6_sign_30 rfl (lv_at hl 0 rfl) ?_
            refine va_get (D := (dC, dI)) (ci := 6) (v := .ref (ma 5)) (C := RX6) (T := TX6) (N := 44) hx hb hts kt_X6 hown hK hP 0 rfl rfl 5 (by decide) (kx_word hG kq_04_msmall_15 rfl) (fun _ h9 => h9) rfl dX6_sign_31 ?_
            refine lv_iload_n hx hb dX6_sign_34 rfl (lv_at hl 1 rfl) ?_
            refine ki_iald (F := F 5) hx hb hK hP 4 3 rfl rfl (by omega) (by omega) (by decide) dX6_sign_35 ?_
            have hbd_64 := hB.2 5 p0
            refine lv_bipush (v := iz 20) hx hb dX6_sign_36 (by decide) ?_
            refine ki_icmp_ne (tgt := 45) hx hb dX6_sign_38 (by decide) (by omega) (by omega) (by omega) (by omega) (fun c_65 => ?_) (fun c_65 => ?_)
            · skip
              refine lv_iconst (v := iz 0) hx hb dX6_sign_45 (by decide) ?_
              refine mk_calli (As := [.int (iz 1), .int (iz 1), .int (iz 0)]) (rest := []) ⟨hx, hb, hml, hown, hts⟩ (k_refused1 l dC dI mo ma cs I F 1 0 H.size (by omega) (by omega) (by omega) (by omega)) (cwV 3 hts (kx_gV kq_04_msmall_8 kq_04_msmall_9 kq_04_msmall_10 kq_04_msmall_6 kq_04_msmall_11 rfl) rfl rfl rfl (by decide +kernel) ⟨Nat.le_of_ble_eq_true rfl, Nat.le_of_ble_eq_true rfl⟩) hP hD hK hG hZ hS hA rfl hl.1 rfl (Nat.le_of_ble_eq_true rfl) dX6_sign_46 ⟨Nat.le_of_ble_eq_true rfl, Nat.le_of_ble_eq_true rfl⟩ (fun z_66 I_68 F_69 H locs hq_67 hP hD hS => ?_)
              try dsimp only at hq_67
              obtain ⟨rfl, rfl, rfl⟩ := hq_67
              refine ki_if_eq (tgt := 54) hx hb dX6_sign_49 (by decide) (by omega) (by omega) (fun c_70 => ?_) (fun c_70 => ?_)
              · omega
              · skip
                refine lv_iconst (v := iz 0) hx hb dX6_sign_52 (by decide) ?_
                exact mk_ireti hx hb hr hlocks hP hD hK hS dX6_sign_53 (Or.inl ⟨by omega, rfl, rfl, by omega⟩)
            · skip
              refine lv_iconst (v := iz 1) hx hb dX6_sign_41 (by decide) ?_
              refine lv_goto (tgt := 46) hx hb dX6_sign_42 (by decide) ?_
              refine mk_calli (As := [.int (iz 1), .int (iz 1), .int (iz 1)]) (rest := []) ⟨hx, hb, hml, hown, hts⟩ (k_refused1 l dC dI mo ma cs I F 1 1 H.size (by omega) (by omega) (by omega) (by omega)) (cwV 3 hts (kx_gV kq_04_msmall_8 kq_04_msmall_9 kq_04_msmall_10 kq_04_msmall_6 kq_04_msmall_11 rfl) rfl rfl rfl (by decide +kernel) ⟨Nat.le_of_ble_eq_true rfl, Nat.le_of_ble_eq_true rfl⟩) hP hD hK hG hZ hS hA rfl hl.1 rfl (Nat.le_of_ble_eq_true rfl) dX6_sign_46 ⟨Nat.le_of_ble_eq_true rfl, Nat.le_of_ble_eq_true rfl⟩ (fun z_71 I_73 F_74 H locs hq_72 hP hD hS => ?_)
              try dsimp only at hq_72
              obtain ⟨rfl, rfl, rfl⟩ := hq_72
              refine ki_if_eq (tgt := 54) hx hb dX6_sign_49 (by decide) (by omega) (by omega) (fun c_75 => ?_) (fun c_75 => ?_)
              · omega
              · skip
                refine lv_iconst (v := iz 0) hx hb dX6_sign_52 (by decide) ?_
                exact mk_ireti hx hb hr hlocks hP hD hK hS dX6_sign_53 (Or.inl ⟨by omega, rfl, rfl, by omega⟩)
  · skip
    refine lv_iload_n hx hb dX6_sign_6 rfl (lv_at hl 2 rfl) ?_
    refine ki_if_lt (tgt := 17) hx hb dX6_sign_7 (by decide) (by omega) (by omega) (fun c_76 => ?_) (fun c_76 => ?_)
    · skip
      refine lv_iconst (v := iz 1) hx hb dX6_sign_17 (by decide) ?_
      refine lv_goto (tgt := 22) hx hb dX6_sign_18 (by decide) ?_
      refine lv_aload_n hx hb dX6_sign_22 rfl (lv_at hl 0 rfl) ?_
      refine lv_iload_n hx hb dX6_sign_23 rfl (lv_at hl 1 rfl) ?_
      refine mk_calli (As := [.int (iz p0)]) (rest := [.int (iz 1), .int (iz 0), .ref mo]) ⟨hx, hb, hml, hown, hts⟩ (k_isNone l dC dI mo ma cs I F p0 H.size hB (by omega) (by omega)) (cwV 1 hts (kx_gV kq_04_msmall_3 kq_04_msmall_4 kq_04_msmall_5 kq_04_msmall_6 kq_04_msmall_7 rfl) rfl rfl rfl (by decide +kernel) ⟨Nat.le_of_ble_eq_true rfl, Nat.le_of_ble_eq_true rfl⟩) hP hD hK hG hZ hS hA rfl hl.1 rfl (Nat.le_of_ble_eq_true rfl) dX6_sign_24 ⟨Nat.le_of_ble_eq_true rfl, Nat.le_of_ble_eq_true rfl⟩ (fun z_77 I_79 F_80 H locs hq_78 hP hD hS => ?_)
      try dsimp only at hq_78
      obtain ⟨rfl, rfl, hq_78⟩ := hq_78
      rcases hq_78 with ⟨rfl, hq_78⟩ | ⟨rfl, hq_78⟩
      · skip
        refine ki_if_ne (tgt := 45) hx hb dX6_sign_27 (by decide) (by omega) (by omega) (fun c_81 => ?_) (fun c_81 => ?_)
        · skip
          refine lv_iconst (v := iz 0) hx hb dX6_sign_45 (by decide) ?_
          refine mk_calli (As := [.int (iz 0), .int (iz 1), .int (iz 0)]) (rest := []) ⟨hx, hb, hml, hown, hts⟩ (k_refused2 l dC dI mo ma cs I F 0 H.size (by omega) (by omega)) (cwV 3 hts (kx_gV kq_04_msmall_8 kq_04_msmall_9 kq_04_msmall_10 kq_04_msmall_6 kq_04_msmall_11 rfl) rfl rfl rfl (by decide +kernel) ⟨Nat.le_of_ble_eq_true rfl, Nat.le_of_ble_eq_true rfl⟩) hP hD hK hG hZ hS hA rfl hl.1 rfl (Nat.le_of_ble_eq_true rfl) dX6_sign_46 ⟨Nat.le_of_ble_eq_true rfl, Nat.le_of_ble_eq_true rfl⟩ (fun z_82 I_84 F_85 H locs hq_83 hP hD hS => ?_)
          try dsimp only at hq_83
          obtain ⟨rfl, rfl, rfl⟩ := hq_83
          refine ki_if_eq (tgt := 54) hx hb dX6_sign_49 (by decide) (by omega) (by omega) (fun c_86 => ?_) (fun c_86 => ?_)
          · omega
          · skip
            refine lv_iconst (v := iz 0) hx hb dX6_sign_52 (by decide) ?_
            exact mk_ireti hx hb hr hlocks hP hD hK hS dX6_sign_53 (Or.inr (Or.inl ⟨by omega, rfl, rfl, by omega, by omega⟩))
        · omega
      · skip
        refine ki_if_ne (tgt := 45) hx hb dX6_sign_27 (by decide) (by omega) (by omega) (fun c_87 => ?_) (fun c_87 => ?_)
        · omega
        · skip
          refine lv_aload_n hx hb dX6_sign_30 rfl (lv_at hl 0 rfl) ?_
          refine va_get (D := (dC, dI)) (ci := 6) (v := .ref (ma 5)) (C := RX6) (T := TX6) (N := 44) hx hb hts kt_X6 hown hK hP 0 rfl rfl 5 (by decide) (kx_word hG kq_04_msmall_15 rfl) (fun _ h9 => h9) rfl dX6_sign_31 ?_
          refine lv_iload_n hx hb dX6_sign_34 rfl (lv_at hl 1 rfl) ?_
          refine ki_iald (F := F 5) hx hb hK hP 4 3 rfl rfl (by omega) (by omega) (by decide) dX6_sign_35 ?_
          have hbd_88 := hB.2 5 p0
          refine lv_bipush (v := iz 20) hx hb dX6_sign_36 (by decide) ?_
          refine ki_icmp_ne (tgt := 45) hx hb dX6_sign_38 (by decide) (by omega) (by omega) (by omega) (by omega) (fun c_89 => ?_) (fun c_89 => ?_)
          · skip
            refine lv_iconst (v := iz 0) hx hb dX6_sign_45 (by decide) ?_
            refine mk_calli (As := [.int (iz 0), .int (iz 1), .int (iz 0)]) (rest := []) ⟨hx, hb, hml, hown, hts⟩ (k_refused2 l dC dI mo ma cs I F 0 H.size (by omega) (by omega)) (cwV 3 hts (kx_gV kq_04_msmall_8 kq_04_msmall_9 kq_04_msmall_10 kq_04_msmall_6 kq_04_msmall_11 rfl) rfl rfl rfl (by decide +kernel) ⟨Nat.le_of_ble_eq_true rfl, Nat.le_of_ble_eq_true rfl⟩) hP hD hK hG hZ hS hA rfl hl.1 rfl (Nat.le_of_ble_eq_true rfl) dX6_sign_46 ⟨Nat.le_of_ble_eq_true rfl, Nat.le_of_ble_eq_true rfl⟩ (fun z_90 I_92 F_93 H locs hq_91 hP hD hS => ?_)
            try dsimp only at hq_91
            obtain ⟨rfl, rfl, rfl⟩ := hq_91
            refine ki_if_eq (tgt := 54) hx hb dX6_sign_49 (by decide) (by omega) (by omega) (fun c_94 => ?_) (fun c_94 => ?_)
            · omega
            · skip
              refine lv_iconst (v := iz 0) hx hb dX6_sign_52 (by decide) ?_
              exact mk_ireti hx hb hr hlocks hP hD hK hS dX6_sign_53 (Or.inr (Or.inl ⟨by omega, rfl, rfl, by omega, by omega⟩))
          · skip
            refine lv_iconst (v := iz 1) hx hb dX6_sign_41 (by decide) ?_
            refine lv_goto (tgt := 46) hx hb dX6_sign_42 (by decide) ?_
            refine mk_calli (As := [.int (iz 0), .int (iz 1), .int (iz 1)]) (rest := []) ⟨hx, hb, hml, hown, hts⟩ (k_refused2 l dC dI mo ma cs I F 1 H.size (by omega) (by omega)) (cwV 3 hts (kx_gV kq_04_msmall_8 kq_04_msmall_9 kq_04_msmall_10 kq_04_msmall_6 kq_04_msmall_11 rfl) rfl rfl rfl (by decide +kernel) ⟨Nat.le_of_ble_eq_true rfl, Nat.le_of_ble_eq_true rfl⟩) hP hD hK hG hZ hS hA rfl hl.1 rfl (Nat.le_of_ble_eq_true rfl) dX6_sign_46 ⟨Nat.le_of_ble_eq_true rfl, Nat.le_of_ble_eq_true rfl⟩ (fun z_95 I_97 F_98 H locs hq_96 hP hD hS => ?_)
            try dsimp only at hq_96
            obtain ⟨rfl, rfl, rfl⟩ := hq_96
            refine ki_if_eq (tgt := 54) hx hb dX6_sign_49 (by decide) (by omega) (by omega) (fun c_99 => ?_) (fun c_99 => ?_)
            · omega
            · skip
              refine lv_iconst (v := iz 0) hx hb dX6_sign_52 (by decide) ?_
              exact mk_ireti hx hb hr hlocks hP hD hK hS dX6_sign_53 (Or.inr (Or.inl ⟨by omega, rfl, rfl, by omega, by omega⟩))
    · skip
      refine lv_iload_n hx hb dX6_sign_10 rfl (lv_at hl 2 rfl) ?_
      refine lv_sipush (v := iz 255) hx hb dX6_sign_11 (by decide) ?_
      refine ki_icmp_le (tgt := 21) hx hb dX6_sign_14 (by decide) (by omega) (by omega) (by omega) (by omega) (fun c_100 => ?_) (fun c_100 => ?_)
      · skip
        refine lv_iconst (v := iz 0) hx hb dX6_sign_21 (by decide) ?_
        refine lv_aload_n hx hb dX6_sign_22 rfl (lv_at hl 0 rfl) ?_
        refine lv_iload_n hx hb dX6_sign_23 rfl (lv_at hl 1 rfl) ?_
        refine mk_calli (As := [.int (iz p0)]) (rest := [.int (iz 0), .int (iz 0), .ref mo]) ⟨hx, hb, hml, hown, hts⟩ (k_isNone l dC dI mo ma cs I F p0 H.size hB (by omega) (by omega)) (cwV 1 hts (kx_gV kq_04_msmall_3 kq_04_msmall_4 kq_04_msmall_5 kq_04_msmall_6 kq_04_msmall_7 rfl) rfl rfl rfl (by decide +kernel) ⟨Nat.le_of_ble_eq_true rfl, Nat.le_of_ble_eq_true rfl⟩) hP hD hK hG hZ hS hA rfl hl.1 rfl (Nat.le_of_ble_eq_true rfl) dX6_sign_24 ⟨Nat.le_of_ble_eq_true rfl, Nat.le_of_ble_eq_true rfl⟩ (fun z_101 I_103 F_104 H locs hq_102 hP hD hS => ?_)
        try dsimp only at hq_102
        obtain ⟨rfl, rfl, hq_102⟩ := hq_102
        rcases hq_102 with ⟨rfl, hq_102⟩ | ⟨rfl, hq_102⟩
        · skip
          refine ki_if_ne (tgt := 45) hx hb dX6_sign_27 (by decide) (by omega) (by omega) (fun c_105 => ?_) (fun c_105 => ?_)
          · skip
            refine lv_iconst (v := iz 0) hx hb dX6_sign_45 (by decide) ?_
            refine mk_calli (As := [.int (iz 0), .int (iz 0), .int (iz 0)]) (rest := []) ⟨hx, hb, hml, hown, hts⟩ (k_refused0 l dC dI mo ma cs I F  H.size ) (cwV 3 hts (kx_gV kq_04_msmall_8 kq_04_msmall_9 kq_04_msmall_10 kq_04_msmall_6 kq_04_msmall_11 rfl) rfl rfl rfl (by decide +kernel) ⟨Nat.le_of_ble_eq_true rfl, Nat.le_of_ble_eq_true rfl⟩) hP hD hK hG hZ hS hA rfl hl.1 rfl (Nat.le_of_ble_eq_true rfl) dX6_sign_46 ⟨Nat.le_of_ble_eq_true rfl, Nat.le_of_ble_eq_true rfl⟩ (fun z_106 I_108 F_109 H locs hq_107 hP hD hS => ?_)
            try dsimp only at hq_107
            obtain ⟨rfl, rfl, rfl⟩ := hq_107
            refine ki_if_eq (tgt := 54) hx hb dX6_sign_49 (by decide) (by omega) (by omega) (fun c_110 => ?_) (fun c_110 => ?_)
            · skip
              refine lv_aload_n hx hb dX6_sign_54 rfl (lv_at hl 0 rfl) ?_
              refine va_get (D := (dC, dI)) (ci := 6) (v := .ref (ma 4)) (C := RX6) (T := TX6) (N := 44) hx hb hts kt_X6 hown hK hP 0 rfl rfl 4 (by decide) (kx_word hG kq_04_msmall_16 rfl) (fun _ h9 => h9) rfl dX6_sign_55 ?_
              refine lv_bipush (v := iz 20) hx hb dX6_sign_58 (by decide) ?_
              refine lv_iload_n hx hb dX6_sign_60 rfl (lv_at hl 1 rfl) ?_
              refine ki_imul hx hb dX6_sign_61 ?_
              refine lv_aload_n hx hb dX6_sign_62 rfl (lv_at hl 0 rfl) ?_
              refine va_get (D := (dC, dI)) (ci := 6) (v := .ref (ma 5)) (C := RX6) (T := TX6) (N := 44) hx hb hts kt_X6 hown hK hP 0 rfl rfl 5 (by decide) (kx_word hG kq_04_msmall_15 rfl) (fun _ h9 => h9) rfl dX6_sign_63 ?_
              refine lv_iload_n hx hb dX6_sign_66 rfl (lv_at hl 1 rfl) ?_
              refine ki_iald (F := F 5) hx hb hK hP 4 3 rfl rfl (by omega) (by omega) (by decide) dX6_sign_67 ?_
              have hbd_111 := hB.2 5 p0
              refine ki_iadd hx hb dX6_sign_68 ?_
              refine lv_iload_n hx hb dX6_sign_69 rfl (lv_at hl 2 rfl) ?_
              refine ki_iast (F := F 4) hx hb hK hP hD hS 3 2 rfl rfl (by omega) (by omega) (by decide) dX6_sign_70 (fun H locs hP hD hS => ?_)
              have hP : va_P (dC, dI) kxCl (mW mo ma cs (va_up I 0 0) (va_up F 4 (upI (F 4) ((20 * p0) + (F 5 p0)) p1))) H := hP
              have hD : va_D A (mW mo ma cs (va_up I 0 0) (va_up F 4 (upI (F 4) ((20 * p0) + (F 5 p0)) p1))) := hD
              refine lv_aload_n hx hb dX6_sign_71 rfl (lv_at hl 0 rfl) ?_
              refine va_get (D := (dC, dI)) (ci := 6) (v := .ref (ma 5)) (C := RX6) (T := TX6) (N := 44) hx hb hts kt_X6 hown hK hP 0 rfl rfl 5 (by decide) (kx_word hG kq_04_msmall_15 rfl) (fun _ h9 => h9) rfl dX6_sign_72 ?_
              refine lv_iload_n hx hb dX6_sign_75 rfl (lv_at hl 1 rfl) ?_
              refine lv_dup2_11 hx hb dX6_sign_76 rfl rfl ?_
              refine ki_iald (F := F 5) hx hb hK hP 4 3 rfl rfl (by omega) (by omega) (by decide) dX6_sign_77 ?_
              refine lv_iconst (v := iz 1) hx hb dX6_sign_78 (by decide) ?_
              refine ki_iadd hx hb dX6_sign_79 ?_
              refine ki_iast (F := F 5) hx hb hK hP hD hS 4 3 rfl rfl (by omega) (by omega) (by decide) dX6_sign_80 (fun H locs hP hD hS => ?_)
              have hP : va_P (dC, dI) kxCl (mW mo ma cs (va_up I 0 0) (va_up (va_up F 4 (upI (F 4) ((20 * p0) + (F 5 p0)) p1)) 5 (upI (F 5) p0 ((F 5 p0) + 1)))) H := hP
              have hD : va_D A (mW mo ma cs (va_up I 0 0) (va_up (va_up F 4 (upI (F 4) ((20 * p0) + (F 5 p0)) p1)) 5 (upI (F 5) p0 ((F 5 p0) + 1)))) := hD
              refine lv_aload_n hx hb dX6_sign_81 rfl (lv_at hl 0 rfl) ?_
              refine lv_iconst (v := iz 0) hx hb dX6_sign_82 (by decide) ?_
              refine va_put (D := (dC, dI)) (ci := 6) (v := .int (iz 0)) (ty := .boolean) (C := RX6) (T := TX6) (N := 44) hx hb hts kt_X6 tyX6 tyX6_ok nmX6 hown hK hP hD hS 0 rfl rfl 16 (by decide) (kx_word hG kq_04_msmall_14 rfl) (fun _ h9 => h9) rfl (by decide +kernel) (mz_bool (Or.inl rfl)).1 (mz_bool (Or.inl rfl)).2 (Nat.le_of_ble_eq_true rfl) dX6_sign_83 (fun H locs hP hD hS => ?_)
              have hP : va_P (dC, dI) kxCl (mW mo ma cs (va_up (va_up I 0 0) 16 0) (va_up (va_up F 4 (upI (F 4) ((20 * p0) + (F 5 p0)) p1)) 5 (upI (F 5) p0 ((F 5 p0) + 1)))) H := hP
              have hD : va_D A (mW mo ma cs (va_up (va_up I 0 0) 16 0) (va_up (va_up F 4 (upI (F 4) ((20 * p0) + (F 5 p0)) p1)) 5 (upI (F 5) p0 ((F 5 p0) + 1)))) := hD
              refine lv_aload_n hx hb dX6_sign_86 rfl (lv_at hl 0 rfl) ?_
              refine va_get (D := (dC, dI)) (ci := 6) (v := .ref (ma 5)) (C := RX6) (T := TX6) (N := 44) hx hb hts kt_X6 hown hK hP 0 rfl rfl 5 (by decide) (kx_word hG kq_04_msmall_15 rfl) (fun _ h9 => h9) rfl dX6_sign_87 ?_
              refine lv_iload_n hx hb dX6_sign_90 rfl (lv_at hl 1 rfl) ?_
              refine ki_iald (F := upI (F 5) p0 ((F 5 p0) + 1)) hx hb hK hP 4 3 rfl rfl (by omega) (by omega) (by decide) dX6_sign_91 ?_
              refine ki_is (show iz ((upI (F 5) p0 ((F 5 p0) + 1)) p0) = iz ((F 5 p0) + 1) by rw [upI_self]) ?_
              exact mk_ireti hx hb hr hlocks hP hD hK hS dX6_sign_92 (Or.inr (Or.inr (Or.inr ⟨rfl, rfl, rfl, by omega, by omega, by omega⟩)))
            · omega
          · omega
        · skip
          refine ki_if_ne (tgt := 45) hx hb dX6_sign_27 (by decide) (by omega) (by omega) (fun c_112 => ?_) (fun c_112 => ?_)
          · omega
          · skip
            refine lv_aload_n hx hb dX6_sign_30 rfl (lv_at hl 0 rfl) ?_
            refine va_get (D := (dC, dI)) (ci := 6) (v := .ref (ma 5)) (C := RX6) (T := TX6) (N := 44) hx hb hts kt_X6 hown hK hP 0 rfl rfl 5 (by decide) (kx_word hG kq_04_msmall_15 rfl) (fun _ h9 => h9) rfl dX6_sign_31 ?_
            refine lv_iload_n hx hb dX6_sign_34 rfl (lv_at hl 1 rfl) ?_
            refine ki_iald (F := F 5) hx hb hK hP 4 3 rfl rfl (by omega) (by omega) (by decide) dX6_sign_35 ?_
            have hbd_113 := hB.2 5 p0
            refine lv_bipush (v := iz 20) hx hb dX6_sign_36 (by decide) ?_
            refine ki_icmp_ne (tgt := 45) hx hb dX6_sign_38 (by decide) (by omega) (by omega) (by omega) (by omega) (fun c_114 => ?_) (fun c_114 => ?_)
            · skip
              refine lv_iconst (v := iz 0) hx hb dX6_sign_45 (by decide) ?_
              refine mk_calli (As := [.int (iz 0), .int (iz 0), .int (iz 0)]) (rest := []) ⟨hx, hb, hml, hown, hts⟩ (k_refused0 l dC dI mo ma cs I F  H.size ) (cwV 3 hts (kx_gV kq_04_msmall_8 kq_04_msmall_9 kq_04_msmall_10 kq_04_msmall_6 kq_04_msmall_11 rfl) rfl rfl rfl (by decide +kernel) ⟨Nat.le_of_ble_eq_true rfl, Nat.le_of_ble_eq_true rfl⟩) hP hD hK hG hZ hS hA rfl hl.1 rfl (Nat.le_of_ble_eq_true rfl) dX6_sign_46 ⟨Nat.le_of_ble_eq_true rfl, Nat.le_of_ble_eq_true rfl⟩ (fun z_115 I_117 F_118 H locs hq_116 hP hD hS => ?_)
              try dsimp only at hq_116
              obtain ⟨rfl, rfl, rfl⟩ := hq_116
              refine ki_if_eq (tgt := 54) hx hb dX6_sign_49 (by decide) (by omega) (by omega) (fun c_119 => ?_) (fun c_119 => ?_)
              · skip
                refine lv_aload_n hx hb dX6_sign_54 rfl (lv_at hl 0 rfl) ?_
                refine va_get (D := (dC, dI)) (ci := 6) (v := .ref (ma 4)) (C := RX6) (T := TX6) (N := 44) hx hb hts kt_X6 hown hK hP 0 rfl rfl 4 (by decide) (kx_word hG kq_04_msmall_16 rfl) (fun _ h9 => h9) rfl dX6_sign_55 ?_
                refine lv_bipush (v := iz 20) hx hb dX6_sign_58 (by decide) ?_
                refine lv_iload_n hx hb dX6_sign_60 rfl (lv_at hl 1 rfl) ?_
                refine ki_imul hx hb dX6_sign_61 ?_
                refine lv_aload_n hx hb dX6_sign_62 rfl (lv_at hl 0 rfl) ?_
                refine va_get (D := (dC, dI)) (ci := 6) (v := .ref (ma 5)) (C := RX6) (T := TX6) (N := 44) hx hb hts kt_X6 hown hK hP 0 rfl rfl 5 (by decide) (kx_word hG kq_04_msmall_15 rfl) (fun _ h9 => h9) rfl dX6_sign_63 ?_
                refine lv_iload_n hx hb dX6_sign_66 rfl (lv_at hl 1 rfl) ?_
                refine ki_iald (F := F 5) hx hb hK hP 4 3 rfl rfl (by omega) (by omega) (by decide) dX6_sign_67 ?_
                refine ki_iadd hx hb dX6_sign_68 ?_
                refine lv_iload_n hx hb dX6_sign_69 rfl (lv_at hl 2 rfl) ?_
                refine ki_iast (F := F 4) hx hb hK hP hD hS 3 2 rfl rfl (by omega) (by omega) (by decide) dX6_sign_70 (fun H locs hP hD hS => ?_)
                have hP : va_P (dC, dI) kxCl (mW mo ma cs (va_up I 0 0) (va_up F 4 (upI (F 4) ((20 * p0) + (F 5 p0)) p1))) H := hP
                have hD : va_D A (mW mo ma cs (va_up I 0 0) (va_up F 4 (upI (F 4) ((20 * p0) + (F 5 p0)) p1))) := hD
                refine lv_aload_n hx hb dX6_sign_71 rfl (lv_at hl 0 rfl) ?_
                refine va_get (D := (dC, dI)) (ci := 6) (v := .ref (ma 5)) (C := RX6) (T := TX6) (N := 44) hx hb hts kt_X6 hown hK hP 0 rfl rfl 5 (by decide) (kx_word hG kq_04_msmall_15 rfl) (fun _ h9 => h9) rfl dX6_sign_72 ?_
                refine lv_iload_n hx hb dX6_sign_75 rfl (lv_at hl 1 rfl) ?_
                refine lv_dup2_11 hx hb dX6_sign_76 rfl rfl ?_
                refine ki_iald (F := F 5) hx hb hK hP 4 3 rfl rfl (by omega) (by omega) (by decide) dX6_sign_77 ?_
                refine lv_iconst (v := iz 1) hx hb dX6_sign_78 (by decide) ?_
                refine ki_iadd hx hb dX6_sign_79 ?_
                refine ki_iast (F := F 5) hx hb hK hP hD hS 4 3 rfl rfl (by omega) (by omega) (by decide) dX6_sign_80 (fun H locs hP hD hS => ?_)
                have hP : va_P (dC, dI) kxCl (mW mo ma cs (va_up I 0 0) (va_up (va_up F 4 (upI (F 4) ((20 * p0) + (F 5 p0)) p1)) 5 (upI (F 5) p0 ((F 5 p0) + 1)))) H := hP
                have hD : va_D A (mW mo ma cs (va_up I 0 0) (va_up (va_up F 4 (upI (F 4) ((20 * p0) + (F 5 p0)) p1)) 5 (upI (F 5) p0 ((F 5 p0) + 1)))) := hD
                refine lv_aload_n hx hb dX6_sign_81 rfl (lv_at hl 0 rfl) ?_
                refine lv_iconst (v := iz 0) hx hb dX6_sign_82 (by decide) ?_
                refine va_put (D := (dC, dI)) (ci := 6) (v := .int (iz 0)) (ty := .boolean) (C := RX6) (T := TX6) (N := 44) hx hb hts kt_X6 tyX6 tyX6_ok nmX6 hown hK hP hD hS 0 rfl rfl 16 (by decide) (kx_word hG kq_04_msmall_14 rfl) (fun _ h9 => h9) rfl (by decide +kernel) (mz_bool (Or.inl rfl)).1 (mz_bool (Or.inl rfl)).2 (Nat.le_of_ble_eq_true rfl) dX6_sign_83 (fun H locs hP hD hS => ?_)
                have hP : va_P (dC, dI) kxCl (mW mo ma cs (va_up (va_up I 0 0) 16 0) (va_up (va_up F 4 (upI (F 4) ((20 * p0) + (F 5 p0)) p1)) 5 (upI (F 5) p0 ((F 5 p0) + 1)))) H := hP
                have hD : va_D A (mW mo ma cs (va_up (va_up I 0 0) 16 0) (va_up (va_up F 4 (upI (F 4) ((20 * p0) + (F 5 p0)) p1)) 5 (upI (F 5) p0 ((F 5 p0) + 1)))) := hD
                refine lv_aload_n hx hb dX6_sign_86 rfl (lv_at hl 0 rfl) ?_
                refine va_get (D := (dC, dI)) (ci := 6) (v := .ref (ma 5)) (C := RX6) (T := TX6) (N := 44) hx hb hts kt_X6 hown hK hP 0 rfl rfl 5 (by decide) (kx_word hG kq_04_msmall_15 rfl) (fun _ h9 => h9) rfl dX6_sign_87 ?_
                refine lv_iload_n hx hb dX6_sign_90 rfl (lv_at hl 1 rfl) ?_
                refine ki_iald (F := upI (F 5) p0 ((F 5 p0) + 1)) hx hb hK hP 4 3 rfl rfl (by omega) (by omega) (by decide) dX6_sign_91 ?_
                refine ki_is (show iz ((upI (F 5) p0 ((F 5 p0) + 1)) p0) = iz ((F 5 p0) + 1) by rw [upI_self]) ?_
                exact mk_ireti hx hb hr hlocks hP hD hK hS dX6_sign_92 (Or.inr (Or.inr (Or.inr ⟨rfl, rfl, rfl, by omega, by omega, by omega⟩)))
              · omega
            · skip
              refine lv_iconst (v := iz 1) hx hb dX6_sign_41 (by decide) ?_
              refine lv_goto (tgt := 46) hx hb dX6_sign_42 (by decide) ?_
              refine mk_calli (As := [.int (iz 0), .int (iz 0), .int (iz 1)]) (rest := []) ⟨hx, hb, hml, hown, hts⟩ (k_refused3 l dC dI mo ma cs I F  H.size ) (cwV 3 hts (kx_gV kq_04_msmall_8 kq_04_msmall_9 kq_04_msmall_10 kq_04_msmall_6 kq_04_msmall_11 rfl) rfl rfl rfl (by decide +kernel) ⟨Nat.le_of_ble_eq_true rfl, Nat.le_of_ble_eq_true rfl⟩) hP hD hK hG hZ hS hA rfl hl.1 rfl (Nat.le_of_ble_eq_true rfl) dX6_sign_46 ⟨Nat.le_of_ble_eq_true rfl, Nat.le_of_ble_eq_true rfl⟩ (fun z_120 I_122 F_123 H locs hq_121 hP hD hS => ?_)
              try dsimp only at hq_121
              obtain ⟨rfl, rfl, rfl⟩ := hq_121
              refine ki_if_eq (tgt := 54) hx hb dX6_sign_49 (by decide) (by omega) (by omega) (fun c_124 => ?_) (fun c_124 => ?_)
              · omega
              · skip
                refine lv_iconst (v := iz 0) hx hb dX6_sign_52 (by decide) ?_
                exact mk_ireti hx hb hr hlocks hP hD hK hS dX6_sign_53 (Or.inr (Or.inr (Or.inl ⟨by omega, rfl, rfl, by omega, by omega, by omega⟩)))
      · skip
        refine lv_iconst (v := iz 1) hx hb dX6_sign_17 (by decide) ?_
        refine lv_goto (tgt := 22) hx hb dX6_sign_18 (by decide) ?_
        refine lv_aload_n hx hb dX6_sign_22 rfl (lv_at hl 0 rfl) ?_
        refine lv_iload_n hx hb dX6_sign_23 rfl (lv_at hl 1 rfl) ?_
        refine mk_calli (As := [.int (iz p0)]) (rest := [.int (iz 1), .int (iz 0), .ref mo]) ⟨hx, hb, hml, hown, hts⟩ (k_isNone l dC dI mo ma cs I F p0 H.size hB (by omega) (by omega)) (cwV 1 hts (kx_gV kq_04_msmall_3 kq_04_msmall_4 kq_04_msmall_5 kq_04_msmall_6 kq_04_msmall_7 rfl) rfl rfl rfl (by decide +kernel) ⟨Nat.le_of_ble_eq_true rfl, Nat.le_of_ble_eq_true rfl⟩) hP hD hK hG hZ hS hA rfl hl.1 rfl (Nat.le_of_ble_eq_true rfl) dX6_sign_24 ⟨Nat.le_of_ble_eq_true rfl, Nat.le_of_ble_eq_true rfl⟩ (fun z_125 I_127 F_128 H locs hq_126 hP hD hS => ?_)
        try dsimp only at hq_126
        obtain ⟨rfl, rfl, hq_126⟩ := hq_126
        rcases hq_126 with ⟨rfl, hq_126⟩ | ⟨rfl, hq_126⟩
        · skip
          refine ki_if_ne (tgt := 45) hx hb dX6_sign_27 (by decide) (by omega) (by omega) (fun c_129 => ?_) (fun c_129 => ?_)
          · skip
            refine lv_iconst (v := iz 0) hx hb dX6_sign_45 (by decide) ?_
            refine mk_calli (As := [.int (iz 0), .int (iz 1), .int (iz 0)]) (rest := []) ⟨hx, hb, hml, hown, hts⟩ (k_refused2 l dC dI mo ma cs I F 0 H.size (by omega) (by omega)) (cwV 3 hts (kx_gV kq_04_msmall_8 kq_04_msmall_9 kq_04_msmall_10 kq_04_msmall_6 kq_04_msmall_11 rfl) rfl rfl rfl (by decide +kernel) ⟨Nat.le_of_ble_eq_true rfl, Nat.le_of_ble_eq_true rfl⟩) hP hD hK hG hZ hS hA rfl hl.1 rfl (Nat.le_of_ble_eq_true rfl) dX6_sign_46 ⟨Nat.le_of_ble_eq_true rfl, Nat.le_of_ble_eq_true rfl⟩ (fun z_130 I_132 F_133 H locs hq_131 hP hD hS => ?_)
            try dsimp only at hq_131
            obtain ⟨rfl, rfl, rfl⟩ := hq_131
            refine ki_if_eq (tgt := 54) hx hb dX6_sign_49 (by decide) (by omega) (by omega) (fun c_134 => ?_) (fun c_134 => ?_)
            · omega
            · skip
              refine lv_iconst (v := iz 0) hx hb dX6_sign_52 (by decide) ?_
              exact mk_ireti hx hb hr hlocks hP hD hK hS dX6_sign_53 (Or.inr (Or.inl ⟨by omega, rfl, rfl, by omega, by omega⟩))
          · omega
        · skip
          refine ki_if_ne (tgt := 45) hx hb dX6_sign_27 (by decide) (by omega) (by omega) (fun c_135 => ?_) (fun c_135 => ?_)
          · omega
          · skip
            refine lv_aload_n hx hb dX6_sign_30 rfl (lv_at hl 0 rfl) ?_
            refine va_get (D := (dC, dI)) (ci := 6) (v := .ref (ma 5)) (C := RX6) (T := TX6) (N := 44) hx hb hts kt_X6 hown hK hP 0 rfl rfl 5 (by decide) (kx_word hG kq_04_msmall_15 rfl) (fun _ h9 => h9) rfl dX6_sign_31 ?_
            refine lv_iload_n hx hb dX6_sign_34 rfl (lv_at hl 1 rfl) ?_
            refine ki_iald (F := F 5) hx hb hK hP 4 3 rfl rfl (by omega) (by omega) (by decide) dX6_sign_35 ?_
            have hbd_136 := hB.2 5 p0
            refine lv_bipush (v := iz 20) hx hb dX6_sign_36 (by decide) ?_
            refine ki_icmp_ne (tgt := 45) hx hb dX6_sign_38 (by decide) (by omega) (by omega) (by omega) (by omega) (fun c_137 => ?_) (fun c_137 => ?_)
            · skip
              refine lv_iconst (v := iz 0) hx hb dX6_sign_45 (by decide) ?_
              refine mk_calli (As := [.int (iz 0), .int (iz 1), .int (iz 0)]) (rest := []) ⟨hx, hb, hml, hown, hts⟩ (k_refused2 l dC dI mo ma cs I F 0 H.size (by omega) (by omega)) (cwV 3 hts (kx_gV kq_04_msmall_8 kq_04_msmall_9 kq_04_msmall_10 kq_04_msmall_6 kq_04_msmall_11 rfl) rfl rfl rfl (by decide +kernel) ⟨Nat.le_of_ble_eq_true rfl, Nat.le_of_ble_eq_true rfl⟩) hP hD hK hG hZ hS hA rfl hl.1 rfl (Nat.le_of_ble_eq_true rfl) dX6_sign_46 ⟨Nat.le_of_ble_eq_true rfl, Nat.le_of_ble_eq_true rfl⟩ (fun z_138 I_140 F_141 H locs hq_139 hP hD hS => ?_)
              try dsimp only at hq_139
              obtain ⟨rfl, rfl, rfl⟩ := hq_139
              refine ki_if_eq (tgt := 54) hx hb dX6_sign_49 (by decide) (by omega) (by omega) (fun c_142 => ?_) (fun c_142 => ?_)
              · omega
              · skip
                refine lv_iconst (v := iz 0) hx hb dX6_sign_52 (by decide) ?_
                exact mk_ireti hx hb hr hlocks hP hD hK hS dX6_sign_53 (Or.inr (Or.inl ⟨by omega, rfl, rfl, by omega, by omega⟩))
            · skip
              refine lv_iconst (v := iz 1) hx hb dX6_sign_41 (by decide) ?_
              refine lv_goto (tgt := 46) hx hb dX6_sign_42 (by decide) ?_
              refine mk_calli (As := [.int (iz 0), .int (iz 1), .int (iz 1)]) (rest := []) ⟨hx, hb, hml, hown, hts⟩ (k_refused2 l dC dI mo ma cs I F 1 H.size (by omega) (by omega)) (cwV 3 hts (kx_gV kq_04_msmall_8 kq_04_msmall_9 kq_04_msmall_10 kq_04_msmall_6 kq_04_msmall_11 rfl) rfl rfl rfl (by decide +kernel) ⟨Nat.le_of_ble_eq_true rfl, Nat.le_of_ble_eq_true rfl⟩) hP hD hK hG hZ hS hA rfl hl.1 rfl (Nat.le_of_ble_eq_true rfl) dX6_sign_46 ⟨Nat.le_of_ble_eq_true rfl, Nat.le_of_ble_eq_true rfl⟩ (fun z_143 I_145 F_146 H locs hq_144 hP hD hS => ?_)
              try dsimp only at hq_144
              obtain ⟨rfl, rfl, rfl⟩ := hq_144
              refine ki_if_eq (tgt := 54) hx hb dX6_sign_49 (by decide) (by omega) (by omega) (fun c_147 => ?_) (fun c_147 => ?_)
              · omega
              · skip
                refine lv_iconst (v := iz 0) hx hb dX6_sign_52 (by decide) ?_
                exact mk_ireti hx hb hr hlocks hP hD hK hS dX6_sign_53 (Or.inr (Or.inl ⟨by omega, rfl, rfl, by omega, by omega⟩))
set_option maxHeartbeats 4000000 in
set_option maxRecDepth 100000 in
/-- rule -/
theorem k_rule (l : Launch) (dC : Nat → ClassId) (dI : Nat → Nat → Nat) (mo : Nat) (ma : Nat → Nat) (cs : Nat → ClassId) (I : Nat → Int) (F : Nat → Int → Int) (w : Int) (on : Int) (sz : Nat) (hB : mB I F) (hb14 : I 14 = 0 ∨ I 14 = 1) (hb15 : I 15 = 0 ∨ I 15 = 1) (hon : on = 0 ∨ on = 1) (hw1 : -2147483648 ≤ w) (hw2 : w < 2147483648) : mMi l yX6_rule (.code yX6_rule cX6_rule 4 (some .int)) 1 23 dC dI mo ma cs I F [.ref mo, .int (iz w), .int (iz on)] sz (fun (r : Int) (I' : Nat → Int) (F' : Nat → Int → Int) => (r = 0 ∧ F' = F ∧ I' = va_up I 0 1 ∧ ¬ w = 0 ∧ ¬ w = 1) ∨ (F' = F ∧ w = 0 ∧ r = I 14 ∧ I' = va_up (va_up (va_up (va_up I 0 0) 14 on) 15 (I 15)) 16 0) ∨ (F' = F ∧ w = 1 ∧ r = I 15 ∧ I' = va_up (va_up (va_up (va_up I 0 0) 14 (I 14)) 15 on) 16 0)) := by
  refine Met.ofW (cc := cX6_rule) (maxL := 4) (ret := (some .int)) (by decide) rfl ?_
  intro p e s m args below meth c s₁ B hml hv
  obtain ⟨rfl, hsz, hP, hK, hD0, hG, hZ⟩ := hv
  have hx := B.exec
  have hb := B.bytes
  have hr := B.returns
  have hts := kx_hts (a := ([.ref mo, .int (iz w), .int (iz on)] : List Value).toArray) hG
  have hown : s.vm.findClass RX6 = some m.cls := findClass_of_methodNamed B.named
  have hlocks := B.notSynchronized
  subst hsz
  have hD := hD0.self (sz := s.heap.size)
  generalize hAe : va_A (mW mo ma cs I F) s.heap.size = A at hD hZ ⊢
  have hA : ∀ q : Nat, s.heap.size ≤ q → A q := fun q h => by rw [← hAe]; exact Or.inr h
  have hS : va_S A s.heap s.heap [] := va_S.rf
  have hl := lv_entry ([.ref mo, .int (iz w), .int (iz on)]) (n := 4) (Nat.le_of_ble_eq_true rfl)
  rw [lg_entry_eq]
  generalize (lg_sl ([.ref mo, .int (iz w), .int (iz on)]) ++ List.replicate (4 - (lg_sl ([.ref mo, .int (iz w), .int (iz on)])).length) Slot.unset).toArray = ls at hl ⊢
  have hl : lv_has ls 4 [(0, .ref mo), (1, .int (iz w)), (2, .int (iz on))] := hl
  refine lv_aload_n hx hb dX6_rule_0 rfl (lv_at hl 0 rfl) ?_
  refine lv_iload_n hx hb dX6_rule_1 rfl (lv_at hl 1 rfl) ?_
  refine ki_if_eq (tgt := 14) hx hb dX6_rule_2 (by decide) (by omega) (by omega) (fun c_1 => ?_) (fun c_1 => ?_)
  · skip
    refine lv_iconst (v := iz 0) hx hb dX6_rule_14 (by decide) ?_
    refine lv_iconst (v := iz 0) hx hb dX6_rule_15 (by decide) ?_
    refine lv_iconst (v := iz 0) hx hb dX6_rule_16 (by decide) ?_
    refine mk_calli (As := [.int (iz 0), .int (iz 0), .int (iz 0)]) (rest := []) ⟨hx, hb, hml, hown, hts⟩ (k_refused0 l dC dI mo ma cs I F  s.heap.size ) (cwV 3 hts (kx_gV kq_04_msmall_8 kq_04_msmall_9 kq_04_msmall_10 kq_04_msmall_6 kq_04_msmall_11 rfl) rfl rfl rfl (by decide +kernel) ⟨Nat.le_of_ble_eq_true rfl, Nat.le_of_ble_eq_true rfl⟩) hP hD hK hG hZ hS hA rfl hl.1 rfl (Nat.le_of_ble_eq_true rfl) dX6_rule_17 ⟨Nat.le_of_ble_eq_true rfl, Nat.le_of_ble_eq_true rfl⟩ (fun z_2 I_4 F_5 H locs hq_3 hP hD hS => ?_)
    try dsimp only at hq_3
    obtain ⟨rfl, rfl, rfl⟩ := hq_3
    refine ki_if_eq (tgt := 25) hx hb dX6_rule_20 (by decide) (by omega) (by omega) (fun c_6 => ?_) (fun c_6 => ?_)
    · skip
      refine lv_iload_n hx hb dX6_rule_25 rfl (lv_at hl 1 rfl) ?_
      refine ki_if_ne (tgt := 36) hx hb dX6_rule_26 (by decide) (by omega) (by omega) (fun c_7 => ?_) (fun c_7 => ?_)
      · omega
      · skip
        refine lv_aload_n hx hb dX6_rule_29 rfl (lv_at hl 0 rfl) ?_
        refine va_get (D := (dC, dI)) (ci := 6) (v := .int (iz (I 14))) (C := RX6) (T := TX6) (N := 44) hx hb hts kt_X6 hown hK hP 0 rfl rfl 14 (by decide) (kx_word hG kq_04_msmall_17 rfl) (fun _ h9 => h9) rfl dX6_rule_30 ?_
        have hbd_8 := hB.1 14
        refine lv_goto (tgt := 40) hx hb dX6_rule_33 (by decide) ?_
        refine lv_istore_n (lv' := [(3, .int (iz (I 14))), (0, .ref mo), (1, .int (iz w)), (2, .int (iz on))]) hx hb dX6_rule_40 rfl hl (by decide) rfl (fun ls hl => ?_)
        refine lv_aload_n hx hb dX6_rule_41 rfl (lv_at hl 1 rfl) ?_
        refine lv_iload_n hx hb dX6_rule_42 rfl (lv_at hl 2 rfl) ?_
        refine ki_if_ne (tgt := 50) hx hb dX6_rule_43 (by decide) (by omega) (by omega) (fun c_9 => ?_) (fun c_9 => ?_)
        · omega
        · skip
          refine lv_iload_n hx hb dX6_rule_46 rfl (lv_at hl 3 rfl) ?_
          refine lv_goto (tgt := 54) hx hb dX6_rule_47 (by decide) ?_
          refine va_put (D := (dC, dI)) (ci := 6) (v := .int (iz on)) (ty := .boolean) (C := RX6) (T := TX6) (N := 44) hx hb hts kt_X6 tyX6 tyX6_ok nmX6 hown hK hP hD hS 0 rfl rfl 14 (by decide) (kx_word hG kq_04_msmall_17 rfl) (fun _ h9 => h9) rfl (by decide +kernel) (mz_bool (by omega)).1 (mz_bool (by omega)).2 (Nat.le_of_ble_eq_true rfl) dX6_rule_54 (fun H locs hP hD hS => ?_)
          have hP : va_P (dC, dI) kxCl (mW mo ma cs (va_up (va_up I 0 0) 14 on) F) H := hP
          have hD : va_D A (mW mo ma cs (va_up (va_up I 0 0) 14 on) F) := hD
          refine lv_aload_n hx hb dX6_rule_57 rfl (lv_at hl 1 rfl) ?_
          refine lv_iload_n hx hb dX6_rule_58 rfl (lv_at hl 2 rfl) ?_
          refine lv_iconst (v := iz 1) hx hb dX6_rule_59 (by decide) ?_
          refine ki_icmp_ne (tgt := 67) hx hb dX6_rule_60 (by decide) (by omega) (by omega) (by omega) (by omega) (fun c_10 => ?_) (fun c_10 => ?_)
          · skip
            refine lv_aload_n hx hb dX6_rule_67 rfl (lv_at hl 1 rfl) ?_
            refine va_get (D := (dC, dI)) (ci := 6) (v := .int (iz (I 15))) (C := RX6) (T := TX6) (N := 44) hx hb hts kt_X6 hown hK hP 0 rfl rfl 15 (by decide) (kx_word hG kq_04_msmall_18 rfl) (fun _ h9 => h9) rfl dX6_rule_68 ?_
            have hbd_11 := hB.1 15
            refine va_put (D := (dC, dI)) (ci := 6) (v := .int (iz (I 15))) (ty := .boolean) (C := RX6) (T := TX6) (N := 44) hx hb hts kt_X6 tyX6 tyX6_ok nmX6 hown hK hP hD hS 0 rfl rfl 15 (by decide) (kx_word hG kq_04_msmall_18 rfl) (fun _ h9 => h9) rfl (by decide +kernel) (mz_bool (by omega)).1 (mz_bool (by omega)).2 (Nat.le_of_ble_eq_true rfl) dX6_rule_71 (fun H locs hP hD hS => ?_)
            have hP : va_P (dC, dI) kxCl (mW mo ma cs (va_up (va_up (va_up I 0 0) 14 on) 15 (I 15)) F) H := hP
            have hD : va_D A (mW mo ma cs (va_up (va_up (va_up I 0 0) 14 on) 15 (I 15)) F) := hD
            refine lv_aload_n hx hb dX6_rule_74 rfl (lv_at hl 1 rfl) ?_
            refine lv_iconst (v := iz 0) hx hb dX6_rule_75 (by decide) ?_
            refine va_put (D := (dC, dI)) (ci := 6) (v := .int (iz 0)) (ty := .boolean) (C := RX6) (T := TX6) (N := 44) hx hb hts kt_X6 tyX6 tyX6_ok nmX6 hown hK hP hD hS 0 rfl rfl 16 (by decide) (kx_word hG kq_04_msmall_14 rfl) (fun _ h9 => h9) rfl (by decide +kernel) (mz_bool (Or.inl rfl)).1 (mz_bool (Or.inl rfl)).2 (Nat.le_of_ble_eq_true rfl) dX6_rule_76 (fun H locs hP hD hS => ?_)
            have hP : va_P (dC, dI) kxCl (mW mo ma cs (va_up (va_up (va_up (va_up I 0 0) 14 on) 15 (I 15)) 16 0) F) H := hP
            have hD : va_D A (mW mo ma cs (va_up (va_up (va_up (va_up I 0 0) 14 on) 15 (I 15)) 16 0) F) := hD
            refine lv_iload_n hx hb dX6_rule_79 rfl (lv_at hl 0 rfl) ?_
            refine ki_if_eq (tgt := 87) hx hb dX6_rule_80 (by decide) (by omega) (by omega) (fun c_12 => ?_) (fun c_12 => ?_)
            · skip
              refine lv_iconst (v := iz 0) hx hb dX6_rule_87 (by decide) ?_
              exact mk_ireti hx hb hr hlocks hP hD hK hS dX6_rule_88 (Or.inr (Or.inl ⟨rfl, by omega, by omega, rfl⟩))
            · skip
              refine lv_iconst (v := iz 1) hx hb dX6_rule_83 (by decide) ?_
              refine lv_goto (tgt := 88) hx hb dX6_rule_84 (by decide) ?_
              exact mk_ireti hx hb hr hlocks hP hD hK hS dX6_rule_88 (Or.inr (Or.inl ⟨rfl, by omega, by omega, rfl⟩))
          · omega
    · omega
  · skip
    refine lv_iload_n hx hb dX6_rule_5 rfl (lv_at hl 1 rfl) ?_
    refine lv_iconst (v := iz 1) hx hb dX6_rule_6 (by decide) ?_
    refine ki_icmp_eq (tgt := 14) hx hb dX6_rule_7 (by decide) (by omega) (by omega) (by omega) (by omega) (fun c_13 => ?_) (fun c_13 => ?_)
    · skip
      refine lv_iconst (v := iz 0) hx hb dX6_rule_14 (by decide) ?_
      refine lv_iconst (v := iz 0) hx hb dX6_rule_15 (by decide) ?_
      refine lv_iconst (v := iz 0) hx hb dX6_rule_16 (by decide) ?_
      refine mk_calli (As := [.int (iz 0), .int (iz 0), .int (iz 0)]) (rest := []) ⟨hx, hb, hml, hown, hts⟩ (k_refused0 l dC dI mo ma cs I F  s.heap.size ) (cwV 3 hts (kx_gV kq_04_msmall_8 kq_04_msmall_9 kq_04_msmall_10 kq_04_msmall_6 kq_04_msmall_11 rfl) rfl rfl rfl (by decide +kernel) ⟨Nat.le_of_ble_eq_true rfl, Nat.le_of_ble_eq_true rfl⟩) hP hD hK hG hZ hS hA rfl hl.1 rfl (Nat.le_of_ble_eq_true rfl) dX6_rule_17 ⟨Nat.le_of_ble_eq_true rfl, Nat.le_of_ble_eq_true rfl⟩ (fun z_14 I_16 F_17 H locs hq_15 hP hD hS => ?_)
      try dsimp only at hq_15
      obtain ⟨rfl, rfl, rfl⟩ := hq_15
      refine ki_if_eq (tgt := 25) hx hb dX6_rule_20 (by decide) (by omega) (by omega) (fun c_18 => ?_) (fun c_18 => ?_)
      · skip
        refine lv_iload_n hx hb dX6_rule_25 rfl (lv_at hl 1 rfl) ?_
        refine ki_if_ne (tgt := 36) hx hb dX6_rule_26 (by decide) (by omega) (by omega) (fun c_19 => ?_) (fun c_19 => ?_)
        · skip
          refine lv_aload_n hx hb dX6_rule_36 rfl (lv_at hl 0 rfl) ?_
          refine va_get (D := (dC, dI)) (ci := 6) (v := .int (iz (I 15))) (C := RX6) (T := TX6) (N := 44) hx hb hts kt_X6 hown hK hP 0 rfl rfl 15 (by decide) (kx_word hG kq_04_msmall_18 rfl) (fun _ h9 => h9) rfl dX6_rule_37 ?_
          have hbd_20 := hB.1 15
          refine lv_istore_n (lv' := [(3, .int (iz (I 15))), (0, .ref mo), (1, .int (iz w)), (2, .int (iz on))]) hx hb dX6_rule_40 rfl hl (by decide) rfl (fun ls hl => ?_)
          refine lv_aload_n hx hb dX6_rule_41 rfl (lv_at hl 1 rfl) ?_
          refine lv_iload_n hx hb dX6_rule_42 rfl (lv_at hl 2 rfl) ?_
          refine ki_if_ne (tgt := 50) hx hb dX6_rule_43 (by decide) (by omega) (by omega) (fun c_21 => ?_) (fun c_21 => ?_)
          · skip
            refine lv_aload_n hx hb dX6_rule_50 rfl (lv_at hl 1 rfl) ?_
            refine va_get (D := (dC, dI)) (ci := 6) (v := .int (iz (I 14))) (C := RX6) (T := TX6) (N := 44) hx hb hts kt_X6 hown hK hP 0 rfl rfl 14 (by decide) (kx_word hG kq_04_msmall_17 rfl) (fun _ h9 => h9) rfl dX6_rule_51 ?_
            have hbd_22 := hB.1 14
            refine va_put (D := (dC, dI)) (ci := 6) (v := .int (iz (I 14))) (ty := .boolean) (C := RX6) (T := TX6) (N := 44) hx hb hts kt_X6 tyX6 tyX6_ok nmX6 hown hK hP hD hS 0 rfl rfl 14 (by decide) (kx_word hG kq_04_msmall_17 rfl) (fun _ h9 => h9) rfl (by decide +kernel) (mz_bool (by omega)).1 (mz_bool (by omega)).2 (Nat.le_of_ble_eq_true rfl) dX6_rule_54 (fun H locs hP hD hS => ?_)
            have hP : va_P (dC, dI) kxCl (mW mo ma cs (va_up (va_up I 0 0) 14 (I 14)) F) H := hP
            have hD : va_D A (mW mo ma cs (va_up (va_up I 0 0) 14 (I 14)) F) := hD
            refine lv_aload_n hx hb dX6_rule_57 rfl (lv_at hl 1 rfl) ?_
            refine lv_iload_n hx hb dX6_rule_58 rfl (lv_at hl 2 rfl) ?_
            refine lv_iconst (v := iz 1) hx hb dX6_rule_59 (by decide) ?_
            refine ki_icmp_ne (tgt := 67) hx hb dX6_rule_60 (by decide) (by omega) (by omega) (by omega) (by omega) (fun c_23 => ?_) (fun c_23 => ?_)
            · omega
            · skip
              refine lv_iload_n hx hb dX6_rule_63 rfl (lv_at hl 3 rfl) ?_
              refine lv_goto (tgt := 71) hx hb dX6_rule_64 (by decide) ?_
              refine va_put (D := (dC, dI)) (ci := 6) (v := .int (iz on)) (ty := .boolean) (C := RX6) (T := TX6) (N := 44) hx hb hts kt_X6 tyX6 tyX6_ok nmX6 hown hK hP hD hS 0 rfl rfl 15 (by decide) (kx_word hG kq_04_msmall_18 rfl) (fun _ h9 => h9) rfl (by decide +kernel) (mz_bool (by omega)).1 (mz_bool (by omega)).2 (Nat.le_of_ble_eq_true rfl) dX6_rule_71 (fun H locs hP hD hS => ?_)
              have hP : va_P (dC, dI) kxCl (mW mo ma cs (va_up (va_up (va_up I 0 0) 14 (I 14)) 15 on) F) H := hP
              have hD : va_D A (mW mo ma cs (va_up (va_up (va_up I 0 0) 14 (I 14)) 15 on) F) := hD
              refine lv_aload_n hx hb dX6_rule_74 rfl (lv_at hl 1 rfl) ?_
              refine lv_iconst (v := iz 0) hx hb dX6_rule_75 (by decide) ?_
              refine va_put (D := (dC, dI)) (ci := 6) (v := .int (iz 0)) (ty := .boolean) (C := RX6) (T := TX6) (N := 44) hx hb hts kt_X6 tyX6 tyX6_ok nmX6 hown hK hP hD hS 0 rfl rfl 16 (by decide) (kx_word hG kq_04_msmall_14 rfl) (fun _ h9 => h9) rfl (by decide +kernel) (mz_bool (Or.inl rfl)).1 (mz_bool (Or.inl rfl)).2 (Nat.le_of_ble_eq_true rfl) dX6_rule_76 (fun H locs hP hD hS => ?_)
              have hP : va_P (dC, dI) kxCl (mW mo ma cs (va_up (va_up (va_up (va_up I 0 0) 14 (I 14)) 15 on) 16 0) F) H := hP
              have hD : va_D A (mW mo ma cs (va_up (va_up (va_up (va_up I 0 0) 14 (I 14)) 15 on) 16 0) F) := hD
              refine lv_iload_n hx hb dX6_rule_79 rfl (lv_at hl 0 rfl) ?_
              refine ki_if_eq (tgt := 87) hx hb dX6_rule_80 (by decide) (by omega) (by omega) (fun c_24 => ?_) (fun c_24 => ?_)
              · skip
                refine lv_iconst (v := iz 0) hx hb dX6_rule_87 (by decide) ?_
                exact mk_ireti hx hb hr hlocks hP hD hK hS dX6_rule_88 (Or.inr (Or.inr ⟨rfl, by omega, by omega, rfl⟩))
              · skip
                refine lv_iconst (v := iz 1) hx hb dX6_rule_83 (by decide) ?_
                refine lv_goto (tgt := 88) hx hb dX6_rule_84 (by decide) ?_
                exact mk_ireti hx hb hr hlocks hP hD hK hS dX6_rule_88 (Or.inr (Or.inr ⟨rfl, by omega, by omega, rfl⟩))
          · omega
        · omega
      · omega
    · skip
      refine lv_iconst (v := iz 1) hx hb dX6_rule_10 (by decide) ?_
      refine lv_goto (tgt := 15) hx hb dX6_rule_11 (by decide) ?_
      refine lv_iconst (v := iz 0) hx hb dX6_rule_15 (by decide) ?_
      refine lv_iconst (v := iz 0) hx hb dX6_rule_16 (by decide) ?_
      refine mk_calli (As := [.int (iz 1), .int (iz 0), .int (iz 0)]) (rest := []) ⟨hx, hb, hml, hown, hts⟩ (k_refused1 l dC dI mo ma cs I F 0 0 s.heap.size (by omega) (by omega) (by omega) (by omega)) (cwV 3 hts (kx_gV kq_04_msmall_8 kq_04_msmall_9 kq_04_msmall_10 kq_04_msmall_6 kq_04_msmall_11 rfl) rfl rfl rfl (by decide +kernel) ⟨Nat.le_of_ble_eq_true rfl, Nat.le_of_ble_eq_true rfl⟩) hP hD hK hG hZ hS hA rfl hl.1 rfl (Nat.le_of_ble_eq_true rfl) dX6_rule_17 ⟨Nat.le_of_ble_eq_true rfl, Nat.le_of_ble_eq_true rfl⟩ (fun z_25 I_27 F_28 H locs hq_26 hP hD hS => ?_)
      try dsimp only at hq_26
      obtain ⟨rfl, rfl, rfl⟩ := hq_26
      refine ki_if_eq (tgt := 25) hx hb dX6_rule_20 (by decide) (by omega) (by omega) (fun c_29 => ?_) (fun c_29 => ?_)
      · omega
      · skip
        refine lv_iconst (v := iz 0) hx hb dX6_rule_23 (by decide) ?_
        exact mk_ireti hx hb hr hlocks hP hD hK hS dX6_rule_24 (Or.inl ⟨by omega, rfl, rfl, by omega, by omega⟩)
set_option maxHeartbeats 4000000 in
set_option maxRecDepth 100000 in
/-- style -/
theorem k_style (l : Launch) (dC : Nat → ClassId) (dI : Nat → Nat → Nat) (mo : Nat) (ma : Nat → Nat) (cs : Nat → ClassId) (I : Nat → Int) (F : Nat → Int → Int) (p0 : Int) (sz : Nat) (hB : mB I F) (hs : 0 ≤ I 37 ∧ I 37 ≤ 64) (hp01 : -2147483648 ≤ p0) (hp02 : p0 < 2147483648) : mMi l yX6_style (.code yX6_style cX6_style 2 (some .int)) 1 23 dC dI mo ma cs I F [.ref mo, .int (iz p0)] sz (fun (r : Int) (I' : Nat → Int) (F' : Nat → Int → Int) => (r = 0 ∧ F' = F ∧ I' = va_up I 0 1 ∧ (p0 < 0 ∨ 127 < p0)) ∨ (r = 0 ∧ F' = F ∧ I' = va_up (va_up I 0 0) 37 0 ∧ p0 = 0) ∨ (F' = va_up F 36 (upI (F 36) (I 37) p0) ∧ I' = va_up (va_up I 0 0) 37 (I 37 + 1) ∧ r = I 37 + 1 ∧ 0 < p0 ∧ p0 ≤ 127)) := by
  refine Met.ofW (cc := cX6_style) (maxL := 2) (ret := (some .int)) (by decide) rfl ?_
  intro p e s m args below meth c s₁ B hml hv
  obtain ⟨rfl, hsz, hP, hK, hD0, hG, hZ⟩ := hv
  have hx := B.exec
  have hb := B.bytes
  have hr := B.returns
  have hts := kx_hts (a := ([.ref mo, .int (iz p0)] : List Value).toArray) hG
  have hown : s.vm.findClass RX6 = some m.cls := findClass_of_methodNamed B.named
  have hlocks := B.notSynchronized
  subst hsz
  have hD := hD0.self (sz := s.heap.size)
  generalize hAe : va_A (mW mo ma cs I F) s.heap.size = A at hD hZ ⊢
  have hA : ∀ q : Nat, s.heap.size ≤ q → A q := fun q h => by rw [← hAe]; exact Or.inr h
  have hS : va_S A s.heap s.heap [] := va_S.rf
  have hl := lv_entry ([.ref mo, .int (iz p0)]) (n := 2) (Nat.le_of_ble_eq_true rfl)
  rw [lg_entry_eq]
  generalize (lg_sl ([.ref mo, .int (iz p0)]) ++ List.replicate (2 - (lg_sl ([.ref mo, .int (iz p0)])).length) Slot.unset).toArray = ls at hl ⊢
  have hl : lv_has ls 2 [(0, .ref mo), (1, .int (iz p0))] := hl
  refine lv_aload_n hx hb dX6_style_0 rfl (lv_at hl 0 rfl) ?_
  refine lv_iload_n hx hb dX6_style_1 rfl (lv_at hl 1 rfl) ?_
  refine ki_if_lt (tgt := 11) hx hb dX6_style_2 (by decide) (by omega) (by omega) (fun c_1 => ?_) (fun c_1 => ?_)
  · skip
    refine lv_iconst (v := iz 1) hx hb dX6_style_11 (by decide) ?_
    refine lv_goto (tgt := 16) hx hb dX6_style_12 (by decide) ?_
    refine lv_iload_n hx hb dX6_style_16 rfl (lv_at hl 1 rfl) ?_
    refine ki_if_le (tgt := 33) hx hb dX6_style_17 (by decide) (by omega) (by omega) (fun c_2 => ?_) (fun c_2 => ?_)
    · skip
      refine lv_iconst (v := iz 0) hx hb dX6_style_33 (by decide) ?_
      refine lv_iconst (v := iz 0) hx hb dX6_style_34 (by decide) ?_
      refine mk_calli (As := [.int (iz 1), .int (iz 0), .int (iz 0)]) (rest := []) ⟨hx, hb, hml, hown, hts⟩ (k_refused1 l dC dI mo ma cs I F 0 0 s.heap.size (by omega) (by omega) (by omega) (by omega)) (cwV 3 hts (kx_gV kq_04_msmall_8 kq_04_msmall_9 kq_04_msmall_10 kq_04_msmall_6 kq_04_msmall_11 rfl) rfl rfl rfl (by decide +kernel) ⟨Nat.le_of_ble_eq_true rfl, Nat.le_of_ble_eq_true rfl⟩) hP hD hK hG hZ hS hA rfl hl.1 rfl (Nat.le_of_ble_eq_true rfl) dX6_style_35 ⟨Nat.le_of_ble_eq_true rfl, Nat.le_of_ble_eq_true rfl⟩ (fun z_3 I_5 F_6 H locs hq_4 hP hD hS => ?_)
      try dsimp only at hq_4
      obtain ⟨rfl, rfl, rfl⟩ := hq_4
      refine ki_if_eq (tgt := 43) hx hb dX6_style_38 (by decide) (by omega) (by omega) (fun c_7 => ?_) (fun c_7 => ?_)
      · omega
      · skip
        refine lv_iconst (v := iz 0) hx hb dX6_style_41 (by decide) ?_
        exact mk_ireti hx hb hr hlocks hP hD hK hS dX6_style_42 (Or.inl ⟨by omega, rfl, rfl, by omega⟩)
    · skip
      refine lv_aload_n hx hb dX6_style_20 rfl (lv_at hl 0 rfl) ?_
      refine va_get (D := (dC, dI)) (ci := 6) (v := .int (iz (I 37))) (C := RX6) (T := TX6) (N := 44) hx hb hts kt_X6 hown hK hP 0 rfl rfl 37 (by decide) (kx_word hG kq_04_msmall_19 rfl) (fun _ h9 => h9) rfl dX6_style_21 ?_
      have hbd_8 := hB.1 37
      refine lv_bipush (v := iz 80) hx hb dX6_style_24 (by decide) ?_
      refine ki_icmp_ne (tgt := 33) hx hb dX6_style_26 (by decide) (by omega) (by omega) (by omega) (by omega) (fun c_9 => ?_) (fun c_9 => ?_)
      · skip
        refine lv_iconst (v := iz 0) hx hb dX6_style_33 (by decide) ?_
        refine lv_iconst (v := iz 0) hx hb dX6_style_34 (by decide) ?_
        refine mk_calli (As := [.int (iz 1), .int (iz 0), .int (iz 0)]) (rest := []) ⟨hx, hb, hml, hown, hts⟩ (k_refused1 l dC dI mo ma cs I F 0 0 s.heap.size (by omega) (by omega) (by omega) (by omega)) (cwV 3 hts (kx_gV kq_04_msmall_8 kq_04_msmall_9 kq_04_msmall_10 kq_04_msmall_6 kq_04_msmall_11 rfl) rfl rfl rfl (by decide +kernel) ⟨Nat.le_of_ble_eq_true rfl, Nat.le_of_ble_eq_true rfl⟩) hP hD hK hG hZ hS hA rfl hl.1 rfl (Nat.le_of_ble_eq_true rfl) dX6_style_35 ⟨Nat.le_of_ble_eq_true rfl, Nat.le_of_ble_eq_true rfl⟩ (fun z_10 I_12 F_13 H locs hq_11 hP hD hS => ?_)
        try dsimp only at hq_11
        obtain ⟨rfl, rfl, rfl⟩ := hq_11
        refine ki_if_eq (tgt := 43) hx hb dX6_style_38 (by decide) (by omega) (by omega) (fun c_14 => ?_) (fun c_14 => ?_)
        · omega
        · skip
          refine lv_iconst (v := iz 0) hx hb dX6_style_41 (by decide) ?_
          exact mk_ireti hx hb hr hlocks hP hD hK hS dX6_style_42 (Or.inl ⟨by omega, rfl, rfl, by omega⟩)
      · omega
  · skip
    refine lv_iload_n hx hb dX6_style_5 rfl (lv_at hl 1 rfl) ?_
    refine lv_bipush (v := iz 127) hx hb dX6_style_6 (by decide) ?_
    refine ki_icmp_le (tgt := 15) hx hb dX6_style_8 (by decide) (by omega) (by omega) (by omega) (by omega) (fun c_15 => ?_) (fun c_15 => ?_)
    · skip
      refine lv_iconst (v := iz 0) hx hb dX6_style_15 (by decide) ?_
      refine lv_iload_n hx hb dX6_style_16 rfl (lv_at hl 1 rfl) ?_
      refine ki_if_le (tgt := 33) hx hb dX6_style_17 (by decide) (by omega) (by omega) (fun c_16 => ?_) (fun c_16 => ?_)
      · skip
        refine lv_iconst (v := iz 0) hx hb dX6_style_33 (by decide) ?_
        refine lv_iconst (v := iz 0) hx hb dX6_style_34 (by decide) ?_
        refine mk_calli (As := [.int (iz 0), .int (iz 0), .int (iz 0)]) (rest := []) ⟨hx, hb, hml, hown, hts⟩ (k_refused0 l dC dI mo ma cs I F  s.heap.size ) (cwV 3 hts (kx_gV kq_04_msmall_8 kq_04_msmall_9 kq_04_msmall_10 kq_04_msmall_6 kq_04_msmall_11 rfl) rfl rfl rfl (by decide +kernel) ⟨Nat.le_of_ble_eq_true rfl, Nat.le_of_ble_eq_true rfl⟩) hP hD hK hG hZ hS hA rfl hl.1 rfl (Nat.le_of_ble_eq_true rfl) dX6_style_35 ⟨Nat.le_of_ble_eq_true rfl, Nat.le_of_ble_eq_true rfl⟩ (fun z_17 I_19 F_20 H locs hq_18 hP hD hS => ?_)
        try dsimp only at hq_18
        obtain ⟨rfl, rfl, rfl⟩ := hq_18
        refine ki_if_eq (tgt := 43) hx hb dX6_style_38 (by decide) (by omega) (by omega) (fun c_21 => ?_) (fun c_21 => ?_)
        · skip
          refine lv_iload_n hx hb dX6_style_43 rfl (lv_at hl 1 rfl) ?_
          refine ki_if_le (tgt := 57) hx hb dX6_style_44 (by decide) (by omega) (by omega) (fun c_22 => ?_) (fun c_22 => ?_)
          · skip
            refine lv_aload_n hx hb dX6_style_57 rfl (lv_at hl 0 rfl) ?_
            refine lv_iload_n hx hb dX6_style_58 rfl (lv_at hl 1 rfl) ?_
            refine ki_if_le (tgt := 71) hx hb dX6_style_59 (by decide) (by omega) (by omega) (fun c_23 => ?_) (fun c_23 => ?_)
            · skip
              refine lv_iconst (v := iz 0) hx hb dX6_style_71 (by decide) ?_
              refine va_put (D := (dC, dI)) (ci := 6) (v := .int (iz 0)) (ty := .int) (C := RX6) (T := TX6) (N := 44) hx hb hts kt_X6 tyX6 tyX6_ok nmX6 hown hK hP hD hS 0 rfl rfl 37 (by decide) (kx_word hG kq_04_msmall_19 rfl) (fun _ h9 => h9) rfl (by decide +kernel) rfl rfl (Nat.le_of_ble_eq_true rfl) dX6_style_72 (fun H locs hP hD hS => ?_)
              have hP : va_P (dC, dI) kxCl (mW mo ma cs (va_up (va_up I 0 0) 37 0) F) H := hP
              have hD : va_D A (mW mo ma cs (va_up (va_up I 0 0) 37 0) F) := hD
              refine lv_aload_n hx hb dX6_style_75 rfl (lv_at hl 0 rfl) ?_
              refine va_get (D := (dC, dI)) (ci := 6) (v := .int (iz 0)) (C := RX6) (T := TX6) (N := 44) hx hb hts kt_X6 hown hK hP 0 rfl rfl 37 (by decide) (kx_word hG kq_04_msmall_19 rfl) (fun _ h9 => h9) rfl dX6_style_76 ?_
              exact mk_ireti hx hb hr hlocks hP hD hK hS dX6_style_79 (Or.inr (Or.inl ⟨rfl, rfl, rfl, by omega⟩))
            · omega
          · omega
        · omega
      · skip
        refine lv_aload_n hx hb dX6_style_20 rfl (lv_at hl 0 rfl) ?_
        refine va_get (D := (dC, dI)) (ci := 6) (v := .int (iz (I 37))) (C := RX6) (T := TX6) (N := 44) hx hb hts kt_X6 hown hK hP 0 rfl rfl 37 (by decide) (kx_word hG kq_04_msmall_19 rfl) (fun _ h9 => h9) rfl dX6_style_21 ?_
        have hbd_24 := hB.1 37
        refine lv_bipush (v := iz 80) hx hb dX6_style_24 (by decide) ?_
        refine ki_icmp_ne (tgt := 33) hx hb dX6_style_26 (by decide) (by omega) (by omega) (by omega) (by omega) (fun c_25 => ?_) (fun c_25 => ?_)
        · skip
          refine lv_iconst (v := iz 0) hx hb dX6_style_33 (by decide) ?_
          refine lv_iconst (v := iz 0) hx hb dX6_style_34 (by decide) ?_
          refine mk_calli (As := [.int (iz 0), .int (iz 0), .int (iz 0)]) (rest := []) ⟨hx, hb, hml, hown, hts⟩ (k_refused0 l dC dI mo ma cs I F  s.heap.size ) (cwV 3 hts (kx_gV kq_04_msmall_8 kq_04_msmall_9 kq_04_msmall_10 kq_04_msmall_6 kq_04_msmall_11 rfl) rfl rfl rfl (by decide +kernel) ⟨Nat.le_of_ble_eq_true rfl, Nat.le_of_ble_eq_true rfl⟩) hP hD hK hG hZ hS hA rfl hl.1 rfl (Nat.le_of_ble_eq_true rfl) dX6_style_35 ⟨Nat.le_of_ble_eq_true rfl, Nat.le_of_ble_eq_true rfl⟩ (fun z_26 I_28 F_29 H locs hq_27 hP hD hS => ?_)
          try dsimp only at hq_27
          obtain ⟨rfl, rfl, rfl⟩ := hq_27
          refine ki_if_eq (tgt := 43) hx hb dX6_style_38 (by decide) (by omega) (by omega) (fun c_30 => ?_) (fun c_30 => ?_)
          · skip
            refine lv_iload_n hx hb dX6_style_43 rfl (lv_at hl 1 rfl) ?_
            refine ki_if_le (tgt := 57) hx hb dX6_style_44 (by decide) (by omega) (by omega) (fun c_31 => ?_) (fun c_31 => ?_)
            · omega
            · skip
              refine lv_aload_n hx hb dX6_style_47 rfl (lv_at hl 0 rfl) ?_
              refine va_get (D := (dC, dI)) (ci := 6) (v := .ref (ma 36)) (C := RX6) (T := TX6) (N := 44) hx hb hts kt_X6 hown hK hP 0 rfl rfl 36 (by decide) (kx_word hG kq_04_msmall_20 rfl) (fun _ h9 => h9) rfl dX6_style_48 ?_
              refine lv_aload_n hx hb dX6_style_51 rfl (lv_at hl 0 rfl) ?_
              refine va_get (D := (dC, dI)) (ci := 6) (v := .int (iz (I 37))) (C := RX6) (T := TX6) (N := 44) hx hb hts kt_X6 hown hK hP 0 rfl rfl 37 (by decide) (kx_word hG kq_04_msmall_19 rfl) (fun _ h9 => h9) rfl dX6_style_52 ?_
              refine lv_iload_n hx hb dX6_style_55 rfl (lv_at hl 1 rfl) ?_
              refine ki_iast (F := F 36) hx hb hK hP hD hS 25 24 rfl rfl (by omega) (by omega) (by decide) dX6_style_56 (fun H locs hP hD hS => ?_)
              have hP : va_P (dC, dI) kxCl (mW mo ma cs (va_up I 0 0) (va_up F 36 (upI (F 36) (I 37) p0))) H := hP
              have hD : va_D A (mW mo ma cs (va_up I 0 0) (va_up F 36 (upI (F 36) (I 37) p0))) := hD
              refine lv_aload_n hx hb dX6_style_57 rfl (lv_at hl 0 rfl) ?_
              refine lv_iload_n hx hb dX6_style_58 rfl (lv_at hl 1 rfl) ?_
              refine ki_if_le (tgt := 71) hx hb dX6_style_59 (by decide) (by omega) (by omega) (fun c_32 => ?_) (fun c_32 => ?_)
              · omega
              · skip
                refine lv_aload_n hx hb dX6_style_62 rfl (lv_at hl 0 rfl) ?_
                refine va_get (D := (dC, dI)) (ci := 6) (v := .int (iz (I 37))) (C := RX6) (T := TX6) (N := 44) hx hb hts kt_X6 hown hK hP 0 rfl rfl 37 (by decide) (kx_word hG kq_04_msmall_19 rfl) (fun _ h9 => h9) rfl dX6_style_63 ?_
                refine lv_iconst (v := iz 1) hx hb dX6_style_66 (by decide) ?_
                refine ki_iadd hx hb dX6_style_67 ?_
                refine lv_goto (tgt := 72) hx hb dX6_style_68 (by decide) ?_
                refine va_put (D := (dC, dI)) (ci := 6) (v := .int (iz ((I 37) + 1))) (ty := .int) (C := RX6) (T := TX6) (N := 44) hx hb hts kt_X6 tyX6 tyX6_ok nmX6 hown hK hP hD hS 0 rfl rfl 37 (by decide) (kx_word hG kq_04_msmall_19 rfl) (fun _ h9 => h9) rfl (by decide +kernel) rfl rfl (Nat.le_of_ble_eq_true rfl) dX6_style_72 (fun H locs hP hD hS => ?_)
                have hP : va_P (dC, dI) kxCl (mW mo ma cs (va_up (va_up I 0 0) 37 ((I 37) + 1)) (va_up F 36 (upI (F 36) (I 37) p0))) H := hP
                have hD : va_D A (mW mo ma cs (va_up (va_up I 0 0) 37 ((I 37) + 1)) (va_up F 36 (upI (F 36) (I 37) p0))) := hD
                refine lv_aload_n hx hb dX6_style_75 rfl (lv_at hl 0 rfl) ?_
                refine va_get (D := (dC, dI)) (ci := 6) (v := .int (iz ((I 37) + 1))) (C := RX6) (T := TX6) (N := 44) hx hb hts kt_X6 hown hK hP 0 rfl rfl 37 (by decide) (kx_word hG kq_04_msmall_19 rfl) (fun _ h9 => h9) rfl dX6_style_76 ?_
                exact mk_ireti hx hb hr hlocks hP hD hK hS dX6_style_79 (Or.inr (Or.inr ⟨rfl, rfl, rfl, by omega, by omega⟩))
          · omega
        · omega
    · skip
      refine lv_iconst (v := iz 1) hx hb dX6_style_11 (by decide) ?_
      refine lv_goto (tgt := 16) hx hb dX6_style_12 (by decide) ?_
      refine lv_iload_n hx hb dX6_style_16 rfl (lv_at hl 1 rfl) ?_
      refine ki_if_le (tgt := 33) hx hb dX6_style_17 (by decide) (by omega) (by omega) (fun c_33 => ?_) (fun c_33 => ?_)
      · skip
        refine lv_iconst (v := iz 0) hx hb dX6_style_33 (by decide) ?_
        refine lv_iconst (v := iz 0) hx hb dX6_style_34 (by decide) ?_
        refine mk_calli (As := [.int (iz 1), .int (iz 0), .int (iz 0)]) (rest := []) ⟨hx, hb, hml, hown, hts⟩ (k_refused1 l dC dI mo ma cs I F 0 0 s.heap.size (by omega) (by omega) (by omega) (by omega)) (cwV 3 hts (kx_gV kq_04_msmall_8 kq_04_msmall_9 kq_04_msmall_10 kq_04_msmall_6 kq_04_msmall_11 rfl) rfl rfl rfl (by decide +kernel) ⟨Nat.le_of_ble_eq_true rfl, Nat.le_of_ble_eq_true rfl⟩) hP hD hK hG hZ hS hA rfl hl.1 rfl (Nat.le_of_ble_eq_true rfl) dX6_style_35 ⟨Nat.le_of_ble_eq_true rfl, Nat.le_of_ble_eq_true rfl⟩ (fun z_34 I_36 F_37 H locs hq_35 hP hD hS => ?_)
        try dsimp only at hq_35
        obtain ⟨rfl, rfl, rfl⟩ := hq_35
        refine ki_if_eq (tgt := 43) hx hb dX6_style_38 (by decide) (by omega) (by omega) (fun c_38 => ?_) (fun c_38 => ?_)
        · omega
        · skip
          refine lv_iconst (v := iz 0) hx hb dX6_style_41 (by decide) ?_
          exact mk_ireti hx hb hr hlocks hP hD hK hS dX6_style_42 (Or.inl ⟨by omega, rfl, rfl, by omega⟩)
      · skip
        refine lv_aload_n hx hb dX6_style_20 rfl (lv_at hl 0 rfl) ?_
        refine va_get (D := (dC, dI)) (ci := 6) (v := .int (iz (I 37))) (C := RX6) (T := TX6) (N := 44) hx hb hts kt_X6 hown hK hP 0 rfl rfl 37 (by decide) (kx_word hG kq_04_msmall_19 rfl) (fun _ h9 => h9) rfl dX6_style_21 ?_
        have hbd_39 := hB.1 37
        refine lv_bipush (v := iz 80) hx hb dX6_style_24 (by decide) ?_
        refine ki_icmp_ne (tgt := 33) hx hb dX6_style_26 (by decide) (by omega) (by omega) (by omega) (by omega) (fun c_40 => ?_) (fun c_40 => ?_)
        · skip
          refine lv_iconst (v := iz 0) hx hb dX6_style_33 (by decide) ?_
          refine lv_iconst (v := iz 0) hx hb dX6_style_34 (by decide) ?_
          refine mk_calli (As := [.int (iz 1), .int (iz 0), .int (iz 0)]) (rest := []) ⟨hx, hb, hml, hown, hts⟩ (k_refused1 l dC dI mo ma cs I F 0 0 s.heap.size (by omega) (by omega) (by omega) (by omega)) (cwV 3 hts (kx_gV kq_04_msmall_8 kq_04_msmall_9 kq_04_msmall_10 kq_04_msmall_6 kq_04_msmall_11 rfl) rfl rfl rfl (by decide +kernel) ⟨Nat.le_of_ble_eq_true rfl, Nat.le_of_ble_eq_true rfl⟩) hP hD hK hG hZ hS hA rfl hl.1 rfl (Nat.le_of_ble_eq_true rfl) dX6_style_35 ⟨Nat.le_of_ble_eq_true rfl, Nat.le_of_ble_eq_true rfl⟩ (fun z_41 I_43 F_44 H locs hq_42 hP hD hS => ?_)
          try dsimp only at hq_42
          obtain ⟨rfl, rfl, rfl⟩ := hq_42
          refine ki_if_eq (tgt := 43) hx hb dX6_style_38 (by decide) (by omega) (by omega) (fun c_45 => ?_) (fun c_45 => ?_)
          · omega
          · skip
            refine lv_iconst (v := iz 0) hx hb dX6_style_41 (by decide) ?_
            exact mk_ireti hx hb hr hlocks hP hD hK hS dX6_style_42 (Or.inl ⟨by omega, rfl, rfl, by omega⟩)
        · omega
set_option maxHeartbeats 4000000 in
set_option maxRecDepth 100000 in
theorem k_toldOf (l : Launch) (dC : Nat → ClassId) (dI : Nat → Nat → Nat) (mo : Nat) (ma : Nat → Nat) (cs : Nat → ClassId) (I : Nat → Int) (F : Nat → Int → Int) (p0 : Int) (sz : Nat) (hB : mB I F) (h0 : 0 ≤ p0 ∧ p0 < 80) : mMi l yX6_toldOf (.code yX6_toldOf cX6_toldOf 2 (some .int)) 0 0 dC dI mo ma cs I F [.ref mo, .int (iz p0)] sz (fun (r : Int) (I' : Nat → Int) (F' : Nat → Int → Int) => I = I' ∧ F = F' ∧ (r = F 10 p0 + (if 0 < F 11 p0 then 1 else 0))) := by
  refine Met.ofW (cc := cX6_toldOf) (maxL := 2) (ret := (some .int)) (by decide) rfl ?_
  intro p e s m args below meth c s₁ B hml hv
  obtain ⟨rfl, hsz, hP, hK, hD0, hG, hZ⟩ := hv
  have hx := B.exec
  have hb := B.bytes
  have hr := B.returns
  have hts := kx_hts (a := ([.ref mo, .int (iz p0)] : List Value).toArray) hG
  have hown : s.vm.findClass RX6 = some m.cls := findClass_of_methodNamed B.named
  have hlocks := B.notSynchronized
  subst hsz
  have hD := hD0.self (sz := s.heap.size)
  generalize hAe : va_A (mW mo ma cs I F) s.heap.size = A at hD hZ ⊢
  have hA : ∀ q : Nat, s.heap.size ≤ q → A q := fun q h => by rw [← hAe]; exact Or.inr h
  have hS : va_S A s.heap s.heap [] := va_S.rf
  have hl := lv_entry ([.ref mo, .int (iz p0)]) (n := 2) (Nat.le_of_ble_eq_true rfl)
  rw [lg_entry_eq]
  generalize (lg_sl ([.ref mo, .int (iz p0)]) ++ List.replicate (2 - (lg_sl ([.ref mo, .int (iz p0)])).length) Slot.unset).toArray = ls at hl ⊢
  have hl : lv_has ls 2 [(0, .ref mo), (1, .int (iz p0))] := hl
  refine lv_aload_n hx hb dX6_toldOf_0 rfl (lv_at hl 0 rfl) ?_
  refine va_get (D := (dC, dI)) (ci := 6) (v := .ref (ma 11)) (C := RX6) (T := TX6) (N := 44) hx hb hts kt_X6 hown hK hP 0 rfl rfl 11 (by decide) (kx_word hG kq_04_msmall_21 rfl) (fun _ h9 => h9) rfl dX6_toldOf_1 ?_
  refine lv_iload_n hx hb dX6_toldOf_4 rfl (lv_at hl 1 rfl) ?_
  refine ki_iald (F := F 11) hx hb hK hP 10 9 rfl rfl (by omega) (by omega) (by decide) dX6_toldOf_5 ?_
  have hbd_1 := hB.2 11 p0
  refine ki_if_le (tgt := 20) hx hb dX6_toldOf_6 (by decide) (by omega) (by omega) (fun c_2 => ?_) (fun c_2 => ?_)
  · skip
    refine lv_aload_n hx hb dX6_toldOf_20 rfl (lv_at hl 0 rfl) ?_
    refine va_get (D := (dC, dI)) (ci := 6) (v := .ref (ma 10)) (C := RX6) (T := TX6) (N := 44) hx hb hts kt_X6 hown hK hP 0 rfl rfl 10 (by decide) (kx_word hG kq_04_msmall_22 rfl) (fun _ h9 => h9) rfl dX6_toldOf_21 ?_
    refine lv_iload_n hx hb dX6_toldOf_24 rfl (lv_at hl 1 rfl) ?_
    refine ki_iald (F := F 10) hx hb hK hP 9 8 rfl rfl (by omega) (by omega) (by decide) dX6_toldOf_25 ?_
    have hbd_3 := hB.2 10 p0
    exact mk_ireti hx hb hr hlocks hP hD hK hS dX6_toldOf_26 (⟨rfl, rfl, by split <;> omega⟩)
  · skip
    refine lv_aload_n hx hb dX6_toldOf_9 rfl (lv_at hl 0 rfl) ?_
    refine va_get (D := (dC, dI)) (ci := 6) (v := .ref (ma 10)) (C := RX6) (T := TX6) (N := 44) hx hb hts kt_X6 hown hK hP 0 rfl rfl 10 (by decide) (kx_word hG kq_04_msmall_22 rfl) (fun _ h9 => h9) rfl dX6_toldOf_10 ?_
    refine lv_iload_n hx hb dX6_toldOf_13 rfl (lv_at hl 1 rfl) ?_
    refine ki_iald (F := F 10) hx hb hK hP 9 8 rfl rfl (by omega) (by omega) (by decide) dX6_toldOf_14 ?_
    have hbd_4 := hB.2 10 p0
    refine lv_iconst (v := iz 1) hx hb dX6_toldOf_15 (by decide) ?_
    refine ki_iadd hx hb dX6_toldOf_16 ?_
    refine lv_goto (tgt := 26) hx hb dX6_toldOf_17 (by decide) ?_
    exact mk_ireti hx hb hr hlocks hP hD hK hS dX6_toldOf_26 (⟨rfl, rfl, by split <;> omega⟩)
set_option maxHeartbeats 4000000 in
set_option maxRecDepth 100000 in
theorem k_keep (l : Launch) (dC : Nat → ClassId) (dI : Nat → Nat → Nat) (mo : Nat) (ma : Nat → Nat) (cs : Nat → ClassId) (I : Nat → Int) (F : Nat → Int → Int) (p0 : Int) (kd : Int) (fr : Int) (to : Int) (rg : Int) (sz : Nat) (hB : mB I F) (h0 : 0 ≤ p0 ∧ p0 < 80) (hpg : 0 ≤ F 10 p0 ∧ F 10 p0 ≤ 19) : mMv l yX6_keep (.code yX6_keep cX6_keep 7 none) 0 0 dC dI mo ma cs I F [.ref mo, .int (iz p0), .int (iz kd), .int (iz fr), .int (iz to), .int (iz rg)] sz (fun (I' : Nat → Int) (F' : Nat → Int → Int) => I = I' ∧ (va_up (va_up (va_up (va_up (va_up F 6 (upI (F 6) (20 * p0 + F 10 p0) kd)) 7 (upI (F 7) (20 * p0 + F 10 p0) fr)) 8 (upI (F 8) (20 * p0 + F 10 p0) to)) 9 (upI (F 9) (20 * p0 + F 10 p0) (vp_nar .boolean (iz rg)).toInt)) 10 (upI (F 10) p0 (F 10 p0 + 1))) = F') := by
  refine Met.ofW (cc := cX6_keep) (maxL := 7) (ret := none) (by decide) rfl ?_
  intro p e s m args below meth c s₁ B hml hv
  obtain ⟨rfl, hsz, hP, hK, hD0, hG, hZ⟩ := hv
  have hx := B.exec
  have hb := B.bytes
  have hr := B.returns
  have hts := kx_hts (a := ([.ref mo, .int (iz p0), .int (iz kd), .int (iz fr), .int (iz to), .int (iz rg)] : List Value).toArray) hG
  have hown : s.vm.findClass RX6 = some m.cls := findClass_of_methodNamed B.named
  have hlocks := B.notSynchronized
  subst hsz
  have hD := hD0.self (sz := s.heap.size)
  generalize hAe : va_A (mW mo ma cs I F) s.heap.size = A at hD hZ ⊢
  have hA : ∀ q : Nat, s.heap.size ≤ q → A q := fun q h => by rw [← hAe]; exact Or.inr h
  have hS : va_S A s.heap s.heap [] := va_S.rf
  have hl := lv_entry ([.ref mo, .int (iz p0), .int (iz kd), .int (iz fr), .int (iz to), .int (iz rg)]) (n := 7) (Nat.le_of_ble_eq_true rfl)
  rw [lg_entry_eq]
  generalize (lg_sl ([.ref mo, .int (iz p0), .int (iz kd), .int (iz fr), .int (iz to), .int (iz rg)]) ++ List.replicate (7 - (lg_sl ([.ref mo, .int (iz p0), .int (iz kd), .int (iz fr), .int (iz to), .int (iz rg)])).length) Slot.unset).toArray = ls at hl ⊢
  have hl : lv_has ls 7 [(0, .ref mo), (1, .int (iz p0)), (2, .int (iz kd)), (3, .int (iz fr)), (4, .int (iz to)), (5, .int (iz rg))] := hl
  refine lv_bipush (v := iz 20) hx hb dX6_keep_0 (by decide) ?_
  refine lv_iload_n hx hb dX6_keep_2 rfl (lv_at hl 1 rfl) ?_
  refine ki_imul hx hb dX6_keep_3 ?_
  refine lv_aload_n hx hb dX6_keep_4 rfl (lv_at hl 0 rfl) ?_
  refine va_get (D := (dC, dI)) (ci := 6) (v := .ref (ma 10)) (C := RX6) (T := TX6) (N := 44) hx hb hts kt_X6 hown hK hP 0 rfl rfl 10 (by decide) (kx_word hG kq_04_msmall_22 rfl) (fun _ h9 => h9) rfl dX6_keep_5 ?_
  refine lv_iload_n hx hb dX6_keep_8 rfl (lv_at hl 1 rfl) ?_
  refine ki_iald (F := F 10) hx hb hK hP 9 8 rfl rfl (by omega) (by omega) (by decide) dX6_keep_9 ?_
  have hbd_1 := hB.2 10 p0
  refine ki_iadd hx hb dX6_keep_10 ?_
  refine lv_istore (lv' := [(6, .int (iz ((20 * p0) + (F 10 p0)))), (0, .ref mo), (1, .int (iz p0)), (2, .int (iz kd)), (3, .int (iz fr)), (4, .int (iz to)), (5, .int (iz rg))]) hx hb dX6_keep_11 hl (by decide) rfl (fun ls hl => ?_)
  refine lv_aload_n hx hb dX6_keep_13 rfl (lv_at hl 1 rfl) ?_
  refine va_get (D := (dC, dI)) (ci := 6) (v := .ref (ma 6)) (C := RX6) (T := TX6) (N := 44) hx hb hts kt_X6 hown hK hP 0 rfl rfl 6 (by decide) (kx_word hG kq_04_msmall_23 rfl) (fun _ h9 => h9) rfl dX6_keep_14 ?_
  refine lv_iload hx hb dX6_keep_17 (lv_at hl 0 rfl) ?_
  refine lv_iload_n hx hb dX6_keep_19 rfl (lv_at hl 3 rfl) ?_
  refine ki_iast (F := F 6) hx hb hK hP hD hS 5 4 rfl rfl (by omega) (by omega) (by decide) dX6_keep_20 (fun H locs hP hD hS => ?_)
  have hP : va_P (dC, dI) kxCl (mW mo ma cs I (va_up F 6 (upI (F 6) ((20 * p0) + (F 10 p0)) kd))) H := hP
  have hD : va_D A (mW mo ma cs I (va_up F 6 (upI (F 6) ((20 * p0) + (F 10 p0)) kd))) := hD
  refine lv_aload_n hx hb dX6_keep_21 rfl (lv_at hl 1 rfl) ?_
  refine va_get (D := (dC, dI)) (ci := 6) (v := .ref (ma 7)) (C := RX6) (T := TX6) (N := 44) hx hb hts kt_X6 hown hK hP 0 rfl rfl 7 (by decide) (kx_word hG kq_04_msmall_24 rfl) (fun _ h9 => h9) rfl dX6_keep_22 ?_
  refine lv_iload hx hb dX6_keep_25 (lv_at hl 0 rfl) ?_
  refine lv_iload_n hx hb dX6_keep_27 rfl (lv_at hl 4 rfl) ?_
  refine ki_iast (F := F 7) hx hb hK hP hD hS 6 5 rfl rfl (by omega) (by omega) (by decide) dX6_keep_28 (fun H locs hP hD hS => ?_)
  have hP : va_P (dC, dI) kxCl (mW mo ma cs I (va_up (va_up F 6 (upI (F 6) ((20 * p0) + (F 10 p0)) kd)) 7 (upI (F 7) ((20 * p0) + (F 10 p0)) fr))) H := hP
  have hD : va_D A (mW mo ma cs I (va_up (va_up F 6 (upI (F 6) ((20 * p0) + (F 10 p0)) kd)) 7 (upI (F 7) ((20 * p0) + (F 10 p0)) fr))) := hD
  refine lv_aload_n hx hb dX6_keep_29 rfl (lv_at hl 1 rfl) ?_
  refine va_get (D := (dC, dI)) (ci := 6) (v := .ref (ma 8)) (C := RX6) (T := TX6) (N := 44) hx hb hts kt_X6 hown hK hP 0 rfl rfl 8 (by decide) (kx_word hG kq_04_msmall_25 rfl) (fun _ h9 => h9) rfl dX6_keep_30 ?_
  refine lv_iload hx hb dX6_keep_33 (lv_at hl 0 rfl) ?_
  refine lv_iload hx hb dX6_keep_35 (lv_at hl 5 rfl) ?_
  refine ki_iast (F := F 8) hx hb hK hP hD hS 7 6 rfl rfl (by omega) (by omega) (by decide) dX6_keep_37 (fun H locs hP hD hS => ?_)
  have hP : va_P (dC, dI) kxCl (mW mo ma cs I (va_up (va_up (va_up F 6 (upI (F 6) ((20 * p0) + (F 10 p0)) kd)) 7 (upI (F 7) ((20 * p0) + (F 10 p0)) fr)) 8 (upI (F 8) ((20 * p0) + (F 10 p0)) to))) H := hP
  have hD : va_D A (mW mo ma cs I (va_up (va_up (va_up F 6 (upI (F 6) ((20 * p0) + (F 10 p0)) kd)) 7 (upI (F 7) ((20 * p0) + (F 10 p0)) fr)) 8 (upI (F 8) ((20 * p0) + (F 10 p0)) to))) := hD
  refine lv_aload_n hx hb dX6_keep_38 rfl (lv_at hl 1 rfl) ?_
  refine va_get (D := (dC, dI)) (ci := 6) (v := .ref (ma 9)) (C := RX6) (T := TX6) (N := 44) hx hb hts kt_X6 hown hK hP 0 rfl rfl 9 (by decide) (kx_word hG kq_04_msmall_26 rfl) (fun _ h9 => h9) rfl dX6_keep_39 ?_
  refine lv_iload hx hb dX6_keep_42 (lv_at hl 0 rfl) ?_
  refine lv_iload hx hb dX6_keep_44 (lv_at hl 6 rfl) ?_
  refine ki_zast (F := F 9) hx hb hK hP hD hS 8 7 rfl rfl (by omega) (by omega) (by decide) dX6_keep_46 (fun H locs hP hD hS => ?_)
  have hP : va_P (dC, dI) kxCl (mW mo ma cs I (va_up (va_up (va_up (va_up F 6 (upI (F 6) ((20 * p0) + (F 10 p0)) kd)) 7 (upI (F 7) ((20 * p0) + (F 10 p0)) fr)) 8 (upI (F 8) ((20 * p0) + (F 10 p0)) to)) 9 (upI (F 9) ((20 * p0) + (F 10 p0)) (vp_nar .boolean (iz rg)).toInt))) H := hP
  have hD : va_D A (mW mo ma cs I (va_up (va_up (va_up (va_up F 6 (upI (F 6) ((20 * p0) + (F 10 p0)) kd)) 7 (upI (F 7) ((20 * p0) + (F 10 p0)) fr)) 8 (upI (F 8) ((20 * p0) + (F 10 p0)) to)) 9 (upI (F 9) ((20 * p0) + (F 10 p0)) (vp_nar .boolean (iz rg)).toInt))) := hD
  refine lv_aload_n hx hb dX6_keep_47 rfl (lv_at hl 1 rfl) ?_
  refine va_get (D := (dC, dI)) (ci := 6) (v := .ref (ma 10)) (C := RX6) (T := TX6) (N := 44) hx hb hts kt_X6 hown hK hP 0 rfl rfl 10 (by decide) (kx_word hG kq_04_msmall_22 rfl) (fun _ h9 => h9) rfl dX6_keep_48 ?_
  refine lv_iload_n hx hb dX6_keep_51 rfl (lv_at hl 2 rfl) ?_
  refine lv_dup2_11 hx hb dX6_keep_52 rfl rfl ?_
  refine ki_iald (F := F 10) hx hb hK hP 9 8 rfl rfl (by omega) (by omega) (by decide) dX6_keep_53 ?_
  refine lv_iconst (v := iz 1) hx hb dX6_keep_54 (by decide) ?_
  refine ki_iadd hx hb dX6_keep_55 ?_
  refine ki_iast (F := F 10) hx hb hK hP hD hS 9 8 rfl rfl (by omega) (by omega) (by decide) dX6_keep_56 (fun H locs hP hD hS => ?_)
  have hP : va_P (dC, dI) kxCl (mW mo ma cs I (va_up (va_up (va_up (va_up (va_up F 6 (upI (F 6) ((20 * p0) + (F 10 p0)) kd)) 7 (upI (F 7) ((20 * p0) + (F 10 p0)) fr)) 8 (upI (F 8) ((20 * p0) + (F 10 p0)) to)) 9 (upI (F 9) ((20 * p0) + (F 10 p0)) (vp_nar .boolean (iz rg)).toInt)) 10 (upI (F 10) p0 ((F 10 p0) + 1)))) H := hP
  have hD : va_D A (mW mo ma cs I (va_up (va_up (va_up (va_up (va_up F 6 (upI (F 6) ((20 * p0) + (F 10 p0)) kd)) 7 (upI (F 7) ((20 * p0) + (F 10 p0)) fr)) 8 (upI (F 8) ((20 * p0) + (F 10 p0)) to)) 9 (upI (F 9) ((20 * p0) + (F 10 p0)) (vp_nar .boolean (iz rg)).toInt)) 10 (upI (F 10) p0 ((F 10 p0) + 1)))) := hD
  exact mk_ret hx hb hr hlocks hP hD hK hS dX6_keep_57 (⟨rfl, rfl⟩)
set_option maxHeartbeats 4000000 in
set_option maxRecDepth 100000 in
/-- page -/
theorem k_page (l : Launch) (dC : Nat → ClassId) (dI : Nat → Nat → Nat) (mo : Nat) (ma : Nat → Nat) (cs : Nat → ClassId) (I : Nat → Int) (F : Nat → Int → Int) (p0 : Int) (kd : Int) (p2 : Int) (sz : Nat) (hB : mB I F) (hc : 0 ≤ I 1 ∧ I 1 ≤ 64) (hln : ∀ e, 0 ≤ F 10 e ∧ 0 ≤ F 11 e ∧ F 11 e ≤ 99999 ∧ F 10 e + (if 0 < F 11 e then 1 else 0) ≤ 20) (hp01 : -2147483648 ≤ p0) (hp02 : p0 < 2147483648) (hkd1 : -2147483648 ≤ kd) (hkd2 : kd < 2147483648) (hp21 : -2147483648 ≤ p2) (hp22 : p2 < 2147483648) : mMi l yX6_page (.code yX6_page cX6_page 4 (some .int)) 1 26 dC dI mo ma cs I F [.ref mo, .int (iz p0), .int (iz kd), .int (iz p2)] sz (fun (r : Int) (I' : Nat → Int) (F' : Nat → Int → Int) => (r = 0 ∧ F' = F ∧ I' = va_up I 0 1 ∧ (p0 < 0 ∨ I 1 ≤ p0)) ∨ (r = 0 ∧ F' = F ∧ I' = va_up I 0 2 ∧ (0 ≤ p0 ∧ p0 < I 1)) ∨ (r = 0 ∧ F' = F ∧ I' = va_up I 0 3 ∧ (0 ≤ p0 ∧ p0 < I 1) ∧ F 10 p0 + (if 0 < F 11 p0 then 1 else 0) = 20) ∨ (I' = va_up I 0 0 ∧ F' = va_up (va_up (va_up (va_up (va_up F 6 (upI (F 6) (20 * p0 + F 10 p0) kd)) 7 (upI (F 7) (20 * p0 + F 10 p0) p2)) 8 (upI (F 8) (20 * p0 + F 10 p0) p2)) 9 (upI (F 9) (20 * p0 + F 10 p0) (vp_nar .boolean (iz 0)).toInt)) 10 (upI (F 10) p0 (F 10 p0 + 1)) ∧ r = F 10 p0 + (if 0 < F 11 p0 then 1 else 0) + 1 ∧ (0 ≤ p0 ∧ p0 < I 1) ∧ (1 ≤ p2 ∧ p2 ≤ 99999) ∧ ¬ F 10 p0 + (if 0 < F 11 p0 then 1 else 0) = 20)) := by
  refine Met.ofW (cc := cX6_page) (maxL := 4) (ret := (some .int)) (by decide) rfl ?_
  intro p e s m args below meth c s₁ B hml hv
  obtain ⟨rfl, hsz, hP, hK, hD0, hG, hZ⟩ := hv
  have hx := B.exec
  have hb := B.bytes
  have hr := B.returns
  have hts := kx_hts (a := ([.ref mo, .int (iz p0), .int (iz kd), .int (iz p2)] : List Value).toArray) hG
  have hown : s.vm.findClass RX6 = some m.cls := findClass_of_methodNamed B.named
  have hlocks := B.notSynchronized
  subst hsz
  have hD := hD0.self (sz := s.heap.size)
  generalize hAe : va_A (mW mo ma cs I F) s.heap.size = A at hD hZ ⊢
  have hA : ∀ q : Nat, s.heap.size ≤ q → A q := fun q h => by rw [← hAe]; exact Or.inr h
  have hS : va_S A s.heap s.heap [] := va_S.rf
  have hl := lv_entry ([.ref mo, .int (iz p0), .int (iz kd), .int (iz p2)]) (n := 4) (Nat.le_of_ble_eq_true rfl)
  rw [lg_entry_eq]
  generalize (lg_sl ([.ref mo, .int (iz p0), .int (iz kd), .int (iz p2)]) ++ List.replicate (4 - (lg_sl ([.ref mo, .int (iz p0), .int (iz kd), .int (iz p2)])).length) Slot.unset).toArray = ls at hl ⊢
  have hl : lv_has ls 4 [(0, .ref mo), (1, .int (iz p0)), (2, .int (iz kd)), (3, .int (iz p2))] := hl
  have hnp := hln p0
  refine lv_aload_n hx hb dX6_page_0 rfl (lv_at hl 0 rfl) ?_
  refine lv_aload_n hx hb dX6_page_1 rfl (lv_at hl 0 rfl) ?_
  refine lv_iload_n hx hb dX6_page_2 rfl (lv_at hl 1 rfl) ?_
  refine mk_calli (As := [.int (iz p0)]) (rest := [.ref mo]) ⟨hx, hb, hml, hown, hts⟩ (k_isNone l dC dI mo ma cs I F p0 s.heap.size hB (by omega) (by omega)) (cwV 1 hts (kx_gV kq_04_msmall_3 kq_04_msmall_4 kq_04_msmall_5 kq_04_msmall_6 kq_04_msmall_7 rfl) rfl rfl rfl (by decide +kernel) ⟨Nat.le_of_ble_eq_true rfl, Nat.le_of_ble_eq_true rfl⟩) hP hD hK hG hZ hS hA rfl hl.1 rfl (Nat.le_of_ble_eq_true rfl) dX6_page_3 ⟨Nat.le_of_ble_eq_true rfl, Nat.le_of_ble_eq_true rfl⟩ (fun z_1 I_3 F_4 H locs hq_2 hP hD hS => ?_)
  try dsimp only at hq_2
  obtain ⟨rfl, rfl, hq_2⟩ := hq_2
  rcases hq_2 with ⟨rfl, hq_2⟩ | ⟨rfl, hq_2⟩
  · skip
    refine lv_iload_n hx hb dX6_page_6 rfl (lv_at hl 3 rfl) ?_
    refine lv_iconst (v := iz 1) hx hb dX6_page_7 (by decide) ?_
    refine ki_icmp_lt (tgt := 19) hx hb dX6_page_8 (by decide) (by omega) (by omega) (by omega) (by omega) (fun c_5 => ?_) (fun c_5 => ?_)
    · skip
      refine lv_iconst (v := iz 1) hx hb dX6_page_19 (by decide) ?_
      refine lv_goto (tgt := 24) hx hb dX6_page_20 (by decide) ?_
      refine lv_aload_n hx hb dX6_page_24 rfl (lv_at hl 0 rfl) ?_
      refine lv_iload_n hx hb dX6_page_25 rfl (lv_at hl 1 rfl) ?_
      refine mk_calli (As := [.int (iz p0)]) (rest := [.int (iz 1), .int (iz 1), .ref mo]) ⟨hx, hb, hml, hown, hts⟩ (k_isNone l dC dI mo ma cs I F p0 H.size hB (by omega) (by omega)) (cwV 1 hts (kx_gV kq_04_msmall_3 kq_04_msmall_4 kq_04_msmall_5 kq_04_msmall_6 kq_04_msmall_7 rfl) rfl rfl rfl (by decide +kernel) ⟨Nat.le_of_ble_eq_true rfl, Nat.le_of_ble_eq_true rfl⟩) hP hD hK hG hZ hS hA rfl hl.1 rfl (Nat.le_of_ble_eq_true rfl) dX6_page_26 ⟨Nat.le_of_ble_eq_true rfl, Nat.le_of_ble_eq_true rfl⟩ (fun z_6 I_8 F_9 H locs hq_7 hP hD hS => ?_)
      try dsimp only at hq_7
      obtain ⟨rfl, rfl, hq_7⟩ := hq_7
      rcases hq_7 with ⟨rfl, hq_7⟩ | ⟨rfl, hq_7⟩
      · skip
        refine ki_if_ne (tgt := 46) hx hb dX6_page_29 (by decide) (by omega) (by omega) (fun c_10 => ?_) (fun c_10 => ?_)
        · skip
          refine lv_iconst (v := iz 0) hx hb dX6_page_46 (by decide) ?_
          refine mk_calli (As := [.int (iz 1), .int (iz 1), .int (iz 0)]) (rest := []) ⟨hx, hb, hml, hown, hts⟩ (k_refused1 l dC dI mo ma cs I F 1 0 H.size (by omega) (by omega) (by omega) (by omega)) (cwV 3 hts (kx_gV kq_04_msmall_8 kq_04_msmall_9 kq_04_msmall_10 kq_04_msmall_6 kq_04_msmall_11 rfl) rfl rfl rfl (by decide +kernel) ⟨Nat.le_of_ble_eq_true rfl, Nat.le_of_ble_eq_true rfl⟩) hP hD hK hG hZ hS hA rfl hl.1 rfl (Nat.le_of_ble_eq_true rfl) dX6_page_47 ⟨Nat.le_of_ble_eq_true rfl, Nat.le_of_ble_eq_true rfl⟩ (fun z_11 I_13 F_14 H locs hq_12 hP hD hS => ?_)
          try dsimp only at hq_12
          obtain ⟨rfl, rfl, rfl⟩ := hq_12
          refine ki_if_eq (tgt := 55) hx hb dX6_page_50 (by decide) (by omega) (by omega) (fun c_15 => ?_) (fun c_15 => ?_)
          · omega
          · skip
            refine lv_iconst (v := iz 0) hx hb dX6_page_53 (by decide) ?_
            exact mk_ireti hx hb hr hlocks hP hD hK hS dX6_page_54 (Or.inl ⟨by omega, rfl, rfl, by omega⟩)
        · omega
      · skip
        refine ki_if_ne (tgt := 46) hx hb dX6_page_29 (by decide) (by omega) (by omega) (fun c_16 => ?_) (fun c_16 => ?_)
        · omega
        · skip
          refine lv_aload_n hx hb dX6_page_32 rfl (lv_at hl 0 rfl) ?_
          refine lv_iload_n hx hb dX6_page_33 rfl (lv_at hl 1 rfl) ?_
          refine mk_calli (As := [.int (iz p0)]) (rest := [.int (iz 1), .int (iz 1), .ref mo]) ⟨hx, hb, hml, hown, hts⟩ (k_toldOf l dC dI mo ma cs I F p0 H.size hB (by omega)) (cwV 1 hts (kx_gV kq_04_msmall_27 kq_04_msmall_28 kq_04_msmall_29 kq_04_msmall_6 kq_04_msmall_30 rfl) rfl rfl rfl (by decide +kernel) ⟨Nat.le_of_ble_eq_true rfl, Nat.le_of_ble_eq_true rfl⟩) hP hD hK hG hZ hS hA rfl hl.1 rfl (Nat.le_of_ble_eq_true rfl) dX6_page_34 ⟨Nat.le_of_ble_eq_true rfl, Nat.le_of_ble_eq_true rfl⟩ (fun z_17 I_19 F_20 H locs hq_18 hP hD hS => ?_)
          try dsimp only at hq_18
          obtain ⟨rfl, rfl, hq_18⟩ := hq_18
          refine lv_bipush (v := iz 20) hx hb dX6_page_37 (by decide) ?_
          refine ki_icmp_ne (tgt := 46) hx hb dX6_page_39 (by decide) (by omega) (by omega) (by omega) (by omega) (fun c_21 => ?_) (fun c_21 => ?_)
          · skip
            refine lv_iconst (v := iz 0) hx hb dX6_page_46 (by decide) ?_
            refine mk_calli (As := [.int (iz 1), .int (iz 1), .int (iz 0)]) (rest := []) ⟨hx, hb, hml, hown, hts⟩ (k_refused1 l dC dI mo ma cs I F 1 0 H.size (by omega) (by omega) (by omega) (by omega)) (cwV 3 hts (kx_gV kq_04_msmall_8 kq_04_msmall_9 kq_04_msmall_10 kq_04_msmall_6 kq_04_msmall_11 rfl) rfl rfl rfl (by decide +kernel) ⟨Nat.le_of_ble_eq_true rfl, Nat.le_of_ble_eq_true rfl⟩) hP hD hK hG hZ hS hA rfl hl.1 rfl (Nat.le_of_ble_eq_true rfl) dX6_page_47 ⟨Nat.le_of_ble_eq_true rfl, Nat.le_of_ble_eq_true rfl⟩ (fun z_22 I_24 F_25 H locs hq_23 hP hD hS => ?_)
            try dsimp only at hq_23
            obtain ⟨rfl, rfl, rfl⟩ := hq_23
            refine ki_if_eq (tgt := 55) hx hb dX6_page_50 (by decide) (by omega) (by omega) (fun c_26 => ?_) (fun c_26 => ?_)
            · omega
            · skip
              refine lv_iconst (v := iz 0) hx hb dX6_page_53 (by decide) ?_
              exact mk_ireti hx hb hr hlocks hP hD hK hS dX6_page_54 (Or.inl ⟨by omega, rfl, rfl, by omega⟩)
          · skip
            refine lv_iconst (v := iz 1) hx hb dX6_page_42 (by decide) ?_
            refine lv_goto (tgt := 47) hx hb dX6_page_43 (by decide) ?_
            refine mk_calli (As := [.int (iz 1), .int (iz 1), .int (iz 1)]) (rest := []) ⟨hx, hb, hml, hown, hts⟩ (k_refused1 l dC dI mo ma cs I F 1 1 H.size (by omega) (by omega) (by omega) (by omega)) (cwV 3 hts (kx_gV kq_04_msmall_8 kq_04_msmall_9 kq_04_msmall_10 kq_04_msmall_6 kq_04_msmall_11 rfl) rfl rfl rfl (by decide +kernel) ⟨Nat.le_of_ble_eq_true rfl, Nat.le_of_ble_eq_true rfl⟩) hP hD hK hG hZ hS hA rfl hl.1 rfl (Nat.le_of_ble_eq_true rfl) dX6_page_47 ⟨Nat.le_of_ble_eq_true rfl, Nat.le_of_ble_eq_true rfl⟩ (fun z_27 I_29 F_30 H locs hq_28 hP hD hS => ?_)
            try dsimp only at hq_28
            obtain ⟨rfl, rfl, rfl⟩ := hq_28
            refine ki_if_eq (tgt := 55) hx hb dX6_page_50 (by decide) (by omega) (by omega) (fun c_31 => ?_) (fun c_31 => ?_)
            · omega
            · skip
              refine lv_iconst (v := iz 0) hx hb dX6_page_53 (by decide) ?_
              exact mk_ireti hx hb hr hlocks hP hD hK hS dX6_page_54 (Or.inl ⟨by omega, rfl, rfl, by omega⟩)
    · skip
      refine lv_iload_n hx hb dX6_page_11 rfl (lv_at hl 3 rfl) ?_
      refine lv_iload_n hx hb dX6_page_12 rfl (lv_at hl 2 rfl) ?_
      refine mk_calls (As := [.int (iz kd)]) (rest := [.int (iz p2), .int (iz 1), .ref mo]) ⟨hx, hb, hml, hown, hts⟩ (k_most l dC dI kd H.size (by omega) (by omega)) (va_cwS 1 hts (kx_gS kq_04_msmall_31 kq_04_msmall_32 kq_04_msmall_6 kq_04_msmall_33 rfl) rfl rfl rfl (by decide +kernel) ⟨Nat.le_of_ble_eq_true rfl, Nat.le_of_ble_eq_true rfl⟩) hP hD hK hG hZ hS hA rfl hl.1 rfl (Nat.le_of_ble_eq_true rfl) dX6_page_13 ⟨Nat.le_of_ble_eq_true rfl, Nat.le_of_ble_eq_true rfl⟩ (fun z_32 H locs hq_33 hP hS => ?_)
      try dsimp only at hq_33
      refine ki_icmp_le (tgt := 23) hx hb dX6_page_16 (by decide) (by omega) (by omega) (by omega) (by omega) (fun c_34 => ?_) (fun c_34 => ?_)
      · skip
        refine lv_iconst (v := iz 0) hx hb dX6_page_23 (by decide) ?_
        refine lv_aload_n hx hb dX6_page_24 rfl (lv_at hl 0 rfl) ?_
        refine lv_iload_n hx hb dX6_page_25 rfl (lv_at hl 1 rfl) ?_
        refine mk_calli (As := [.int (iz p0)]) (rest := [.int (iz 0), .int (iz 1), .ref mo]) ⟨hx, hb, hml, hown, hts⟩ (k_isNone l dC dI mo ma cs I F p0 H.size hB (by omega) (by omega)) (cwV 1 hts (kx_gV kq_04_msmall_3 kq_04_msmall_4 kq_04_msmall_5 kq_04_msmall_6 kq_04_msmall_7 rfl) rfl rfl rfl (by decide +kernel) ⟨Nat.le_of_ble_eq_true rfl, Nat.le_of_ble_eq_true rfl⟩) hP hD hK hG hZ hS hA rfl hl.1 rfl (Nat.le_of_ble_eq_true rfl) dX6_page_26 ⟨Nat.le_of_ble_eq_true rfl, Nat.le_of_ble_eq_true rfl⟩ (fun z_35 I_37 F_38 H locs hq_36 hP hD hS => ?_)
        try dsimp only at hq_36
        obtain ⟨rfl, rfl, hq_36⟩ := hq_36
        rcases hq_36 with ⟨rfl, hq_36⟩ | ⟨rfl, hq_36⟩
        · skip
          refine ki_if_ne (tgt := 46) hx hb dX6_page_29 (by decide) (by omega) (by omega) (fun c_39 => ?_) (fun c_39 => ?_)
          · skip
            refine lv_iconst (v := iz 0) hx hb dX6_page_46 (by decide) ?_
            refine mk_calli (As := [.int (iz 1), .int (iz 0), .int (iz 0)]) (rest := []) ⟨hx, hb, hml, hown, hts⟩ (k_refused1 l dC dI mo ma cs I F 0 0 H.size (by omega) (by omega) (by omega) (by omega)) (cwV 3 hts (kx_gV kq_04_msmall_8 kq_04_msmall_9 kq_04_msmall_10 kq_04_msmall_6 kq_04_msmall_11 rfl) rfl rfl rfl (by decide +kernel) ⟨Nat.le_of_ble_eq_true rfl, Nat.le_of_ble_eq_true rfl⟩) hP hD hK hG hZ hS hA rfl hl.1 rfl (Nat.le_of_ble_eq_true rfl) dX6_page_47 ⟨Nat.le_of_ble_eq_true rfl, Nat.le_of_ble_eq_true rfl⟩ (fun z_40 I_42 F_43 H locs hq_41 hP hD hS => ?_)
            try dsimp only at hq_41
            obtain ⟨rfl, rfl, rfl⟩ := hq_41
            refine ki_if_eq (tgt := 55) hx hb dX6_page_50 (by decide) (by omega) (by omega) (fun c_44 => ?_) (fun c_44 => ?_)
            · omega
            · skip
              refine lv_iconst (v := iz 0) hx hb dX6_page_53 (by decide) ?_
              exact mk_ireti hx hb hr hlocks hP hD hK hS dX6_page_54 (Or.inl ⟨by omega, rfl, rfl, by omega⟩)
          · omega
        · skip
          refine ki_if_ne (tgt := 46) hx hb dX6_page_29 (by decide) (by omega) (by omega) (fun c_45 => ?_) (fun c_45 => ?_)
          · omega
          · skip
            refine lv_aload_n hx hb dX6_page_32 rfl (lv_at hl 0 rfl) ?_
            refine lv_iload_n hx hb dX6_page_33 rfl (lv_at hl 1 rfl) ?_
            refine mk_calli (As := [.int (iz p0)]) (rest := [.int (iz 0), .int (iz 1), .ref mo]) ⟨hx, hb, hml, hown, hts⟩ (k_toldOf l dC dI mo ma cs I F p0 H.size hB (by omega)) (cwV 1 hts (kx_gV kq_04_msmall_27 kq_04_msmall_28 kq_04_msmall_29 kq_04_msmall_6 kq_04_msmall_30 rfl) rfl rfl rfl (by decide +kernel) ⟨Nat.le_of_ble_eq_true rfl, Nat.le_of_ble_eq_true rfl⟩) hP hD hK hG hZ hS hA rfl hl.1 rfl (Nat.le_of_ble_eq_true rfl) dX6_page_34 ⟨Nat.le_of_ble_eq_true rfl, Nat.le_of_ble_eq_true rfl⟩ (fun z_46 I_48 F_49 H locs hq_47 hP hD hS => ?_)
            try dsimp only at hq_47
            obtain ⟨rfl, rfl, hq_47⟩ := hq_47
            refine lv_bipush (v := iz 20) hx hb dX6_page_37 (by decide) ?_
            refine ki_icmp_ne (tgt := 46) hx hb dX6_page_39 (by decide) (by omega) (by omega) (by omega) (by omega) (fun c_50 => ?_) (fun c_50 => ?_)
            · skip
              refine lv_iconst (v := iz 0) hx hb dX6_page_46 (by decide) ?_
              refine mk_calli (As := [.int (iz 1), .int (iz 0), .int (iz 0)]) (rest := []) ⟨hx, hb, hml, hown, hts⟩ (k_refused1 l dC dI mo ma cs I F 0 0 H.size (by omega) (by omega) (by omega) (by omega)) (cwV 3 hts (kx_gV kq_04_msmall_8 kq_04_msmall_9 kq_04_msmall_10 kq_04_msmall_6 kq_04_msmall_11 rfl) rfl rfl rfl (by decide +kernel) ⟨Nat.le_of_ble_eq_true rfl, Nat.le_of_ble_eq_true rfl⟩) hP hD hK hG hZ hS hA rfl hl.1 rfl (Nat.le_of_ble_eq_true rfl) dX6_page_47 ⟨Nat.le_of_ble_eq_true rfl, Nat.le_of_ble_eq_true rfl⟩ (fun z_51 I_53 F_54 H locs hq_52 hP hD hS => ?_)
              try dsimp only at hq_52
              obtain ⟨rfl, rfl, rfl⟩ := hq_52
              refine ki_if_eq (tgt := 55) hx hb dX6_page_50 (by decide) (by omega) (by omega) (fun c_55 => ?_) (fun c_55 => ?_)
              · omega
              · skip
                refine lv_iconst (v := iz 0) hx hb dX6_page_53 (by decide) ?_
                exact mk_ireti hx hb hr hlocks hP hD hK hS dX6_page_54 (Or.inl ⟨by omega, rfl, rfl, by omega⟩)
            · skip
              refine lv_iconst (v := iz 1) hx hb dX6_page_42 (by decide) ?_
              refine lv_goto (tgt := 47) hx hb dX6_page_43 (by decide) ?_
              refine mk_calli (As := [.int (iz 1), .int (iz 0), .int (iz 1)]) (rest := []) ⟨hx, hb, hml, hown, hts⟩ (k_refused1 l dC dI mo ma cs I F 0 1 H.size (by omega) (by omega) (by omega) (by omega)) (cwV 3 hts (kx_gV kq_04_msmall_8 kq_04_msmall_9 kq_04_msmall_10 kq_04_msmall_6 kq_04_msmall_11 rfl) rfl rfl rfl (by decide +kernel) ⟨Nat.le_of_ble_eq_true rfl, Nat.le_of_ble_eq_true rfl⟩) hP hD hK hG hZ hS hA rfl hl.1 rfl (Nat.le_of_ble_eq_true rfl) dX6_page_47 ⟨Nat.le_of_ble_eq_true rfl, Nat.le_of_ble_eq_true rfl⟩ (fun z_56 I_58 F_59 H locs hq_57 hP hD hS => ?_)
              try dsimp only at hq_57
              obtain ⟨rfl, rfl, rfl⟩ := hq_57
              refine ki_if_eq (tgt := 55) hx hb dX6_page_50 (by decide) (by omega) (by omega) (fun c_60 => ?_) (fun c_60 => ?_)
              · omega
              · skip
                refine lv_iconst (v := iz 0) hx hb dX6_page_53 (by decide) ?_
                exact mk_ireti hx hb hr hlocks hP hD hK hS dX6_page_54 (Or.inl ⟨by omega, rfl, rfl, by omega⟩)
      · skip
        refine lv_iconst (v := iz 1) hx hb dX6_page_19 (by decide) ?_
        refine lv_goto (tgt := 24) hx hb dX6_page_20 (by decide) ?_
        refine lv_aload_n hx hb dX6_page_24 rfl (lv_at hl 0 rfl) ?_
        refine lv_iload_n hx hb dX6_page_25 rfl (lv_at hl 1 rfl) ?_
        refine mk_calli (As := [.int (iz p0)]) (rest := [.int (iz 1), .int (iz 1), .ref mo]) ⟨hx, hb, hml, hown, hts⟩ (k_isNone l dC dI mo ma cs I F p0 H.size hB (by omega) (by omega)) (cwV 1 hts (kx_gV kq_04_msmall_3 kq_04_msmall_4 kq_04_msmall_5 kq_04_msmall_6 kq_04_msmall_7 rfl) rfl rfl rfl (by decide +kernel) ⟨Nat.le_of_ble_eq_true rfl, Nat.le_of_ble_eq_true rfl⟩) hP hD hK hG hZ hS hA rfl hl.1 rfl (Nat.le_of_ble_eq_true rfl) dX6_page_26 ⟨Nat.le_of_ble_eq_true rfl, Nat.le_of_ble_eq_true rfl⟩ (fun z_61 I_63 F_64 H locs hq_62 hP hD hS => ?_)
        try dsimp only at hq_62
        obtain ⟨rfl, rfl, hq_62⟩ := hq_62
        rcases hq_62 with ⟨rfl, hq_62⟩ | ⟨rfl, hq_62⟩
        · skip
          refine ki_if_ne (tgt := 46) hx hb dX6_page_29 (by decide) (by omega) (by omega) (fun c_65 => ?_) (fun c_65 => ?_)
          · skip
            refine lv_iconst (v := iz 0) hx hb dX6_page_46 (by decide) ?_
            refine mk_calli (As := [.int (iz 1), .int (iz 1), .int (iz 0)]) (rest := []) ⟨hx, hb, hml, hown, hts⟩ (k_refused1 l dC dI mo ma cs I F 1 0 H.size (by omega) (by omega) (by omega) (by omega)) (cwV 3 hts (kx_gV kq_04_msmall_8 kq_04_msmall_9 kq_04_msmall_10 kq_04_msmall_6 kq_04_msmall_11 rfl) rfl rfl rfl (by decide +kernel) ⟨Nat.le_of_ble_eq_true rfl, Nat.le_of_ble_eq_true rfl⟩) hP hD hK hG hZ hS hA rfl hl.1 rfl (Nat.le_of_ble_eq_true rfl) dX6_page_47 ⟨Nat.le_of_ble_eq_true rfl, Nat.le_of_ble_eq_true rfl⟩ (fun z_66 I_68 F_69 H locs hq_67 hP hD hS => ?_)
            try dsimp only at hq_67
            obtain ⟨rfl, rfl, rfl⟩ := hq_67
            refine ki_if_eq (tgt := 55) hx hb dX6_page_50 (by decide) (by omega) (by omega) (fun c_70 => ?_) (fun c_70 => ?_)
            · omega
            · skip
              refine lv_iconst (v := iz 0) hx hb dX6_page_53 (by decide) ?_
              exact mk_ireti hx hb hr hlocks hP hD hK hS dX6_page_54 (Or.inl ⟨by omega, rfl, rfl, by omega⟩)
          · omega
        · skip
          refine ki_if_ne (tgt := 46) hx hb dX6_page_29 (by decide) (by omega) (by omega) (fun c_71 => ?_) (fun c_71 => ?_)
          · omega
          · skip
            refine lv_aload_n hx hb dX6_page_32 rfl (lv_at hl 0 rfl) ?_
            refine lv_iload_n hx hb dX6_page_33 rfl (lv_at hl 1 rfl) ?_
            refine mk_calli (As := [.int (iz p0)]) (rest := [.int (iz 1), .int (iz 1), .ref mo]) ⟨hx, hb, hml, hown, hts⟩ (k_toldOf l dC dI mo ma cs I F p0 H.size hB (by omega)) (cwV 1 hts (kx_gV kq_04_msmall_27 kq_04_msmall_28 kq_04_msmall_29 kq_04_msmall_6 kq_04_msmall_30 rfl) rfl rfl rfl (by decide +kernel) ⟨Nat.le_of_ble_eq_true rfl, Nat.le_of_ble_eq_true rfl⟩) hP hD hK hG hZ hS hA rfl hl.1 rfl (Nat.le_of_ble_eq_true rfl) dX6_page_34 ⟨Nat.le_of_ble_eq_true rfl, Nat.le_of_ble_eq_true rfl⟩ (fun z_72 I_74 F_75 H locs hq_73 hP hD hS => ?_)
            try dsimp only at hq_73
            obtain ⟨rfl, rfl, hq_73⟩ := hq_73
            refine lv_bipush (v := iz 20) hx hb dX6_page_37 (by decide) ?_
            refine ki_icmp_ne (tgt := 46) hx hb dX6_page_39 (by decide) (by omega) (by omega) (by omega) (by omega) (fun c_76 => ?_) (fun c_76 => ?_)
            · skip
              refine lv_iconst (v := iz 0) hx hb dX6_page_46 (by decide) ?_
              refine mk_calli (As := [.int (iz 1), .int (iz 1), .int (iz 0)]) (rest := []) ⟨hx, hb, hml, hown, hts⟩ (k_refused1 l dC dI mo ma cs I F 1 0 H.size (by omega) (by omega) (by omega) (by omega)) (cwV 3 hts (kx_gV kq_04_msmall_8 kq_04_msmall_9 kq_04_msmall_10 kq_04_msmall_6 kq_04_msmall_11 rfl) rfl rfl rfl (by decide +kernel) ⟨Nat.le_of_ble_eq_true rfl, Nat.le_of_ble_eq_true rfl⟩) hP hD hK hG hZ hS hA rfl hl.1 rfl (Nat.le_of_ble_eq_true rfl) dX6_page_47 ⟨Nat.le_of_ble_eq_true rfl, Nat.le_of_ble_eq_true rfl⟩ (fun z_77 I_79 F_80 H locs hq_78 hP hD hS => ?_)
              try dsimp only at hq_78
              obtain ⟨rfl, rfl, rfl⟩ := hq_78
              refine ki_if_eq (tgt := 55) hx hb dX6_page_50 (by decide) (by omega) (by omega) (fun c_81 => ?_) (fun c_81 => ?_)
              · omega
              · skip
                refine lv_iconst (v := iz 0) hx hb dX6_page_53 (by decide) ?_
                exact mk_ireti hx hb hr hlocks hP hD hK hS dX6_page_54 (Or.inl ⟨by omega, rfl, rfl, by omega⟩)
            · skip
              refine lv_iconst (v := iz 1) hx hb dX6_page_42 (by decide) ?_
              refine lv_goto (tgt := 47) hx hb dX6_page_43 (by decide) ?_
              refine mk_calli (As := [.int (iz 1), .int (iz 1), .int (iz 1)]) (rest := []) ⟨hx, hb, hml, hown, hts⟩ (k_refused1 l dC dI mo ma cs I F 1 1 H.size (by omega) (by omega) (by omega) (by omega)) (cwV 3 hts (kx_gV kq_04_msmall_8 kq_04_msmall_9 kq_04_msmall_10 kq_04_msmall_6 kq_04_msmall_11 rfl) rfl rfl rfl (by decide +kernel) ⟨Nat.le_of_ble_eq_true rfl, Nat.le_of_ble_eq_true rfl⟩) hP hD hK hG hZ hS hA rfl hl.1 rfl (Nat.le_of_ble_eq_true rfl) dX6_page_47 ⟨Nat.le_of_ble_eq_true rfl, Nat.le_of_ble_eq_true rfl⟩ (fun z_82 I_84 F_85 H locs hq_83 hP hD hS => ?_)
              try dsimp only at hq_83
              obtain ⟨rfl, rfl, rfl⟩ := hq_83
              refine ki_if_eq (tgt := 55) hx hb dX6_page_50 (by decide) (by omega) (by omega) (fun c_86 => ?_) (fun c_86 => ?_)
              · omega
              · skip
                refine lv_iconst (v := iz 0) hx hb dX6_page_53 (by decide) ?_
                exact mk_ireti hx hb hr hlocks hP hD hK hS dX6_page_54 (Or.inl ⟨by omega, rfl, rfl, by omega⟩)
  · skip
    refine lv_iload_n hx hb dX6_page_6 rfl (lv_at hl 3 rfl) ?_
    refine lv_iconst (v := iz 1) hx hb dX6_page_7 (by decide) ?_
    refine ki_icmp_lt (tgt := 19) hx hb dX6_page_8 (by decide) (by omega) (by omega) (by omega) (by omega) (fun c_87 => ?_) (fun c_87 => ?_)
    · skip
      refine lv_iconst (v := iz 1) hx hb dX6_page_19 (by decide) ?_
      refine lv_goto (tgt := 24) hx hb dX6_page_20 (by decide) ?_
      refine lv_aload_n hx hb dX6_page_24 rfl (lv_at hl 0 rfl) ?_
      refine lv_iload_n hx hb dX6_page_25 rfl (lv_at hl 1 rfl) ?_
      refine mk_calli (As := [.int (iz p0)]) (rest := [.int (iz 1), .int (iz 0), .ref mo]) ⟨hx, hb, hml, hown, hts⟩ (k_isNone l dC dI mo ma cs I F p0 H.size hB (by omega) (by omega)) (cwV 1 hts (kx_gV kq_04_msmall_3 kq_04_msmall_4 kq_04_msmall_5 kq_04_msmall_6 kq_04_msmall_7 rfl) rfl rfl rfl (by decide +kernel) ⟨Nat.le_of_ble_eq_true rfl, Nat.le_of_ble_eq_true rfl⟩) hP hD hK hG hZ hS hA rfl hl.1 rfl (Nat.le_of_ble_eq_true rfl) dX6_page_26 ⟨Nat.le_of_ble_eq_true rfl, Nat.le_of_ble_eq_true rfl⟩ (fun z_88 I_90 F_91 H locs hq_89 hP hD hS => ?_)
      try dsimp only at hq_89
      obtain ⟨rfl, rfl, hq_89⟩ := hq_89
      rcases hq_89 with ⟨rfl, hq_89⟩ | ⟨rfl, hq_89⟩
      · skip
        refine ki_if_ne (tgt := 46) hx hb dX6_page_29 (by decide) (by omega) (by omega) (fun c_92 => ?_) (fun c_92 => ?_)
        · skip
          refine lv_iconst (v := iz 0) hx hb dX6_page_46 (by decide) ?_
          refine mk_calli (As := [.int (iz 0), .int (iz 1), .int (iz 0)]) (rest := []) ⟨hx, hb, hml, hown, hts⟩ (k_refused2 l dC dI mo ma cs I F 0 H.size (by omega) (by omega)) (cwV 3 hts (kx_gV kq_04_msmall_8 kq_04_msmall_9 kq_04_msmall_10 kq_04_msmall_6 kq_04_msmall_11 rfl) rfl rfl rfl (by decide +kernel) ⟨Nat.le_of_ble_eq_true rfl, Nat.le_of_ble_eq_true rfl⟩) hP hD hK hG hZ hS hA rfl hl.1 rfl (Nat.le_of_ble_eq_true rfl) dX6_page_47 ⟨Nat.le_of_ble_eq_true rfl, Nat.le_of_ble_eq_true rfl⟩ (fun z_93 I_95 F_96 H locs hq_94 hP hD hS => ?_)
          try dsimp only at hq_94
          obtain ⟨rfl, rfl, rfl⟩ := hq_94
          refine ki_if_eq (tgt := 55) hx hb dX6_page_50 (by decide) (by omega) (by omega) (fun c_97 => ?_) (fun c_97 => ?_)
          · omega
          · skip
            refine lv_iconst (v := iz 0) hx hb dX6_page_53 (by decide) ?_
            exact mk_ireti hx hb hr hlocks hP hD hK hS dX6_page_54 (Or.inr (Or.inl ⟨by omega, rfl, rfl, by omega⟩))
        · omega
      · skip
        refine ki_if_ne (tgt := 46) hx hb dX6_page_29 (by decide) (by omega) (by omega) (fun c_98 => ?_) (fun c_98 => ?_)
        · omega
        · skip
          refine lv_aload_n hx hb dX6_page_32 rfl (lv_at hl 0 rfl) ?_
          refine lv_iload_n hx hb dX6_page_33 rfl (lv_at hl 1 rfl) ?_
          refine mk_calli (As := [.int (iz p0)]) (rest := [.int (iz 1), .int (iz 0), .ref mo]) ⟨hx, hb, hml, hown, hts⟩ (k_toldOf l dC dI mo ma cs I F p0 H.size hB (by omega)) (cwV 1 hts (kx_gV kq_04_msmall_27 kq_04_msmall_28 kq_04_msmall_29 kq_04_msmall_6 kq_04_msmall_30 rfl) rfl rfl rfl (by decide +kernel) ⟨Nat.le_of_ble_eq_true rfl, Nat.le_of_ble_eq_true rfl⟩) hP hD hK hG hZ hS hA rfl hl.1 rfl (Nat.le_of_ble_eq_true rfl) dX6_page_34 ⟨Nat.le_of_ble_eq_true rfl, Nat.le_of_ble_eq_true rfl⟩ (fun z_99 I_101 F_102 H locs hq_100 hP hD hS => ?_)
          try dsimp only at hq_100
          obtain ⟨rfl, rfl, hq_100⟩ := hq_100
          refine lv_bipush (v := iz 20) hx hb dX6_page_37 (by decide) ?_
          refine ki_icmp_ne (tgt := 46) hx hb dX6_page_39 (by decide) (by omega) (by omega) (by omega) (by omega) (fun c_103 => ?_) (fun c_103 => ?_)
          · skip
            refine lv_iconst (v := iz 0) hx hb dX6_page_46 (by decide) ?_
            refine mk_calli (As := [.int (iz 0), .int (iz 1), .int (iz 0)]) (rest := []) ⟨hx, hb, hml, hown, hts⟩ (k_refused2 l dC dI mo ma cs I F 0 H.size (by omega) (by omega)) (cwV 3 hts (kx_gV kq_04_msmall_8 kq_04_msmall_9 kq_04_msmall_10 kq_04_msmall_6 kq_04_msmall_11 rfl) rfl rfl rfl (by decide +kernel) ⟨Nat.le_of_ble_eq_true rfl, Nat.le_of_ble_eq_true rfl⟩) hP hD hK hG hZ hS hA rfl hl.1 rfl (Nat.le_of_ble_eq_true rfl) dX6_page_47 ⟨Nat.le_of_ble_eq_true rfl, Nat.le_of_ble_eq_true rfl⟩ (fun z_104 I_106 F_107 H locs hq_105 hP hD hS => ?_)
            try dsimp only at hq_105
            obtain ⟨rfl, rfl, rfl⟩ := hq_105
            refine ki_if_eq (tgt := 55) hx hb dX6_page_50 (by decide) (by omega) (by omega) (fun c_108 => ?_) (fun c_108 => ?_)
            · omega
            · skip
              refine lv_iconst (v := iz 0) hx hb dX6_page_53 (by decide) ?_
              exact mk_ireti hx hb hr hlocks hP hD hK hS dX6_page_54 (Or.inr (Or.inl ⟨by omega, rfl, rfl, by omega⟩))
          · skip
            refine lv_iconst (v := iz 1) hx hb dX6_page_42 (by decide) ?_
            refine lv_goto (tgt := 47) hx hb dX6_page_43 (by decide) ?_
            refine mk_calli (As := [.int (iz 0), .int (iz 1), .int (iz 1)]) (rest := []) ⟨hx, hb, hml, hown, hts⟩ (k_refused2 l dC dI mo ma cs I F 1 H.size (by omega) (by omega)) (cwV 3 hts (kx_gV kq_04_msmall_8 kq_04_msmall_9 kq_04_msmall_10 kq_04_msmall_6 kq_04_msmall_11 rfl) rfl rfl rfl (by decide +kernel) ⟨Nat.le_of_ble_eq_true rfl, Nat.le_of_ble_eq_true rfl⟩) hP hD hK hG hZ hS hA rfl hl.1 rfl (Nat.le_of_ble_eq_true rfl) dX6_page_47 ⟨Nat.le_of_ble_eq_true rfl, Nat.le_of_ble_eq_true rfl⟩ (fun z_109 I_111 F_112 H locs hq_110 hP hD hS => ?_)
            try dsimp only at hq_110
            obtain ⟨rfl, rfl, rfl⟩ := hq_110
            refine ki_if_eq (tgt := 55) hx hb dX6_page_50 (by decide) (by omega) (by omega) (fun c_113 => ?_) (fun c_113 => ?_)
            · omega
            · skip
              refine lv_iconst (v := iz 0) hx hb dX6_page_53 (by decide) ?_
              exact mk_ireti hx hb hr hlocks hP hD hK hS dX6_page_54 (Or.inr (Or.inl ⟨by omega, rfl, rfl, by omega⟩))
    · skip
      refine lv_iload_n hx hb dX6_page_11 rfl (lv_at hl 3 rfl) ?_
      refine lv_iload_n hx hb dX6_page_12 rfl (lv_at hl 2 rfl) ?_
      refine mk_calls (As := [.int (iz kd)]) (rest := [.int (iz p2), .int (iz 0), .ref mo]) ⟨hx, hb, hml, hown, hts⟩ (k_most l dC dI kd H.size (by omega) (by omega)) (va_cwS 1 hts (kx_gS kq_04_msmall_31 kq_04_msmall_32 kq_04_msmall_6 kq_04_msmall_33 rfl) rfl rfl rfl (by decide +kernel) ⟨Nat.le_of_ble_eq_true rfl, Nat.le_of_ble_eq_true rfl⟩) hP hD hK hG hZ hS hA rfl hl.1 rfl (Nat.le_of_ble_eq_true rfl) dX6_page_13 ⟨Nat.le_of_ble_eq_true rfl, Nat.le_of_ble_eq_true rfl⟩ (fun z_114 H locs hq_115 hP hS => ?_)
      try dsimp only at hq_115
      refine ki_icmp_le (tgt := 23) hx hb dX6_page_16 (by decide) (by omega) (by omega) (by omega) (by omega) (fun c_116 => ?_) (fun c_116 => ?_)
      · skip
        refine lv_iconst (v := iz 0) hx hb dX6_page_23 (by decide) ?_
        refine lv_aload_n hx hb dX6_page_24 rfl (lv_at hl 0 rfl) ?_
        refine lv_iload_n hx hb dX6_page_25 rfl (lv_at hl 1 rfl) ?_
        refine mk_calli (As := [.int (iz p0)]) (rest := [.int (iz 0), .int (iz 0), .ref mo]) ⟨hx, hb, hml, hown, hts⟩ (k_isNone l dC dI mo ma cs I F p0 H.size hB (by omega) (by omega)) (cwV 1 hts (kx_gV kq_04_msmall_3 kq_04_msmall_4 kq_04_msmall_5 kq_04_msmall_6 kq_04_msmall_7 rfl) rfl rfl rfl (by decide +kernel) ⟨Nat.le_of_ble_eq_true rfl, Nat.le_of_ble_eq_true rfl⟩) hP hD hK hG hZ hS hA rfl hl.1 rfl (Nat.le_of_ble_eq_true rfl) dX6_page_26 ⟨Nat.le_of_ble_eq_true rfl, Nat.le_of_ble_eq_true rfl⟩ (fun z_117 I_119 F_120 H locs hq_118 hP hD hS => ?_)
        try dsimp only at hq_118
        obtain ⟨rfl, rfl, hq_118⟩ := hq_118
        rcases hq_118 with ⟨rfl, hq_118⟩ | ⟨rfl, hq_118⟩
        · skip
          refine ki_if_ne (tgt := 46) hx hb dX6_page_29 (by decide) (by omega) (by omega) (fun c_121 => ?_) (fun c_121 => ?_)
          · skip
            refine lv_iconst (v := iz 0) hx hb dX6_page_46 (by decide) ?_
            refine mk_calli (As := [.int (iz 0), .int (iz 0), .int (iz 0)]) (rest := []) ⟨hx, hb, hml, hown, hts⟩ (k_refused0 l dC dI mo ma cs I F  H.size ) (cwV 3 hts (kx_gV kq_04_msmall_8 kq_04_msmall_9 kq_04_msmall_10 kq_04_msmall_6 kq_04_msmall_11 rfl) rfl rfl rfl (by decide +kernel) ⟨Nat.le_of_ble_eq_true rfl, Nat.le_of_ble_eq_true rfl⟩) hP hD hK hG hZ hS hA rfl hl.1 rfl (Nat.le_of_ble_eq_true rfl) dX6_page_47 ⟨Nat.le_of_ble_eq_true rfl, Nat.le_of_ble_eq_true rfl⟩ (fun z_122 I_124 F_125 H locs hq_123 hP hD hS => ?_)
            try dsimp only at hq_123
            obtain ⟨rfl, rfl, rfl⟩ := hq_123
            refine ki_if_eq (tgt := 55) hx hb dX6_page_50 (by decide) (by omega) (by omega) (fun c_126 => ?_) (fun c_126 => ?_)
            · skip
              refine lv_aload_n hx hb dX6_page_55 rfl (lv_at hl 0 rfl) ?_
              refine lv_iload_n hx hb dX6_page_56 rfl (lv_at hl 1 rfl) ?_
              refine lv_iload_n hx hb dX6_page_57 rfl (lv_at hl 2 rfl) ?_
              refine lv_iload_n hx hb dX6_page_58 rfl (lv_at hl 3 rfl) ?_
              refine lv_iload_n hx hb dX6_page_59 rfl (lv_at hl 3 rfl) ?_
              refine lv_iconst (v := iz 0) hx hb dX6_page_60 (by decide) ?_
              refine mk_callv (As := [.int (iz p0), .int (iz kd), .int (iz p2), .int (iz p2), .int (iz 0)]) (rest := []) ⟨hx, hb, hml, hown, hts⟩ (k_keep l dC dI mo ma cs (va_up I 0 0) F p0 kd p2 p2 0 H.size (mB_i hB 0 (by omega) (by omega)) (by omega) (by split at hnp <;> omega)) (cwV 5 hts (kx_gV kq_04_msmall_34 kq_04_msmall_35 kq_04_msmall_36 kq_04_msmall_6 kq_04_msmall_37 rfl) rfl rfl rfl (by decide +kernel) ⟨Nat.le_of_ble_eq_true rfl, Nat.le_of_ble_eq_true rfl⟩) hP hD hK hG hZ hS hA rfl hl.1 rfl (Nat.le_of_ble_eq_true rfl) dX6_page_61 ⟨Nat.le_of_ble_eq_true rfl, Nat.le_of_ble_eq_true rfl⟩ (fun I_129 F_130 H locs hq_128 hP hD hS => ?_)
              try dsimp only at hq_128
              obtain ⟨rfl, rfl⟩ := hq_128
              refine lv_aload_n hx hb dX6_page_64 rfl (lv_at hl 0 rfl) ?_
              refine lv_iload_n hx hb dX6_page_65 rfl (lv_at hl 1 rfl) ?_
              refine mk_calli (As := [.int (iz p0)]) (rest := []) ⟨hx, hb, hml, hown, hts⟩ (k_toldOf l dC dI mo ma cs (va_up I 0 0) (va_up (va_up (va_up (va_up (va_up F 6 (upI (F 6) (20 * p0 + F 10 p0) kd)) 7 (upI (F 7) (20 * p0 + F 10 p0) p2)) 8 (upI (F 8) (20 * p0 + F 10 p0) p2)) 9 (upI (F 9) (20 * p0 + F 10 p0) (vp_nar .boolean (iz 0)).toInt)) 10 (upI (F 10) p0 (F 10 p0 + 1))) p0 H.size (mB_f (mB_f (mB_f (mB_f (mB_f (mB_i hB 0 (by omega) (by omega)) 6 (20 * p0 + F 10 p0) (by omega) (by omega)) 7 (20 * p0 + F 10 p0) (by omega) (by omega)) 8 (20 * p0 + F 10 p0) (by omega) (by omega)) 9 (20 * p0 + F 10 p0) (iz_lo _) (iz_hi _)) 10 p0 (by omega) (by omega)) (by omega)) (cwV 1 hts (kx_gV kq_04_msmall_27 kq_04_msmall_28 kq_04_msmall_29 kq_04_msmall_6 kq_04_msmall_30 rfl) rfl rfl rfl (by decide +kernel) ⟨Nat.le_of_ble_eq_true rfl, Nat.le_of_ble_eq_true rfl⟩) hP hD hK hG hZ hS hA rfl hl.1 rfl (Nat.le_of_ble_eq_true rfl) dX6_page_66 ⟨Nat.le_of_ble_eq_true rfl, Nat.le_of_ble_eq_true rfl⟩ (fun z_131 I_133 F_134 H locs hq_132 hP hD hS => ?_)
              try dsimp only at hq_132
              obtain ⟨rfl, rfl, hq_132⟩ := hq_132
              simp [va_up, upI] at hq_132
              exact mk_ireti hx hb hr hlocks hP hD hK hS dX6_page_69 (Or.inr (Or.inr (Or.inr ⟨rfl, rfl, by omega, by omega, by omega, by omega⟩)))
            · omega
          · omega
        · skip
          refine ki_if_ne (tgt := 46) hx hb dX6_page_29 (by decide) (by omega) (by omega) (fun c_135 => ?_) (fun c_135 => ?_)
          · omega
          · skip
            refine lv_aload_n hx hb dX6_page_32 rfl (lv_at hl 0 rfl) ?_
            refine lv_iload_n hx hb dX6_page_33 rfl (lv_at hl 1 rfl) ?_
            refine mk_calli (As := [.int (iz p0)]) (rest := [.int (iz 0), .int (iz 0), .ref mo]) ⟨hx, hb, hml, hown, hts⟩ (k_toldOf l dC dI mo ma cs I F p0 H.size hB (by omega)) (cwV 1 hts (kx_gV kq_04_msmall_27 kq_04_msmall_28 kq_04_msmall_29 kq_04_msmall_6 kq_04_msmall_30 rfl) rfl rfl rfl (by decide +kernel) ⟨Nat.le_of_ble_eq_true rfl, Nat.le_of_ble_eq_true rfl⟩) hP hD hK hG hZ hS hA rfl hl.1 rfl (Nat.le_of_ble_eq_true rfl) dX6_page_34 ⟨Nat.le_of_ble_eq_true rfl, Nat.le_of_ble_eq_true rfl⟩ (fun z_136 I_138 F_139 H locs hq_137 hP hD hS => ?_)
            try dsimp only at hq_137
            obtain ⟨rfl, rfl, hq_137⟩ := hq_137
            refine lv_bipush (v := iz 20) hx hb dX6_page_37 (by decide) ?_
            refine ki_icmp_ne (tgt := 46) hx hb dX6_page_39 (by decide) (by omega) (by omega) (by omega) (by omega) (fun c_140 => ?_) (fun c_140 => ?_)
            · skip
              refine lv_iconst (v := iz 0) hx hb dX6_page_46 (by decide) ?_
              refine mk_calli (As := [.int (iz 0), .int (iz 0), .int (iz 0)]) (rest := []) ⟨hx, hb, hml, hown, hts⟩ (k_refused0 l dC dI mo ma cs I F  H.size ) (cwV 3 hts (kx_gV kq_04_msmall_8 kq_04_msmall_9 kq_04_msmall_10 kq_04_msmall_6 kq_04_msmall_11 rfl) rfl rfl rfl (by decide +kernel) ⟨Nat.le_of_ble_eq_true rfl, Nat.le_of_ble_eq_true rfl⟩) hP hD hK hG hZ hS hA rfl hl.1 rfl (Nat.le_of_ble_eq_true rfl) dX6_page_47 ⟨Nat.le_of_ble_eq_true rfl, Nat.le_of_ble_eq_true rfl⟩ (fun z_141 I_143 F_144 H locs hq_142 hP hD hS => ?_)
              try dsimp only at hq_142
              obtain ⟨rfl, rfl, rfl⟩ := hq_142
              refine ki_if_eq (tgt := 55) hx hb dX6_page_50 (by decide) (by omega) (by omega) (fun c_145 => ?_) (fun c_145 => ?_)
              · skip
                refine lv_aload_n hx hb dX6_page_55 rfl (lv_at hl 0 rfl) ?_
                refine lv_iload_n hx hb dX6_page_56 rfl (lv_at hl 1 rfl) ?_
                refine lv_iload_n hx hb dX6_page_57 rfl (lv_at hl 2 rfl) ?_
                refine lv_iload_n hx hb dX6_page_58 rfl (lv_at hl 3 rfl) ?_
                refine lv_iload_n hx hb dX6_page_59 rfl (lv_at hl 3 rfl) ?_
                refine lv_iconst (v := iz 0) hx hb dX6_page_60 (by decide) ?_
                refine mk_callv (As := [.int (iz p0), .int (iz kd), .int (iz p2), .int (iz p2), .int (iz 0)]) (rest := []) ⟨hx, hb, hml, hown, hts⟩ (k_keep l dC dI mo ma cs (va_up I 0 0) F p0 kd p2 p2 0 H.size (mB_i hB 0 (by omega) (by omega)) (by omega) (by split at hnp <;> omega)) (cwV 5 hts (kx_gV kq_04_msmall_34 kq_04_msmall_35 kq_04_msmall_36 kq_04_msmall_6 kq_04_msmall_37 rfl) rfl rfl rfl (by decide +kernel) ⟨Nat.le_of_ble_eq_true rfl, Nat.le_of_ble_eq_true rfl⟩) hP hD hK hG hZ hS hA rfl hl.1 rfl (Nat.le_of_ble_eq_true rfl) dX6_page_61 ⟨Nat.le_of_ble_eq_true rfl, Nat.le_of_ble_eq_true rfl⟩ (fun I_148 F_149 H locs hq_147 hP hD hS => ?_)
                try dsimp only at hq_147
                obtain ⟨rfl, rfl⟩ := hq_147
                refine lv_aload_n hx hb dX6_page_64 rfl (lv_at hl 0 rfl) ?_
                refine lv_iload_n hx hb dX6_page_65 rfl (lv_at hl 1 rfl) ?_
                refine mk_calli (As := [.int (iz p0)]) (rest := []) ⟨hx, hb, hml, hown, hts⟩ (k_toldOf l dC dI mo ma cs (va_up I 0 0) (va_up (va_up (va_up (va_up (va_up F 6 (upI (F 6) (20 * p0 + F 10 p0) kd)) 7 (upI (F 7) (20 * p0 + F 10 p0) p2)) 8 (upI (F 8) (20 * p0 + F 10 p0) p2)) 9 (upI (F 9) (20 * p0 + F 10 p0) (vp_nar .boolean (iz 0)).toInt)) 10 (upI (F 10) p0 (F 10 p0 + 1))) p0 H.size (mB_f (mB_f (mB_f (mB_f (mB_f (mB_i hB 0 (by omega) (by omega)) 6 (20 * p0 + F 10 p0) (by omega) (by omega)) 7 (20 * p0 + F 10 p0) (by omega) (by omega)) 8 (20 * p0 + F 10 p0) (by omega) (by omega)) 9 (20 * p0 + F 10 p0) (iz_lo _) (iz_hi _)) 10 p0 (by omega) (by omega)) (by omega)) (cwV 1 hts (kx_gV kq_04_msmall_27 kq_04_msmall_28 kq_04_msmall_29 kq_04_msmall_6 kq_04_msmall_30 rfl) rfl rfl rfl (by decide +kernel) ⟨Nat.le_of_ble_eq_true rfl, Nat.le_of_ble_eq_true rfl⟩) hP hD hK hG hZ hS hA rfl hl.1 rfl (Nat.le_of_ble_eq_true rfl) dX6_page_66 ⟨Nat.le_of_ble_eq_true rfl, Nat.le_of_ble_eq_true rfl⟩ (fun z_150 I_152 F_153 H locs hq_151 hP hD hS => ?_)
                try dsimp only at hq_151
                obtain ⟨rfl, rfl, hq_151⟩ := hq_151
                simp [va_up, upI] at hq_151
                exact mk_ireti hx hb hr hlocks hP hD hK hS dX6_page_69 (Or.inr (Or.inr (Or.inr ⟨rfl, rfl, by omega, by omega, by omega, by omega⟩)))
              · omega
            · skip
              refine lv_iconst (v := iz 1) hx hb dX6_page_42 (by decide) ?_
              refine lv_goto (tgt := 47) hx hb dX6_page_43 (by decide) ?_
              refine mk_calli (As := [.int (iz 0), .int (iz 0), .int (iz 1)]) (rest := []) ⟨hx, hb, hml, hown, hts⟩ (k_refused3 l dC dI mo ma cs I F  H.size ) (cwV 3 hts (kx_gV kq_04_msmall_8 kq_04_msmall_9 kq_04_msmall_10 kq_04_msmall_6 kq_04_msmall_11 rfl) rfl rfl rfl (by decide +kernel) ⟨Nat.le_of_ble_eq_true rfl, Nat.le_of_ble_eq_true rfl⟩) hP hD hK hG hZ hS hA rfl hl.1 rfl (Nat.le_of_ble_eq_true rfl) dX6_page_47 ⟨Nat.le_of_ble_eq_true rfl, Nat.le_of_ble_eq_true rfl⟩ (fun z_154 I_156 F_157 H locs hq_155 hP hD hS => ?_)
              try dsimp only at hq_155
              obtain ⟨rfl, rfl, rfl⟩ := hq_155
              refine ki_if_eq (tgt := 55) hx hb dX6_page_50 (by decide) (by omega) (by omega) (fun c_158 => ?_) (fun c_158 => ?_)
              · omega
              · skip
                refine lv_iconst (v := iz 0) hx hb dX6_page_53 (by decide) ?_
                exact mk_ireti hx hb hr hlocks hP hD hK hS dX6_page_54 (Or.inr (Or.inr (Or.inl ⟨by omega, rfl, rfl, by omega, by omega⟩)))
      · skip
        refine lv_iconst (v := iz 1) hx hb dX6_page_19 (by decide) ?_
        refine lv_goto (tgt := 24) hx hb dX6_page_20 (by decide) ?_
        refine lv_aload_n hx hb dX6_page_24 rfl (lv_at hl 0 rfl) ?_
        refine lv_iload_n hx hb dX6_page_25 rfl (lv_at hl 1 rfl) ?_
        refine mk_calli (As := [.int (iz p0)]) (rest := [.int (iz 1), .int (iz 0), .ref mo]) ⟨hx, hb, hml, hown, hts⟩ (k_isNone l dC dI mo ma cs I F p0 H.size hB (by omega) (by omega)) (cwV 1 hts (kx_gV kq_04_msmall_3 kq_04_msmall_4 kq_04_msmall_5 kq_04_msmall_6 kq_04_msmall_7 rfl) rfl rfl rfl (by decide +kernel) ⟨Nat.le_of_ble_eq_true rfl, Nat.le_of_ble_eq_true rfl⟩) hP hD hK hG hZ hS hA rfl hl.1 rfl (Nat.le_of_ble_eq_true rfl) dX6_page_26 ⟨Nat.le_of_ble_eq_true rfl, Nat.le_of_ble_eq_true rfl⟩ (fun z_159 I_161 F_162 H locs hq_160 hP hD hS => ?_)
        try dsimp only at hq_160
        obtain ⟨rfl, rfl, hq_160⟩ := hq_160
        rcases hq_160 with ⟨rfl, hq_160⟩ | ⟨rfl, hq_160⟩
        · skip
          refine ki_if_ne (tgt := 46) hx hb dX6_page_29 (by decide) (by omega) (by omega) (fun c_163 => ?_) (fun c_163 => ?_)
          · skip
            refine lv_iconst (v := iz 0) hx hb dX6_page_46 (by decide) ?_
            refine mk_calli (As := [.int (iz 0), .int (iz 1), .int (iz 0)]) (rest := []) ⟨hx, hb, hml, hown, hts⟩ (k_refused2 l dC dI mo ma cs I F 0 H.size (by omega) (by omega)) (cwV 3 hts (kx_gV kq_04_msmall_8 kq_04_msmall_9 kq_04_msmall_10 kq_04_msmall_6 kq_04_msmall_11 rfl) rfl rfl rfl (by decide +kernel) ⟨Nat.le_of_ble_eq_true rfl, Nat.le_of_ble_eq_true rfl⟩) hP hD hK hG hZ hS hA rfl hl.1 rfl (Nat.le_of_ble_eq_true rfl) dX6_page_47 ⟨Nat.le_of_ble_eq_true rfl, Nat.le_of_ble_eq_true rfl⟩ (fun z_164 I_166 F_167 H locs hq_165 hP hD hS => ?_)
            try dsimp only at hq_165
            obtain ⟨rfl, rfl, rfl⟩ := hq_165
            refine ki_if_eq (tgt := 55) hx hb dX6_page_50 (by decide) (by omega) (by omega) (fun c_168 => ?_) (fun c_168 => ?_)
            · omega
            · skip
              refine lv_iconst (v := iz 0) hx hb dX6_page_53 (by decide) ?_
              exact mk_ireti hx hb hr hlocks hP hD hK hS dX6_page_54 (Or.inr (Or.inl ⟨by omega, rfl, rfl, by omega⟩))
          · omega
        · skip
          refine ki_if_ne (tgt := 46) hx hb dX6_page_29 (by decide) (by omega) (by omega) (fun c_169 => ?_) (fun c_169 => ?_)
          · omega
          · skip
            refine lv_aload_n hx hb dX6_page_32 rfl (lv_at hl 0 rfl) ?_
            refine lv_iload_n hx hb dX6_page_33 rfl (lv_at hl 1 rfl) ?_
            refine mk_calli (As := [.int (iz p0)]) (rest := [.int (iz 1), .int (iz 0), .ref mo]) ⟨hx, hb, hml, hown, hts⟩ (k_toldOf l dC dI mo ma cs I F p0 H.size hB (by omega)) (cwV 1 hts (kx_gV kq_04_msmall_27 kq_04_msmall_28 kq_04_msmall_29 kq_04_msmall_6 kq_04_msmall_30 rfl) rfl rfl rfl (by decide +kernel) ⟨Nat.le_of_ble_eq_true rfl, Nat.le_of_ble_eq_true rfl⟩) hP hD hK hG hZ hS hA rfl hl.1 rfl (Nat.le_of_ble_eq_true rfl) dX6_page_34 ⟨Nat.le_of_ble_eq_true rfl, Nat.le_of_ble_eq_true rfl⟩ (fun z_170 I_172 F_173 H locs hq_171 hP hD hS => ?_)
            try dsimp only at hq_171
            obtain ⟨rfl, rfl, hq_171⟩ := hq_171
            refine lv_bipush (v := iz 20) hx hb dX6_page_37 (by decide) ?_
            refine ki_icmp_ne (tgt := 46) hx hb dX6_page_39 (by decide) (by omega) (by omega) (by omega) (by omega) (fun c_174 => ?_) (fun c_174 => ?_)
            · skip
              refine lv_iconst (v := iz 0) hx hb dX6_page_46 (by decide) ?_
              refine mk_calli (As := [.int (iz 0), .int (iz 1), .int (iz 0)]) (rest := []) ⟨hx, hb, hml, hown, hts⟩ (k_refused2 l dC dI mo ma cs I F 0 H.size (by omega) (by omega)) (cwV 3 hts (kx_gV kq_04_msmall_8 kq_04_msmall_9 kq_04_msmall_10 kq_04_msmall_6 kq_04_msmall_11 rfl) rfl rfl rfl (by decide +kernel) ⟨Nat.le_of_ble_eq_true rfl, Nat.le_of_ble_eq_true rfl⟩) hP hD hK hG hZ hS hA rfl hl.1 rfl (Nat.le_of_ble_eq_true rfl) dX6_page_47 ⟨Nat.le_of_ble_eq_true rfl, Nat.le_of_ble_eq_true rfl⟩ (fun z_175 I_177 F_178 H locs hq_176 hP hD hS => ?_)
              try dsimp only at hq_176
              obtain ⟨rfl, rfl, rfl⟩ := hq_176
              refine ki_if_eq (tgt := 55) hx hb dX6_page_50 (by decide) (by omega) (by omega) (fun c_179 => ?_) (fun c_179 => ?_)
              · omega
              · skip
                refine lv_iconst (v := iz 0) hx hb dX6_page_53 (by decide) ?_
                exact mk_ireti hx hb hr hlocks hP hD hK hS dX6_page_54 (Or.inr (Or.inl ⟨by omega, rfl, rfl, by omega⟩))
            · skip
              refine lv_iconst (v := iz 1) hx hb dX6_page_42 (by decide) ?_
              refine lv_goto (tgt := 47) hx hb dX6_page_43 (by decide) ?_
              refine mk_calli (As := [.int (iz 0), .int (iz 1), .int (iz 1)]) (rest := []) ⟨hx, hb, hml, hown, hts⟩ (k_refused2 l dC dI mo ma cs I F 1 H.size (by omega) (by omega)) (cwV 3 hts (kx_gV kq_04_msmall_8 kq_04_msmall_9 kq_04_msmall_10 kq_04_msmall_6 kq_04_msmall_11 rfl) rfl rfl rfl (by decide +kernel) ⟨Nat.le_of_ble_eq_true rfl, Nat.le_of_ble_eq_true rfl⟩) hP hD hK hG hZ hS hA rfl hl.1 rfl (Nat.le_of_ble_eq_true rfl) dX6_page_47 ⟨Nat.le_of_ble_eq_true rfl, Nat.le_of_ble_eq_true rfl⟩ (fun z_180 I_182 F_183 H locs hq_181 hP hD hS => ?_)
              try dsimp only at hq_181
              obtain ⟨rfl, rfl, rfl⟩ := hq_181
              refine ki_if_eq (tgt := 55) hx hb dX6_page_50 (by decide) (by omega) (by omega) (fun c_184 => ?_) (fun c_184 => ?_)
              · omega
              · skip
                refine lv_iconst (v := iz 0) hx hb dX6_page_53 (by decide) ?_
                exact mk_ireti hx hb hr hlocks hP hD hK hS dX6_page_54 (Or.inr (Or.inl ⟨by omega, rfl, rfl, by omega⟩))
set_option maxHeartbeats 4000000 in
set_option maxRecDepth 100000 in
/-- range -/
theorem k_range (l : Launch) (dC : Nat → ClassId) (dI : Nat → Nat → Nat) (mo : Nat) (ma : Nat → Nat) (cs : Nat → ClassId) (I : Nat → Int) (F : Nat → Int → Int) (p0 : Int) (p1 : Int) (en : Int) (sz : Nat) (hB : mB I F) (hc : 0 ≤ I 1 ∧ I 1 ≤ 64) (hln : ∀ e, 0 ≤ F 10 e ∧ 0 ≤ F 11 e ∧ F 11 e ≤ 99999 ∧ F 10 e + (if 0 < F 11 e then 1 else 0) ≤ 20) (hp01 : -2147483648 ≤ p0) (hp02 : p0 < 2147483648) (hp11 : -2147483648 ≤ p1) (hp12 : p1 < 2147483648) (hen1 : -2147483648 ≤ en) (hen2 : en < 2147483648) : mMi l yX6_range (.code yX6_range cX6_range 5 (some .int)) 1 26 dC dI mo ma cs I F [.ref mo, .int (iz p0), .int (iz p1), .int (iz en)] sz (fun (r : Int) (I' : Nat → Int) (F' : Nat → Int → Int) => (r = 0 ∧ F' = F ∧ I' = va_up I 0 1 ∧ (p0 < 0 ∨ I 1 ≤ p0)) ∨ (r = 0 ∧ F' = F ∧ I' = va_up I 0 2 ∧ (0 ≤ p0 ∧ p0 < I 1) ∧ (p1 < 1 ∨ 99999 < p1)) ∨ (r = 0 ∧ F' = F ∧ I' = va_up I 0 3 ∧ (0 ≤ p0 ∧ p0 < I 1) ∧ (1 ≤ p1 ∧ p1 ≤ 99999) ∧ en = 0 ∧ F 11 p0 = 0 ∧ F 10 p0 = 20) ∨ (r = 1 ∧ I' = va_up I 0 0 ∧ F' = va_up F 11 (upI (F 11) p0 p1) ∧ (0 ≤ p0 ∧ p0 < I 1) ∧ (1 ≤ p1 ∧ p1 ≤ 99999) ∧ en = 0 ∧ F 11 p0 = 0 ∧ ¬ F 10 p0 = 20) ∨ (r = 0 ∧ I' = va_up I 0 0 ∧ F' = F ∧ (0 ≤ p0 ∧ p0 < I 1) ∧ (1 ≤ p1 ∧ p1 ≤ 99999) ∧ ((en = 0 ∧ ¬ F 11 p0 = 0) ∨ (¬ en = 0 ∧ (F 11 p0 = 0 ∨ p1 < F 11 p0)))) ∨ (r = 1 ∧ I' = va_up I 0 0 ∧ F' = va_up (va_up (va_up (va_up (va_up (va_up F 6 (upI (F 6) (20 * p0 + F 10 p0) 1)) 7 (upI (F 7) (20 * p0 + F 10 p0) (F 11 p0))) 8 (upI (F 8) (20 * p0 + F 10 p0) p1)) 9 (upI (F 9) (20 * p0 + F 10 p0) (vp_nar .boolean (iz 1)).toInt)) 10 (upI (F 10) p0 (F 10 p0 + 1))) 11 (upI (F 11) p0 0) ∧ (0 ≤ p0 ∧ p0 < I 1) ∧ (1 ≤ p1 ∧ p1 ≤ 99999) ∧ ¬ en = 0 ∧ ¬ F 11 p0 = 0 ∧ F 11 p0 ≤ p1)) := by
  refine Met.ofW (cc := cX6_range) (maxL := 5) (ret := (some .int)) (by decide) rfl ?_
  intro p e s m args below meth c s₁ B hml hv
  obtain ⟨rfl, hsz, hP, hK, hD0, hG, hZ⟩ := hv
  have hx := B.exec
  have hb := B.bytes
  have hr := B.returns
  have hts := kx_hts (a := ([.ref mo, .int (iz p0), .int (iz p1), .int (iz en)] : List Value).toArray) hG
  have hown : s.vm.findClass RX6 = some m.cls := findClass_of_methodNamed B.named
  have hlocks := B.notSynchronized
  subst hsz
  have hD := hD0.self (sz := s.heap.size)
  generalize hAe : va_A (mW mo ma cs I F) s.heap.size = A at hD hZ ⊢
  have hA : ∀ q : Nat, s.heap.size ≤ q → A q := fun q h => by rw [← hAe]; exact Or.inr h
  have hS : va_S A s.heap s.heap [] := va_S.rf
  have hl := lv_entry ([.ref mo, .int (iz p0), .int (iz p1), .int (iz en)]) (n := 5) (Nat.le_of_ble_eq_true rfl)
  rw [lg_entry_eq]
  generalize (lg_sl ([.ref mo, .int (iz p0), .int (iz p1), .int (iz en)]) ++ List.replicate (5 - (lg_sl ([.ref mo, .int (iz p0), .int (iz p1), .int (iz en)])).length) Slot.unset).toArray = ls at hl ⊢
  have hl : lv_has ls 5 [(0, .ref mo), (1, .int (iz p0)), (2, .int (iz p1)), (3, .int (iz en))] := hl
  have hnp := hln p0
  refine lv_aload_n hx hb dX6_range_0 rfl (lv_at hl 0 rfl) ?_
  refine lv_iload_n hx hb dX6_range_1 rfl (lv_at hl 1 rfl) ?_
  refine mk_calli (As := [.int (iz p0)]) (rest := []) ⟨hx, hb, hml, hown, hts⟩ (k_isNone l dC dI mo ma cs I F p0 s.heap.size hB (by omega) (by omega)) (cwV 1 hts (kx_gV kq_04_msmall_3 kq_04_msmall_4 kq_04_msmall_5 kq_04_msmall_6 kq_04_msmall_7 rfl) rfl rfl rfl (by decide +kernel) ⟨Nat.le_of_ble_eq_true rfl, Nat.le_of_ble_eq_true rfl⟩) hP hD hK hG hZ hS hA rfl hl.1 rfl (Nat.le_of_ble_eq_true rfl) dX6_range_2 ⟨Nat.le_of_ble_eq_true rfl, Nat.le_of_ble_eq_true rfl⟩ (fun z_1 I_3 F_4 H locs hq_2 hP hD hS => ?_)
  try dsimp only at hq_2
  obtain ⟨rfl, rfl, hq_2⟩ := hq_2
  rcases hq_2 with ⟨rfl, hq_2⟩ | ⟨rfl, hq_2⟩
  · skip
    refine ki_if_ne (tgt := 25) hx hb dX6_range_5 (by decide) (by omega) (by omega) (fun c_5 => ?_) (fun c_5 => ?_)
    · skip
      refine lv_iconst (v := iz 0) hx hb dX6_range_25 (by decide) ?_
      refine lv_istore (lv' := [(4, .int (iz 0)), (0, .ref mo), (1, .int (iz p0)), (2, .int (iz p1)), (3, .int (iz en))]) hx hb dX6_range_26 hl (by decide) rfl (fun ls hl => ?_)
      refine lv_aload_n hx hb dX6_range_28 rfl (lv_at hl 1 rfl) ?_
      refine lv_aload_n hx hb dX6_range_29 rfl (lv_at hl 1 rfl) ?_
      refine lv_iload_n hx hb dX6_range_30 rfl (lv_at hl 2 rfl) ?_
      refine mk_calli (As := [.int (iz p0)]) (rest := [.ref mo]) ⟨hx, hb, hml, hown, hts⟩ (k_isNone l dC dI mo ma cs I F p0 H.size hB (by omega) (by omega)) (cwV 1 hts (kx_gV kq_04_msmall_3 kq_04_msmall_4 kq_04_msmall_5 kq_04_msmall_6 kq_04_msmall_7 rfl) rfl rfl rfl (by decide +kernel) ⟨Nat.le_of_ble_eq_true rfl, Nat.le_of_ble_eq_true rfl⟩) hP hD hK hG hZ hS hA rfl hl.1 rfl (Nat.le_of_ble_eq_true rfl) dX6_range_31 ⟨Nat.le_of_ble_eq_true rfl, Nat.le_of_ble_eq_true rfl⟩ (fun z_6 I_8 F_9 H locs hq_7 hP hD hS => ?_)
      try dsimp only at hq_7
      obtain ⟨rfl, rfl, hq_7⟩ := hq_7
      rcases hq_7 with ⟨rfl, hq_7⟩ | ⟨rfl, hq_7⟩
      · skip
        refine lv_iload_n hx hb dX6_range_34 rfl (lv_at hl 3 rfl) ?_
        refine lv_iconst (v := iz 1) hx hb dX6_range_35 (by decide) ?_
        refine ki_icmp_lt (tgt := 45) hx hb dX6_range_36 (by decide) (by omega) (by omega) (by omega) (by omega) (fun c_10 => ?_) (fun c_10 => ?_)
        · skip
          refine lv_iconst (v := iz 1) hx hb dX6_range_45 (by decide) ?_
          refine lv_goto (tgt := 50) hx hb dX6_range_46 (by decide) ?_
          refine lv_iload hx hb dX6_range_50 (lv_at hl 0 rfl) ?_
          refine ki_if_eq (tgt := 70) hx hb dX6_range_52 (by decide) (by omega) (by omega) (fun c_11 => ?_) (fun c_11 => ?_)
          · skip
            refine lv_iconst (v := iz 0) hx hb dX6_range_70 (by decide) ?_
            refine mk_calli (As := [.int (iz 1), .int (iz 1), .int (iz 0)]) (rest := []) ⟨hx, hb, hml, hown, hts⟩ (k_refused1 l dC dI mo ma cs I F 1 0 H.size (by omega) (by omega) (by omega) (by omega)) (cwV 3 hts (kx_gV kq_04_msmall_8 kq_04_msmall_9 kq_04_msmall_10 kq_04_msmall_6 kq_04_msmall_11 rfl) rfl rfl rfl (by decide +kernel) ⟨Nat.le_of_ble_eq_true rfl, Nat.le_of_ble_eq_true rfl⟩) hP hD hK hG hZ hS hA rfl hl.1 rfl (Nat.le_of_ble_eq_true rfl) dX6_range_71 ⟨Nat.le_of_ble_eq_true rfl, Nat.le_of_ble_eq_true rfl⟩ (fun z_12 I_14 F_15 H locs hq_13 hP hD hS => ?_)
            try dsimp only at hq_13
            obtain ⟨rfl, rfl, rfl⟩ := hq_13
            refine ki_if_eq (tgt := 79) hx hb dX6_range_74 (by decide) (by omega) (by omega) (fun c_16 => ?_) (fun c_16 => ?_)
            · omega
            · skip
              refine lv_iconst (v := iz 0) hx hb dX6_range_77 (by decide) ?_
              exact mk_ireti hx hb hr hlocks hP hD hK hS dX6_range_78 (Or.inl ⟨by omega, rfl, rfl, by omega⟩)
          · omega
        · skip
          refine lv_iload_n hx hb dX6_range_39 rfl (lv_at hl 3 rfl) ?_
          refine lv_ldc (v := 99999) hx hb hown (kx_word hG kq_04_msmall_2 rfl) dX6_range_40 ?_
          refine ki_is (show (99999 : Int32) = iz 99999 by decide) ?_
          refine ki_icmp_le (tgt := 49) hx hb dX6_range_42 (by decide) (by omega) (by omega) (by omega) (by omega) (fun c_17 => ?_) (fun c_17 => ?_)
          · skip
            refine lv_iconst (v := iz 0) hx hb dX6_range_49 (by decide) ?_
            refine lv_iload hx hb dX6_range_50 (lv_at hl 0 rfl) ?_
            refine ki_if_eq (tgt := 70) hx hb dX6_range_52 (by decide) (by omega) (by omega) (fun c_18 => ?_) (fun c_18 => ?_)
            · skip
              refine lv_iconst (v := iz 0) hx hb dX6_range_70 (by decide) ?_
              refine mk_calli (As := [.int (iz 1), .int (iz 0), .int (iz 0)]) (rest := []) ⟨hx, hb, hml, hown, hts⟩ (k_refused1 l dC dI mo ma cs I F 0 0 H.size (by omega) (by omega) (by omega) (by omega)) (cwV 3 hts (kx_gV kq_04_msmall_8 kq_04_msmall_9 kq_04_msmall_10 kq_04_msmall_6 kq_04_msmall_11 rfl) rfl rfl rfl (by decide +kernel) ⟨Nat.le_of_ble_eq_true rfl, Nat.le_of_ble_eq_true rfl⟩) hP hD hK hG hZ hS hA rfl hl.1 rfl (Nat.le_of_ble_eq_true rfl) dX6_range_71 ⟨Nat.le_of_ble_eq_true rfl, Nat.le_of_ble_eq_true rfl⟩ (fun z_19 I_21 F_22 H locs hq_20 hP hD hS => ?_)
              try dsimp only at hq_20
              obtain ⟨rfl, rfl, rfl⟩ := hq_20
              refine ki_if_eq (tgt := 79) hx hb dX6_range_74 (by decide) (by omega) (by omega) (fun c_23 => ?_) (fun c_23 => ?_)
              · omega
              · skip
                refine lv_iconst (v := iz 0) hx hb dX6_range_77 (by decide) ?_
                exact mk_ireti hx hb hr hlocks hP hD hK hS dX6_range_78 (Or.inl ⟨by omega, rfl, rfl, by omega⟩)
            · omega
          · skip
            refine lv_iconst (v := iz 1) hx hb dX6_range_45 (by decide) ?_
            refine lv_goto (tgt := 50) hx hb dX6_range_46 (by decide) ?_
            refine lv_iload hx hb dX6_range_50 (lv_at hl 0 rfl) ?_
            refine ki_if_eq (tgt := 70) hx hb dX6_range_52 (by decide) (by omega) (by omega) (fun c_24 => ?_) (fun c_24 => ?_)
            · skip
              refine lv_iconst (v := iz 0) hx hb dX6_range_70 (by decide) ?_
              refine mk_calli (As := [.int (iz 1), .int (iz 1), .int (iz 0)]) (rest := []) ⟨hx, hb, hml, hown, hts⟩ (k_refused1 l dC dI mo ma cs I F 1 0 H.size (by omega) (by omega) (by omega) (by omega)) (cwV 3 hts (kx_gV kq_04_msmall_8 kq_04_msmall_9 kq_04_msmall_10 kq_04_msmall_6 kq_04_msmall_11 rfl) rfl rfl rfl (by decide +kernel) ⟨Nat.le_of_ble_eq_true rfl, Nat.le_of_ble_eq_true rfl⟩) hP hD hK hG hZ hS hA rfl hl.1 rfl (Nat.le_of_ble_eq_true rfl) dX6_range_71 ⟨Nat.le_of_ble_eq_true rfl, Nat.le_of_ble_eq_true rfl⟩ (fun z_25 I_27 F_28 H locs hq_26 hP hD hS => ?_)
              try dsimp only at hq_26
              obtain ⟨rfl, rfl, rfl⟩ := hq_26
              refine ki_if_eq (tgt := 79) hx hb dX6_range_74 (by decide) (by omega) (by omega) (fun c_29 => ?_) (fun c_29 => ?_)
              · omega
              · skip
                refine lv_iconst (v := iz 0) hx hb dX6_range_77 (by decide) ?_
                exact mk_ireti hx hb hr hlocks hP hD hK hS dX6_range_78 (Or.inl ⟨by omega, rfl, rfl, by omega⟩)
            · omega
      · skip
        refine lv_iload_n hx hb dX6_range_34 rfl (lv_at hl 3 rfl) ?_
        refine lv_iconst (v := iz 1) hx hb dX6_range_35 (by decide) ?_
        refine ki_icmp_lt (tgt := 45) hx hb dX6_range_36 (by decide) (by omega) (by omega) (by omega) (by omega) (fun c_30 => ?_) (fun c_30 => ?_)
        · skip
          refine lv_iconst (v := iz 1) hx hb dX6_range_45 (by decide) ?_
          refine lv_goto (tgt := 50) hx hb dX6_range_46 (by decide) ?_
          refine lv_iload hx hb dX6_range_50 (lv_at hl 0 rfl) ?_
          refine ki_if_eq (tgt := 70) hx hb dX6_range_52 (by decide) (by omega) (by omega) (fun c_31 => ?_) (fun c_31 => ?_)
          · skip
            refine lv_iconst (v := iz 0) hx hb dX6_range_70 (by decide) ?_
            refine mk_calli (As := [.int (iz 0), .int (iz 1), .int (iz 0)]) (rest := []) ⟨hx, hb, hml, hown, hts⟩ (k_refused2 l dC dI mo ma cs I F 0 H.size (by omega) (by omega)) (cwV 3 hts (kx_gV kq_04_msmall_8 kq_04_msmall_9 kq_04_msmall_10 kq_04_msmall_6 kq_04_msmall_11 rfl) rfl rfl rfl (by decide +kernel) ⟨Nat.le_of_ble_eq_true rfl, Nat.le_of_ble_eq_true rfl⟩) hP hD hK hG hZ hS hA rfl hl.1 rfl (Nat.le_of_ble_eq_true rfl) dX6_range_71 ⟨Nat.le_of_ble_eq_true rfl, Nat.le_of_ble_eq_true rfl⟩ (fun z_32 I_34 F_35 H locs hq_33 hP hD hS => ?_)
            try dsimp only at hq_33
            obtain ⟨rfl, rfl, rfl⟩ := hq_33
            refine ki_if_eq (tgt := 79) hx hb dX6_range_74 (by decide) (by omega) (by omega) (fun c_36 => ?_) (fun c_36 => ?_)
            · omega
            · skip
              refine lv_iconst (v := iz 0) hx hb dX6_range_77 (by decide) ?_
              exact mk_ireti hx hb hr hlocks hP hD hK hS dX6_range_78 (Or.inr (Or.inl ⟨by omega, rfl, rfl, by omega, by omega⟩))
          · omega
        · skip
          refine lv_iload_n hx hb dX6_range_39 rfl (lv_at hl 3 rfl) ?_
          refine lv_ldc (v := 99999) hx hb hown (kx_word hG kq_04_msmall_2 rfl) dX6_range_40 ?_
          refine ki_is (show (99999 : Int32) = iz 99999 by decide) ?_
          refine ki_icmp_le (tgt := 49) hx hb dX6_range_42 (by decide) (by omega) (by omega) (by omega) (by omega) (fun c_37 => ?_) (fun c_37 => ?_)
          · skip
            refine lv_iconst (v := iz 0) hx hb dX6_range_49 (by decide) ?_
            refine lv_iload hx hb dX6_range_50 (lv_at hl 0 rfl) ?_
            refine ki_if_eq (tgt := 70) hx hb dX6_range_52 (by decide) (by omega) (by omega) (fun c_38 => ?_) (fun c_38 => ?_)
            · skip
              refine lv_iconst (v := iz 0) hx hb dX6_range_70 (by decide) ?_
              refine mk_calli (As := [.int (iz 0), .int (iz 0), .int (iz 0)]) (rest := []) ⟨hx, hb, hml, hown, hts⟩ (k_refused0 l dC dI mo ma cs I F  H.size ) (cwV 3 hts (kx_gV kq_04_msmall_8 kq_04_msmall_9 kq_04_msmall_10 kq_04_msmall_6 kq_04_msmall_11 rfl) rfl rfl rfl (by decide +kernel) ⟨Nat.le_of_ble_eq_true rfl, Nat.le_of_ble_eq_true rfl⟩) hP hD hK hG hZ hS hA rfl hl.1 rfl (Nat.le_of_ble_eq_true rfl) dX6_range_71 ⟨Nat.le_of_ble_eq_true rfl, Nat.le_of_ble_eq_true rfl⟩ (fun z_39 I_41 F_42 H locs hq_40 hP hD hS => ?_)
              try dsimp only at hq_40
              obtain ⟨rfl, rfl, rfl⟩ := hq_40
              refine ki_if_eq (tgt := 79) hx hb dX6_range_74 (by decide) (by omega) (by omega) (fun c_43 => ?_) (fun c_43 => ?_)
              · skip
                refine lv_iload hx hb dX6_range_79 (lv_at hl 0 rfl) ?_
                refine ki_if_eq (tgt := 93) hx hb dX6_range_81 (by decide) (by omega) (by omega) (fun c_44 => ?_) (fun c_44 => ?_)
                · skip
                  refine lv_iload_n hx hb dX6_range_93 rfl (lv_at hl 4 rfl) ?_
                  refine ki_if_eq (tgt := 116) hx hb dX6_range_94 (by decide) (by omega) (by omega) (fun c_45 => ?_) (fun c_45 => ?_)
                  · skip
                    refine lv_iconst (v := iz 0) hx hb dX6_range_116 (by decide) ?_
                    exact mk_ireti hx hb hr hlocks hP hD hK hS dX6_range_117 (Or.inr (Or.inr (Or.inr (Or.inr (Or.inl ⟨by omega, rfl, rfl, by omega, by omega, by omega⟩)))))
                  · skip
                    refine lv_aload_n hx hb dX6_range_97 rfl (lv_at hl 1 rfl) ?_
                    refine va_get (D := (dC, dI)) (ci := 6) (v := .ref (ma 11)) (C := RX6) (T := TX6) (N := 44) hx hb hts kt_X6 hown hK hP 0 rfl rfl 11 (by decide) (kx_word hG kq_04_msmall_21 rfl) (fun _ h9 => h9) rfl dX6_range_98 ?_
                    refine lv_iload_n hx hb dX6_range_101 rfl (lv_at hl 2 rfl) ?_
                    refine ki_iald (F := F 11) hx hb hK hP 10 9 rfl rfl (by omega) (by omega) (by decide) dX6_range_102 ?_
                    have hbd_46 := hB.2 11 p0
                    refine ki_if_eq (tgt := 116) hx hb dX6_range_103 (by decide) (by omega) (by omega) (fun c_47 => ?_) (fun c_47 => ?_)
                    · skip
                      refine lv_iconst (v := iz 0) hx hb dX6_range_116 (by decide) ?_
                      exact mk_ireti hx hb hr hlocks hP hD hK hS dX6_range_117 (Or.inr (Or.inr (Or.inr (Or.inr (Or.inl ⟨by omega, rfl, rfl, by omega, by omega, by omega⟩)))))
                    · skip
                      refine lv_iload_n hx hb dX6_range_106 rfl (lv_at hl 3 rfl) ?_
                      refine lv_aload_n hx hb dX6_range_107 rfl (lv_at hl 1 rfl) ?_
                      refine va_get (D := (dC, dI)) (ci := 6) (v := .ref (ma 11)) (C := RX6) (T := TX6) (N := 44) hx hb hts kt_X6 hown hK hP 0 rfl rfl 11 (by decide) (kx_word hG kq_04_msmall_21 rfl) (fun _ h9 => h9) rfl dX6_range_108 ?_
                      refine lv_iload_n hx hb dX6_range_111 rfl (lv_at hl 2 rfl) ?_
                      refine ki_iald (F := F 11) hx hb hK hP 10 9 rfl rfl (by omega) (by omega) (by decide) dX6_range_112 ?_
                      refine ki_icmp_ge (tgt := 118) hx hb dX6_range_113 (by decide) (by omega) (by omega) (by omega) (by omega) (fun c_48 => ?_) (fun c_48 => ?_)
                      · skip
                        refine lv_aload_n hx hb dX6_range_118 rfl (lv_at hl 1 rfl) ?_
                        refine lv_iload_n hx hb dX6_range_119 rfl (lv_at hl 2 rfl) ?_
                        refine lv_iconst (v := iz 1) hx hb dX6_range_120 (by decide) ?_
                        refine lv_aload_n hx hb dX6_range_121 rfl (lv_at hl 1 rfl) ?_
                        refine va_get (D := (dC, dI)) (ci := 6) (v := .ref (ma 11)) (C := RX6) (T := TX6) (N := 44) hx hb hts kt_X6 hown hK hP 0 rfl rfl 11 (by decide) (kx_word hG kq_04_msmall_21 rfl) (fun _ h9 => h9) rfl dX6_range_122 ?_
                        refine lv_iload_n hx hb dX6_range_125 rfl (lv_at hl 2 rfl) ?_
                        refine ki_iald (F := F 11) hx hb hK hP 10 9 rfl rfl (by omega) (by omega) (by decide) dX6_range_126 ?_
                        refine lv_iload_n hx hb dX6_range_127 rfl (lv_at hl 3 rfl) ?_
                        refine lv_iconst (v := iz 1) hx hb dX6_range_128 (by decide) ?_
                        refine mk_callv (As := [.int (iz p0), .int (iz 1), .int (iz (F 11 p0)), .int (iz p1), .int (iz 1)]) (rest := []) ⟨hx, hb, hml, hown, hts⟩ (k_keep l dC dI mo ma cs (va_up I 0 0) F p0 1 (F 11 p0) p1 1 H.size (mB_i hB 0 (by omega) (by omega)) (by omega) (by split at hnp <;> omega)) (cwV 5 hts (kx_gV kq_04_msmall_34 kq_04_msmall_35 kq_04_msmall_36 kq_04_msmall_6 kq_04_msmall_37 rfl) rfl rfl rfl (by decide +kernel) ⟨Nat.le_of_ble_eq_true rfl, Nat.le_of_ble_eq_true rfl⟩) hP hD hK hG hZ hS hA rfl hl.1 rfl (Nat.le_of_ble_eq_true rfl) dX6_range_129 ⟨Nat.le_of_ble_eq_true rfl, Nat.le_of_ble_eq_true rfl⟩ (fun I_51 F_52 H locs hq_50 hP hD hS => ?_)
                        try dsimp only at hq_50
                        obtain ⟨rfl, rfl⟩ := hq_50
                        refine lv_aload_n hx hb dX6_range_132 rfl (lv_at hl 1 rfl) ?_
                        refine va_get (D := (dC, dI)) (ci := 6) (v := .ref (ma 11)) (C := RX6) (T := TX6) (N := 44) hx hb hts kt_X6 hown hK hP 0 rfl rfl 11 (by decide) (kx_word hG kq_04_msmall_21 rfl) (fun _ h9 => h9) rfl dX6_range_133 ?_
                        refine lv_iload_n hx hb dX6_range_136 rfl (lv_at hl 2 rfl) ?_
                        refine lv_iconst (v := iz 0) hx hb dX6_range_137 (by decide) ?_
                        refine ki_iast (F := F 11) hx hb hK hP hD hS 10 9 rfl rfl (by omega) (by omega) (by decide) dX6_range_138 (fun H locs hP hD hS => ?_)
                        have hP : va_P (dC, dI) kxCl (mW mo ma cs (va_up I 0 0) (va_up (va_up (va_up (va_up (va_up (va_up F 6 (upI (F 6) (20 * p0 + F 10 p0) 1)) 7 (upI (F 7) (20 * p0 + F 10 p0) (F 11 p0))) 8 (upI (F 8) (20 * p0 + F 10 p0) p1)) 9 (upI (F 9) (20 * p0 + F 10 p0) (vp_nar .boolean (iz 1)).toInt)) 10 (upI (F 10) p0 (F 10 p0 + 1))) 11 (upI (F 11) p0 0))) H := hP
                        have hD : va_D A (mW mo ma cs (va_up I 0 0) (va_up (va_up (va_up (va_up (va_up (va_up F 6 (upI (F 6) (20 * p0 + F 10 p0) 1)) 7 (upI (F 7) (20 * p0 + F 10 p0) (F 11 p0))) 8 (upI (F 8) (20 * p0 + F 10 p0) p1)) 9 (upI (F 9) (20 * p0 + F 10 p0) (vp_nar .boolean (iz 1)).toInt)) 10 (upI (F 10) p0 (F 10 p0 + 1))) 11 (upI (F 11) p0 0))) := hD
                        refine lv_iconst (v := iz 1) hx hb dX6_range_139 (by decide) ?_
                        exact mk_ireti hx hb hr hlocks hP hD hK hS dX6_range_140 (Or.inr (Or.inr (Or.inr (Or.inr (Or.inr (⟨by omega, rfl, rfl, by omega, by omega, by omega, by omega, by omega⟩))))))
                      · skip
                        refine lv_iconst (v := iz 0) hx hb dX6_range_116 (by decide) ?_
                        exact mk_ireti hx hb hr hlocks hP hD hK hS dX6_range_117 (Or.inr (Or.inr (Or.inr (Or.inr (Or.inl ⟨by omega, rfl, rfl, by omega, by omega, by omega⟩)))))
                · omega
              · omega
            · omega
          · skip
            refine lv_iconst (v := iz 1) hx hb dX6_range_45 (by decide) ?_
            refine lv_goto (tgt := 50) hx hb dX6_range_46 (by decide) ?_
            refine lv_iload hx hb dX6_range_50 (lv_at hl 0 rfl) ?_
            refine ki_if_eq (tgt := 70) hx hb dX6_range_52 (by decide) (by omega) (by omega) (fun c_53 => ?_) (fun c_53 => ?_)
            · skip
              refine lv_iconst (v := iz 0) hx hb dX6_range_70 (by decide) ?_
              refine mk_calli (As := [.int (iz 0), .int (iz 1), .int (iz 0)]) (rest := []) ⟨hx, hb, hml, hown, hts⟩ (k_refused2 l dC dI mo ma cs I F 0 H.size (by omega) (by omega)) (cwV 3 hts (kx_gV kq_04_msmall_8 kq_04_msmall_9 kq_04_msmall_10 kq_04_msmall_6 kq_04_msmall_11 rfl) rfl rfl rfl (by decide +kernel) ⟨Nat.le_of_ble_eq_true rfl, Nat.le_of_ble_eq_true rfl⟩) hP hD hK hG hZ hS hA rfl hl.1 rfl (Nat.le_of_ble_eq_true rfl) dX6_range_71 ⟨Nat.le_of_ble_eq_true rfl, Nat.le_of_ble_eq_true rfl⟩ (fun z_54 I_56 F_57 H locs hq_55 hP hD hS => ?_)
              try dsimp only at hq_55
              obtain ⟨rfl, rfl, rfl⟩ := hq_55
              refine ki_if_eq (tgt := 79) hx hb dX6_range_74 (by decide) (by omega) (by omega) (fun c_58 => ?_) (fun c_58 => ?_)
              · omega
              · skip
                refine lv_iconst (v := iz 0) hx hb dX6_range_77 (by decide) ?_
                exact mk_ireti hx hb hr hlocks hP hD hK hS dX6_range_78 (Or.inr (Or.inl ⟨by omega, rfl, rfl, by omega, by omega⟩))
            · omega
    · omega
  · skip
    refine ki_if_ne (tgt := 25) hx hb dX6_range_5 (by decide) (by omega) (by omega) (fun c_59 => ?_) (fun c_59 => ?_)
    · omega
    · skip
      refine lv_iload_n hx hb dX6_range_8 rfl (lv_at hl 3 rfl) ?_
      refine ki_if_ne (tgt := 25) hx hb dX6_range_9 (by decide) (by omega) (by omega) (fun c_60 => ?_) (fun c_60 => ?_)
      · skip
        refine lv_iconst (v := iz 0) hx hb dX6_range_25 (by decide) ?_
        refine lv_istore (lv' := [(4, .int (iz 0)), (0, .ref mo), (1, .int (iz p0)), (2, .int (iz p1)), (3, .int (iz en))]) hx hb dX6_range_26 hl (by decide) rfl (fun ls hl => ?_)
        refine lv_aload_n hx hb dX6_range_28 rfl (lv_at hl 1 rfl) ?_
        refine lv_aload_n hx hb dX6_range_29 rfl (lv_at hl 1 rfl) ?_
        refine lv_iload_n hx hb dX6_range_30 rfl (lv_at hl 2 rfl) ?_
        refine mk_calli (As := [.int (iz p0)]) (rest := [.ref mo]) ⟨hx, hb, hml, hown, hts⟩ (k_isNone l dC dI mo ma cs I F p0 H.size hB (by omega) (by omega)) (cwV 1 hts (kx_gV kq_04_msmall_3 kq_04_msmall_4 kq_04_msmall_5 kq_04_msmall_6 kq_04_msmall_7 rfl) rfl rfl rfl (by decide +kernel) ⟨Nat.le_of_ble_eq_true rfl, Nat.le_of_ble_eq_true rfl⟩) hP hD hK hG hZ hS hA rfl hl.1 rfl (Nat.le_of_ble_eq_true rfl) dX6_range_31 ⟨Nat.le_of_ble_eq_true rfl, Nat.le_of_ble_eq_true rfl⟩ (fun z_61 I_63 F_64 H locs hq_62 hP hD hS => ?_)
        try dsimp only at hq_62
        obtain ⟨rfl, rfl, hq_62⟩ := hq_62
        rcases hq_62 with ⟨rfl, hq_62⟩ | ⟨rfl, hq_62⟩
        · skip
          refine lv_iload_n hx hb dX6_range_34 rfl (lv_at hl 3 rfl) ?_
          refine lv_iconst (v := iz 1) hx hb dX6_range_35 (by decide) ?_
          refine ki_icmp_lt (tgt := 45) hx hb dX6_range_36 (by decide) (by omega) (by omega) (by omega) (by omega) (fun c_65 => ?_) (fun c_65 => ?_)
          · skip
            refine lv_iconst (v := iz 1) hx hb dX6_range_45 (by decide) ?_
            refine lv_goto (tgt := 50) hx hb dX6_range_46 (by decide) ?_
            refine lv_iload hx hb dX6_range_50 (lv_at hl 0 rfl) ?_
            refine ki_if_eq (tgt := 70) hx hb dX6_range_52 (by decide) (by omega) (by omega) (fun c_66 => ?_) (fun c_66 => ?_)
            · skip
              refine lv_iconst (v := iz 0) hx hb dX6_range_70 (by decide) ?_
              refine mk_calli (As := [.int (iz 1), .int (iz 1), .int (iz 0)]) (rest := []) ⟨hx, hb, hml, hown, hts⟩ (k_refused1 l dC dI mo ma cs I F 1 0 H.size (by omega) (by omega) (by omega) (by omega)) (cwV 3 hts (kx_gV kq_04_msmall_8 kq_04_msmall_9 kq_04_msmall_10 kq_04_msmall_6 kq_04_msmall_11 rfl) rfl rfl rfl (by decide +kernel) ⟨Nat.le_of_ble_eq_true rfl, Nat.le_of_ble_eq_true rfl⟩) hP hD hK hG hZ hS hA rfl hl.1 rfl (Nat.le_of_ble_eq_true rfl) dX6_range_71 ⟨Nat.le_of_ble_eq_true rfl, Nat.le_of_ble_eq_true rfl⟩ (fun z_67 I_69 F_70 H locs hq_68 hP hD hS => ?_)
              try dsimp only at hq_68
              obtain ⟨rfl, rfl, rfl⟩ := hq_68
              refine ki_if_eq (tgt := 79) hx hb dX6_range_74 (by decide) (by omega) (by omega) (fun c_71 => ?_) (fun c_71 => ?_)
              · omega
              · skip
                refine lv_iconst (v := iz 0) hx hb dX6_range_77 (by decide) ?_
                exact mk_ireti hx hb hr hlocks hP hD hK hS dX6_range_78 (Or.inl ⟨by omega, rfl, rfl, by omega⟩)
            · omega
          · skip
            refine lv_iload_n hx hb dX6_range_39 rfl (lv_at hl 3 rfl) ?_
            refine lv_ldc (v := 99999) hx hb hown (kx_word hG kq_04_msmall_2 rfl) dX6_range_40 ?_
            refine ki_is (show (99999 : Int32) = iz 99999 by decide) ?_
            refine ki_icmp_le (tgt := 49) hx hb dX6_range_42 (by decide) (by omega) (by omega) (by omega) (by omega) (fun c_72 => ?_) (fun c_72 => ?_)
            · skip
              refine lv_iconst (v := iz 0) hx hb dX6_range_49 (by decide) ?_
              refine lv_iload hx hb dX6_range_50 (lv_at hl 0 rfl) ?_
              refine ki_if_eq (tgt := 70) hx hb dX6_range_52 (by decide) (by omega) (by omega) (fun c_73 => ?_) (fun c_73 => ?_)
              · skip
                refine lv_iconst (v := iz 0) hx hb dX6_range_70 (by decide) ?_
                refine mk_calli (As := [.int (iz 1), .int (iz 0), .int (iz 0)]) (rest := []) ⟨hx, hb, hml, hown, hts⟩ (k_refused1 l dC dI mo ma cs I F 0 0 H.size (by omega) (by omega) (by omega) (by omega)) (cwV 3 hts (kx_gV kq_04_msmall_8 kq_04_msmall_9 kq_04_msmall_10 kq_04_msmall_6 kq_04_msmall_11 rfl) rfl rfl rfl (by decide +kernel) ⟨Nat.le_of_ble_eq_true rfl, Nat.le_of_ble_eq_true rfl⟩) hP hD hK hG hZ hS hA rfl hl.1 rfl (Nat.le_of_ble_eq_true rfl) dX6_range_71 ⟨Nat.le_of_ble_eq_true rfl, Nat.le_of_ble_eq_true rfl⟩ (fun z_74 I_76 F_77 H locs hq_75 hP hD hS => ?_)
                try dsimp only at hq_75
                obtain ⟨rfl, rfl, rfl⟩ := hq_75
                refine ki_if_eq (tgt := 79) hx hb dX6_range_74 (by decide) (by omega) (by omega) (fun c_78 => ?_) (fun c_78 => ?_)
                · omega
                · skip
                  refine lv_iconst (v := iz 0) hx hb dX6_range_77 (by decide) ?_
                  exact mk_ireti hx hb hr hlocks hP hD hK hS dX6_range_78 (Or.inl ⟨by omega, rfl, rfl, by omega⟩)
              · omega
            · skip
              refine lv_iconst (v := iz 1) hx hb dX6_range_45 (by decide) ?_
              refine lv_goto (tgt := 50) hx hb dX6_range_46 (by decide) ?_
              refine lv_iload hx hb dX6_range_50 (lv_at hl 0 rfl) ?_
              refine ki_if_eq (tgt := 70) hx hb dX6_range_52 (by decide) (by omega) (by omega) (fun c_79 => ?_) (fun c_79 => ?_)
              · skip
                refine lv_iconst (v := iz 0) hx hb dX6_range_70 (by decide) ?_
                refine mk_calli (As := [.int (iz 1), .int (iz 1), .int (iz 0)]) (rest := []) ⟨hx, hb, hml, hown, hts⟩ (k_refused1 l dC dI mo ma cs I F 1 0 H.size (by omega) (by omega) (by omega) (by omega)) (cwV 3 hts (kx_gV kq_04_msmall_8 kq_04_msmall_9 kq_04_msmall_10 kq_04_msmall_6 kq_04_msmall_11 rfl) rfl rfl rfl (by decide +kernel) ⟨Nat.le_of_ble_eq_true rfl, Nat.le_of_ble_eq_true rfl⟩) hP hD hK hG hZ hS hA rfl hl.1 rfl (Nat.le_of_ble_eq_true rfl) dX6_range_71 ⟨Nat.le_of_ble_eq_true rfl, Nat.le_of_ble_eq_true rfl⟩ (fun z_80 I_82 F_83 H locs hq_81 hP hD hS => ?_)
                try dsimp only at hq_81
                obtain ⟨rfl, rfl, rfl⟩ := hq_81
                refine ki_if_eq (tgt := 79) hx hb dX6_range_74 (by decide) (by omega) (by omega) (fun c_84 => ?_) (fun c_84 => ?_)
                · omega
                · skip
                  refine lv_iconst (v := iz 0) hx hb dX6_range_77 (by decide) ?_
                  exact mk_ireti hx hb hr hlocks hP hD hK hS dX6_range_78 (Or.inl ⟨by omega, rfl, rfl, by omega⟩)
              · omega
        · skip
          refine lv_iload_n hx hb dX6_range_34 rfl (lv_at hl 3 rfl) ?_
          refine lv_iconst (v := iz 1) hx hb dX6_range_35 (by decide) ?_
          refine ki_icmp_lt (tgt := 45) hx hb dX6_range_36 (by decide) (by omega) (by omega) (by omega) (by omega) (fun c_85 => ?_) (fun c_85 => ?_)
          · skip
            refine lv_iconst (v := iz 1) hx hb dX6_range_45 (by decide) ?_
            refine lv_goto (tgt := 50) hx hb dX6_range_46 (by decide) ?_
            refine lv_iload hx hb dX6_range_50 (lv_at hl 0 rfl) ?_
            refine ki_if_eq (tgt := 70) hx hb dX6_range_52 (by decide) (by omega) (by omega) (fun c_86 => ?_) (fun c_86 => ?_)
            · skip
              refine lv_iconst (v := iz 0) hx hb dX6_range_70 (by decide) ?_
              refine mk_calli (As := [.int (iz 0), .int (iz 1), .int (iz 0)]) (rest := []) ⟨hx, hb, hml, hown, hts⟩ (k_refused2 l dC dI mo ma cs I F 0 H.size (by omega) (by omega)) (cwV 3 hts (kx_gV kq_04_msmall_8 kq_04_msmall_9 kq_04_msmall_10 kq_04_msmall_6 kq_04_msmall_11 rfl) rfl rfl rfl (by decide +kernel) ⟨Nat.le_of_ble_eq_true rfl, Nat.le_of_ble_eq_true rfl⟩) hP hD hK hG hZ hS hA rfl hl.1 rfl (Nat.le_of_ble_eq_true rfl) dX6_range_71 ⟨Nat.le_of_ble_eq_true rfl, Nat.le_of_ble_eq_true rfl⟩ (fun z_87 I_89 F_90 H locs hq_88 hP hD hS => ?_)
              try dsimp only at hq_88
              obtain ⟨rfl, rfl, rfl⟩ := hq_88
              refine ki_if_eq (tgt := 79) hx hb dX6_range_74 (by decide) (by omega) (by omega) (fun c_91 => ?_) (fun c_91 => ?_)
              · omega
              · skip
                refine lv_iconst (v := iz 0) hx hb dX6_range_77 (by decide) ?_
                exact mk_ireti hx hb hr hlocks hP hD hK hS dX6_range_78 (Or.inr (Or.inl ⟨by omega, rfl, rfl, by omega, by omega⟩))
            · omega
          · skip
            refine lv_iload_n hx hb dX6_range_39 rfl (lv_at hl 3 rfl) ?_
            refine lv_ldc (v := 99999) hx hb hown (kx_word hG kq_04_msmall_2 rfl) dX6_range_40 ?_
            refine ki_is (show (99999 : Int32) = iz 99999 by decide) ?_
            refine ki_icmp_le (tgt := 49) hx hb dX6_range_42 (by decide) (by omega) (by omega) (by omega) (by omega) (fun c_92 => ?_) (fun c_92 => ?_)
            · skip
              refine lv_iconst (v := iz 0) hx hb dX6_range_49 (by decide) ?_
              refine lv_iload hx hb dX6_range_50 (lv_at hl 0 rfl) ?_
              refine ki_if_eq (tgt := 70) hx hb dX6_range_52 (by decide) (by omega) (by omega) (fun c_93 => ?_) (fun c_93 => ?_)
              · skip
                refine lv_iconst (v := iz 0) hx hb dX6_range_70 (by decide) ?_
                refine mk_calli (As := [.int (iz 0), .int (iz 0), .int (iz 0)]) (rest := []) ⟨hx, hb, hml, hown, hts⟩ (k_refused0 l dC dI mo ma cs I F  H.size ) (cwV 3 hts (kx_gV kq_04_msmall_8 kq_04_msmall_9 kq_04_msmall_10 kq_04_msmall_6 kq_04_msmall_11 rfl) rfl rfl rfl (by decide +kernel) ⟨Nat.le_of_ble_eq_true rfl, Nat.le_of_ble_eq_true rfl⟩) hP hD hK hG hZ hS hA rfl hl.1 rfl (Nat.le_of_ble_eq_true rfl) dX6_range_71 ⟨Nat.le_of_ble_eq_true rfl, Nat.le_of_ble_eq_true rfl⟩ (fun z_94 I_96 F_97 H locs hq_95 hP hD hS => ?_)
                try dsimp only at hq_95
                obtain ⟨rfl, rfl, rfl⟩ := hq_95
                refine ki_if_eq (tgt := 79) hx hb dX6_range_74 (by decide) (by omega) (by omega) (fun c_98 => ?_) (fun c_98 => ?_)
                · skip
                  refine lv_iload hx hb dX6_range_79 (lv_at hl 0 rfl) ?_
                  refine ki_if_eq (tgt := 93) hx hb dX6_range_81 (by decide) (by omega) (by omega) (fun c_99 => ?_) (fun c_99 => ?_)
                  · skip
                    refine lv_iload_n hx hb dX6_range_93 rfl (lv_at hl 4 rfl) ?_
                    refine ki_if_eq (tgt := 116) hx hb dX6_range_94 (by decide) (by omega) (by omega) (fun c_100 => ?_) (fun c_100 => ?_)
                    · omega
                    · skip
                      refine lv_aload_n hx hb dX6_range_97 rfl (lv_at hl 1 rfl) ?_
                      refine va_get (D := (dC, dI)) (ci := 6) (v := .ref (ma 11)) (C := RX6) (T := TX6) (N := 44) hx hb hts kt_X6 hown hK hP 0 rfl rfl 11 (by decide) (kx_word hG kq_04_msmall_21 rfl) (fun _ h9 => h9) rfl dX6_range_98 ?_
                      refine lv_iload_n hx hb dX6_range_101 rfl (lv_at hl 2 rfl) ?_
                      refine ki_iald (F := F 11) hx hb hK hP 10 9 rfl rfl (by omega) (by omega) (by decide) dX6_range_102 ?_
                      have hbd_101 := hB.2 11 p0
                      refine ki_if_eq (tgt := 116) hx hb dX6_range_103 (by decide) (by omega) (by omega) (fun c_102 => ?_) (fun c_102 => ?_)
                      · skip
                        refine lv_iconst (v := iz 0) hx hb dX6_range_116 (by decide) ?_
                        exact mk_ireti hx hb hr hlocks hP hD hK hS dX6_range_117 (Or.inr (Or.inr (Or.inr (Or.inr (Or.inl ⟨by omega, rfl, rfl, by omega, by omega, by omega⟩)))))
                      · skip
                        refine lv_iload_n hx hb dX6_range_106 rfl (lv_at hl 3 rfl) ?_
                        refine lv_aload_n hx hb dX6_range_107 rfl (lv_at hl 1 rfl) ?_
                        refine va_get (D := (dC, dI)) (ci := 6) (v := .ref (ma 11)) (C := RX6) (T := TX6) (N := 44) hx hb hts kt_X6 hown hK hP 0 rfl rfl 11 (by decide) (kx_word hG kq_04_msmall_21 rfl) (fun _ h9 => h9) rfl dX6_range_108 ?_
                        refine lv_iload_n hx hb dX6_range_111 rfl (lv_at hl 2 rfl) ?_
                        refine ki_iald (F := F 11) hx hb hK hP 10 9 rfl rfl (by omega) (by omega) (by decide) dX6_range_112 ?_
                        refine ki_icmp_ge (tgt := 118) hx hb dX6_range_113 (by decide) (by omega) (by omega) (by omega) (by omega) (fun c_103 => ?_) (fun c_103 => ?_)
                        · skip
                          refine lv_aload_n hx hb dX6_range_118 rfl (lv_at hl 1 rfl) ?_
                          refine lv_iload_n hx hb dX6_range_119 rfl (lv_at hl 2 rfl) ?_
                          refine lv_iconst (v := iz 1) hx hb dX6_range_120 (by decide) ?_
                          refine lv_aload_n hx hb dX6_range_121 rfl (lv_at hl 1 rfl) ?_
                          refine va_get (D := (dC, dI)) (ci := 6) (v := .ref (ma 11)) (C := RX6) (T := TX6) (N := 44) hx hb hts kt_X6 hown hK hP 0 rfl rfl 11 (by decide) (kx_word hG kq_04_msmall_21 rfl) (fun _ h9 => h9) rfl dX6_range_122 ?_
                          refine lv_iload_n hx hb dX6_range_125 rfl (lv_at hl 2 rfl) ?_
                          refine ki_iald (F := F 11) hx hb hK hP 10 9 rfl rfl (by omega) (by omega) (by decide) dX6_range_126 ?_
                          refine lv_iload_n hx hb dX6_range_127 rfl (lv_at hl 3 rfl) ?_
                          refine lv_iconst (v := iz 1) hx hb dX6_range_128 (by decide) ?_
                          refine mk_callv (As := [.int (iz p0), .int (iz 1), .int (iz (F 11 p0)), .int (iz p1), .int (iz 1)]) (rest := []) ⟨hx, hb, hml, hown, hts⟩ (k_keep l dC dI mo ma cs (va_up I 0 0) F p0 1 (F 11 p0) p1 1 H.size (mB_i hB 0 (by omega) (by omega)) (by omega) (by split at hnp <;> omega)) (cwV 5 hts (kx_gV kq_04_msmall_34 kq_04_msmall_35 kq_04_msmall_36 kq_04_msmall_6 kq_04_msmall_37 rfl) rfl rfl rfl (by decide +kernel) ⟨Nat.le_of_ble_eq_true rfl, Nat.le_of_ble_eq_true rfl⟩) hP hD hK hG hZ hS hA rfl hl.1 rfl (Nat.le_of_ble_eq_true rfl) dX6_range_129 ⟨Nat.le_of_ble_eq_true rfl, Nat.le_of_ble_eq_true rfl⟩ (fun I_106 F_107 H locs hq_105 hP hD hS => ?_)
                          try dsimp only at hq_105
                          obtain ⟨rfl, rfl⟩ := hq_105
                          refine lv_aload_n hx hb dX6_range_132 rfl (lv_at hl 1 rfl) ?_
                          refine va_get (D := (dC, dI)) (ci := 6) (v := .ref (ma 11)) (C := RX6) (T := TX6) (N := 44) hx hb hts kt_X6 hown hK hP 0 rfl rfl 11 (by decide) (kx_word hG kq_04_msmall_21 rfl) (fun _ h9 => h9) rfl dX6_range_133 ?_
                          refine lv_iload_n hx hb dX6_range_136 rfl (lv_at hl 2 rfl) ?_
                          refine lv_iconst (v := iz 0) hx hb dX6_range_137 (by decide) ?_
                          refine ki_iast (F := F 11) hx hb hK hP hD hS 10 9 rfl rfl (by omega) (by omega) (by decide) dX6_range_138 (fun H locs hP hD hS => ?_)
                          have hP : va_P (dC, dI) kxCl (mW mo ma cs (va_up I 0 0) (va_up (va_up (va_up (va_up (va_up (va_up F 6 (upI (F 6) (20 * p0 + F 10 p0) 1)) 7 (upI (F 7) (20 * p0 + F 10 p0) (F 11 p0))) 8 (upI (F 8) (20 * p0 + F 10 p0) p1)) 9 (upI (F 9) (20 * p0 + F 10 p0) (vp_nar .boolean (iz 1)).toInt)) 10 (upI (F 10) p0 (F 10 p0 + 1))) 11 (upI (F 11) p0 0))) H := hP
                          have hD : va_D A (mW mo ma cs (va_up I 0 0) (va_up (va_up (va_up (va_up (va_up (va_up F 6 (upI (F 6) (20 * p0 + F 10 p0) 1)) 7 (upI (F 7) (20 * p0 + F 10 p0) (F 11 p0))) 8 (upI (F 8) (20 * p0 + F 10 p0) p1)) 9 (upI (F 9) (20 * p0 + F 10 p0) (vp_nar .boolean (iz 1)).toInt)) 10 (upI (F 10) p0 (F 10 p0 + 1))) 11 (upI (F 11) p0 0))) := hD
                          refine lv_iconst (v := iz 1) hx hb dX6_range_139 (by decide) ?_
                          exact mk_ireti hx hb hr hlocks hP hD hK hS dX6_range_140 (Or.inr (Or.inr (Or.inr (Or.inr (Or.inr (⟨by omega, rfl, rfl, by omega, by omega, by omega, by omega, by omega⟩))))))
                        · skip
                          refine lv_iconst (v := iz 0) hx hb dX6_range_116 (by decide) ?_
                          exact mk_ireti hx hb hr hlocks hP hD hK hS dX6_range_117 (Or.inr (Or.inr (Or.inr (Or.inr (Or.inl ⟨by omega, rfl, rfl, by omega, by omega, by omega⟩)))))
                  · omega
                · omega
              · omega
            · skip
              refine lv_iconst (v := iz 1) hx hb dX6_range_45 (by decide) ?_
              refine lv_goto (tgt := 50) hx hb dX6_range_46 (by decide) ?_
              refine lv_iload hx hb dX6_range_50 (lv_at hl 0 rfl) ?_
              refine ki_if_eq (tgt := 70) hx hb dX6_range_52 (by decide) (by omega) (by omega) (fun c_108 => ?_) (fun c_108 => ?_)
              · skip
                refine lv_iconst (v := iz 0) hx hb dX6_range_70 (by decide) ?_
                refine mk_calli (As := [.int (iz 0), .int (iz 1), .int (iz 0)]) (rest := []) ⟨hx, hb, hml, hown, hts⟩ (k_refused2 l dC dI mo ma cs I F 0 H.size (by omega) (by omega)) (cwV 3 hts (kx_gV kq_04_msmall_8 kq_04_msmall_9 kq_04_msmall_10 kq_04_msmall_6 kq_04_msmall_11 rfl) rfl rfl rfl (by decide +kernel) ⟨Nat.le_of_ble_eq_true rfl, Nat.le_of_ble_eq_true rfl⟩) hP hD hK hG hZ hS hA rfl hl.1 rfl (Nat.le_of_ble_eq_true rfl) dX6_range_71 ⟨Nat.le_of_ble_eq_true rfl, Nat.le_of_ble_eq_true rfl⟩ (fun z_109 I_111 F_112 H locs hq_110 hP hD hS => ?_)
                try dsimp only at hq_110
                obtain ⟨rfl, rfl, rfl⟩ := hq_110
                refine ki_if_eq (tgt := 79) hx hb dX6_range_74 (by decide) (by omega) (by omega) (fun c_113 => ?_) (fun c_113 => ?_)
                · omega
                · skip
                  refine lv_iconst (v := iz 0) hx hb dX6_range_77 (by decide) ?_
                  exact mk_ireti hx hb hr hlocks hP hD hK hS dX6_range_78 (Or.inr (Or.inl ⟨by omega, rfl, rfl, by omega, by omega⟩))
              · omega
      · skip
        refine lv_aload_n hx hb dX6_range_12 rfl (lv_at hl 0 rfl) ?_
        refine va_get (D := (dC, dI)) (ci := 6) (v := .ref (ma 11)) (C := RX6) (T := TX6) (N := 44) hx hb hts kt_X6 hown hK hP 0 rfl rfl 11 (by decide) (kx_word hG kq_04_msmall_21 rfl) (fun _ h9 => h9) rfl dX6_range_13 ?_
        refine lv_iload_n hx hb dX6_range_16 rfl (lv_at hl 1 rfl) ?_
        refine ki_iald (F := F 11) hx hb hK hP 10 9 rfl rfl (by omega) (by omega) (by decide) dX6_range_17 ?_
        have hbd_114 := hB.2 11 p0
        refine ki_if_ne (tgt := 25) hx hb dX6_range_18 (by decide) (by omega) (by omega) (fun c_115 => ?_) (fun c_115 => ?_)
        · skip
          refine lv_iconst (v := iz 0) hx hb dX6_range_25 (by decide) ?_
          refine lv_istore (lv' := [(4, .int (iz 0)), (0, .ref mo), (1, .int (iz p0)), (2, .int (iz p1)), (3, .int (iz en))]) hx hb dX6_range_26 hl (by decide) rfl (fun ls hl => ?_)
          refine lv_aload_n hx hb dX6_range_28 rfl (lv_at hl 1 rfl) ?_
          refine lv_aload_n hx hb dX6_range_29 rfl (lv_at hl 1 rfl) ?_
          refine lv_iload_n hx hb dX6_range_30 rfl (lv_at hl 2 rfl) ?_
          refine mk_calli (As := [.int (iz p0)]) (rest := [.ref mo]) ⟨hx, hb, hml, hown, hts⟩ (k_isNone l dC dI mo ma cs I F p0 H.size hB (by omega) (by omega)) (cwV 1 hts (kx_gV kq_04_msmall_3 kq_04_msmall_4 kq_04_msmall_5 kq_04_msmall_6 kq_04_msmall_7 rfl) rfl rfl rfl (by decide +kernel) ⟨Nat.le_of_ble_eq_true rfl, Nat.le_of_ble_eq_true rfl⟩) hP hD hK hG hZ hS hA rfl hl.1 rfl (Nat.le_of_ble_eq_true rfl) dX6_range_31 ⟨Nat.le_of_ble_eq_true rfl, Nat.le_of_ble_eq_true rfl⟩ (fun z_116 I_118 F_119 H locs hq_117 hP hD hS => ?_)
          try dsimp only at hq_117
          obtain ⟨rfl, rfl, hq_117⟩ := hq_117
          rcases hq_117 with ⟨rfl, hq_117⟩ | ⟨rfl, hq_117⟩
          · skip
            refine lv_iload_n hx hb dX6_range_34 rfl (lv_at hl 3 rfl) ?_
            refine lv_iconst (v := iz 1) hx hb dX6_range_35 (by decide) ?_
            refine ki_icmp_lt (tgt := 45) hx hb dX6_range_36 (by decide) (by omega) (by omega) (by omega) (by omega) (fun c_120 => ?_) (fun c_120 => ?_)
            · skip
              refine lv_iconst (v := iz 1) hx hb dX6_range_45 (by decide) ?_
              refine lv_goto (tgt := 50) hx hb dX6_range_46 (by decide) ?_
              refine lv_iload hx hb dX6_range_50 (lv_at hl 0 rfl) ?_
              refine ki_if_eq (tgt := 70) hx hb dX6_range_52 (by decide) (by omega) (by omega) (fun c_121 => ?_) (fun c_121 => ?_)
              · skip
                refine lv_iconst (v := iz 0) hx hb dX6_range_70 (by decide) ?_
                refine mk_calli (As := [.int (iz 1), .int (iz 1), .int (iz 0)]) (rest := []) ⟨hx, hb, hml, hown, hts⟩ (k_refused1 l dC dI mo ma cs I F 1 0 H.size (by omega) (by omega) (by omega) (by omega)) (cwV 3 hts (kx_gV kq_04_msmall_8 kq_04_msmall_9 kq_04_msmall_10 kq_04_msmall_6 kq_04_msmall_11 rfl) rfl rfl rfl (by decide +kernel) ⟨Nat.le_of_ble_eq_true rfl, Nat.le_of_ble_eq_true rfl⟩) hP hD hK hG hZ hS hA rfl hl.1 rfl (Nat.le_of_ble_eq_true rfl) dX6_range_71 ⟨Nat.le_of_ble_eq_true rfl, Nat.le_of_ble_eq_true rfl⟩ (fun z_122 I_124 F_125 H locs hq_123 hP hD hS => ?_)
                try dsimp only at hq_123
                obtain ⟨rfl, rfl, rfl⟩ := hq_123
                refine ki_if_eq (tgt := 79) hx hb dX6_range_74 (by decide) (by omega) (by omega) (fun c_126 => ?_) (fun c_126 => ?_)
                · omega
                · skip
                  refine lv_iconst (v := iz 0) hx hb dX6_range_77 (by decide) ?_
                  exact mk_ireti hx hb hr hlocks hP hD hK hS dX6_range_78 (Or.inl ⟨by omega, rfl, rfl, by omega⟩)
              · omega
            · skip
              refine lv_iload_n hx hb dX6_range_39 rfl (lv_at hl 3 rfl) ?_
              refine lv_ldc (v := 99999) hx hb hown (kx_word hG kq_04_msmall_2 rfl) dX6_range_40 ?_
              refine ki_is (show (99999 : Int32) = iz 99999 by decide) ?_
              refine ki_icmp_le (tgt := 49) hx hb dX6_range_42 (by decide) (by omega) (by omega) (by omega) (by omega) (fun c_127 => ?_) (fun c_127 => ?_)
              · skip
                refine lv_iconst (v := iz 0) hx hb dX6_range_49 (by decide) ?_
                refine lv_iload hx hb dX6_range_50 (lv_at hl 0 rfl) ?_
                refine ki_if_eq (tgt := 70) hx hb dX6_range_52 (by decide) (by omega) (by omega) (fun c_128 => ?_) (fun c_128 => ?_)
                · skip
                  refine lv_iconst (v := iz 0) hx hb dX6_range_70 (by decide) ?_
                  refine mk_calli (As := [.int (iz 1), .int (iz 0), .int (iz 0)]) (rest := []) ⟨hx, hb, hml, hown, hts⟩ (k_refused1 l dC dI mo ma cs I F 0 0 H.size (by omega) (by omega) (by omega) (by omega)) (cwV 3 hts (kx_gV kq_04_msmall_8 kq_04_msmall_9 kq_04_msmall_10 kq_04_msmall_6 kq_04_msmall_11 rfl) rfl rfl rfl (by decide +kernel) ⟨Nat.le_of_ble_eq_true rfl, Nat.le_of_ble_eq_true rfl⟩) hP hD hK hG hZ hS hA rfl hl.1 rfl (Nat.le_of_ble_eq_true rfl) dX6_range_71 ⟨Nat.le_of_ble_eq_true rfl, Nat.le_of_ble_eq_true rfl⟩ (fun z_129 I_131 F_132 H locs hq_130 hP hD hS => ?_)
                  try dsimp only at hq_130
                  obtain ⟨rfl, rfl, rfl⟩ := hq_130
                  refine ki_if_eq (tgt := 79) hx hb dX6_range_74 (by decide) (by omega) (by omega) (fun c_133 => ?_) (fun c_133 => ?_)
                  · omega
                  · skip
                    refine lv_iconst (v := iz 0) hx hb dX6_range_77 (by decide) ?_
                    exact mk_ireti hx hb hr hlocks hP hD hK hS dX6_range_78 (Or.inl ⟨by omega, rfl, rfl, by omega⟩)
                · omega
              · skip
                refine lv_iconst (v := iz 1) hx hb dX6_range_45 (by decide) ?_
                refine lv_goto (tgt := 50) hx hb dX6_range_46 (by decide) ?_
                refine lv_iload hx hb dX6_range_50 (lv_at hl 0 rfl) ?_
                refine ki_if_eq (tgt := 70) hx hb dX6_range_52 (by decide) (by omega) (by omega) (fun c_134 => ?_) (fun c_134 => ?_)
                · skip
                  refine lv_iconst (v := iz 0) hx hb dX6_range_70 (by decide) ?_
                  refine mk_calli (As := [.int (iz 1), .int (iz 1), .int (iz 0)]) (rest := []) ⟨hx, hb, hml, hown, hts⟩ (k_refused1 l dC dI mo ma cs I F 1 0 H.size (by omega) (by omega) (by omega) (by omega)) (cwV 3 hts (kx_gV kq_04_msmall_8 kq_04_msmall_9 kq_04_msmall_10 kq_04_msmall_6 kq_04_msmall_11 rfl) rfl rfl rfl (by decide +kernel) ⟨Nat.le_of_ble_eq_true rfl, Nat.le_of_ble_eq_true rfl⟩) hP hD hK hG hZ hS hA rfl hl.1 rfl (Nat.le_of_ble_eq_true rfl) dX6_range_71 ⟨Nat.le_of_ble_eq_true rfl, Nat.le_of_ble_eq_true rfl⟩ (fun z_135 I_137 F_138 H locs hq_136 hP hD hS => ?_)
                  try dsimp only at hq_136
                  obtain ⟨rfl, rfl, rfl⟩ := hq_136
                  refine ki_if_eq (tgt := 79) hx hb dX6_range_74 (by decide) (by omega) (by omega) (fun c_139 => ?_) (fun c_139 => ?_)
                  · omega
                  · skip
                    refine lv_iconst (v := iz 0) hx hb dX6_range_77 (by decide) ?_
                    exact mk_ireti hx hb hr hlocks hP hD hK hS dX6_range_78 (Or.inl ⟨by omega, rfl, rfl, by omega⟩)
                · omega
          · skip
            refine lv_iload_n hx hb dX6_range_34 rfl (lv_at hl 3 rfl) ?_
            refine lv_iconst (v := iz 1) hx hb dX6_range_35 (by decide) ?_
            refine ki_icmp_lt (tgt := 45) hx hb dX6_range_36 (by decide) (by omega) (by omega) (by omega) (by omega) (fun c_140 => ?_) (fun c_140 => ?_)
            · skip
              refine lv_iconst (v := iz 1) hx hb dX6_range_45 (by decide) ?_
              refine lv_goto (tgt := 50) hx hb dX6_range_46 (by decide) ?_
              refine lv_iload hx hb dX6_range_50 (lv_at hl 0 rfl) ?_
              refine ki_if_eq (tgt := 70) hx hb dX6_range_52 (by decide) (by omega) (by omega) (fun c_141 => ?_) (fun c_141 => ?_)
              · skip
                refine lv_iconst (v := iz 0) hx hb dX6_range_70 (by decide) ?_
                refine mk_calli (As := [.int (iz 0), .int (iz 1), .int (iz 0)]) (rest := []) ⟨hx, hb, hml, hown, hts⟩ (k_refused2 l dC dI mo ma cs I F 0 H.size (by omega) (by omega)) (cwV 3 hts (kx_gV kq_04_msmall_8 kq_04_msmall_9 kq_04_msmall_10 kq_04_msmall_6 kq_04_msmall_11 rfl) rfl rfl rfl (by decide +kernel) ⟨Nat.le_of_ble_eq_true rfl, Nat.le_of_ble_eq_true rfl⟩) hP hD hK hG hZ hS hA rfl hl.1 rfl (Nat.le_of_ble_eq_true rfl) dX6_range_71 ⟨Nat.le_of_ble_eq_true rfl, Nat.le_of_ble_eq_true rfl⟩ (fun z_142 I_144 F_145 H locs hq_143 hP hD hS => ?_)
                try dsimp only at hq_143
                obtain ⟨rfl, rfl, rfl⟩ := hq_143
                refine ki_if_eq (tgt := 79) hx hb dX6_range_74 (by decide) (by omega) (by omega) (fun c_146 => ?_) (fun c_146 => ?_)
                · omega
                · skip
                  refine lv_iconst (v := iz 0) hx hb dX6_range_77 (by decide) ?_
                  exact mk_ireti hx hb hr hlocks hP hD hK hS dX6_range_78 (Or.inr (Or.inl ⟨by omega, rfl, rfl, by omega, by omega⟩))
              · omega
            · skip
              refine lv_iload_n hx hb dX6_range_39 rfl (lv_at hl 3 rfl) ?_
              refine lv_ldc (v := 99999) hx hb hown (kx_word hG kq_04_msmall_2 rfl) dX6_range_40 ?_
              refine ki_is (show (99999 : Int32) = iz 99999 by decide) ?_
              refine ki_icmp_le (tgt := 49) hx hb dX6_range_42 (by decide) (by omega) (by omega) (by omega) (by omega) (fun c_147 => ?_) (fun c_147 => ?_)
              · skip
                refine lv_iconst (v := iz 0) hx hb dX6_range_49 (by decide) ?_
                refine lv_iload hx hb dX6_range_50 (lv_at hl 0 rfl) ?_
                refine ki_if_eq (tgt := 70) hx hb dX6_range_52 (by decide) (by omega) (by omega) (fun c_148 => ?_) (fun c_148 => ?_)
                · skip
                  refine lv_iconst (v := iz 0) hx hb dX6_range_70 (by decide) ?_
                  refine mk_calli (As := [.int (iz 0), .int (iz 0), .int (iz 0)]) (rest := []) ⟨hx, hb, hml, hown, hts⟩ (k_refused0 l dC dI mo ma cs I F  H.size ) (cwV 3 hts (kx_gV kq_04_msmall_8 kq_04_msmall_9 kq_04_msmall_10 kq_04_msmall_6 kq_04_msmall_11 rfl) rfl rfl rfl (by decide +kernel) ⟨Nat.le_of_ble_eq_true rfl, Nat.le_of_ble_eq_true rfl⟩) hP hD hK hG hZ hS hA rfl hl.1 rfl (Nat.le_of_ble_eq_true rfl) dX6_range_71 ⟨Nat.le_of_ble_eq_true rfl, Nat.le_of_ble_eq_true rfl⟩ (fun z_149 I_151 F_152 H locs hq_150 hP hD hS => ?_)
                  try dsimp only at hq_150
                  obtain ⟨rfl, rfl, rfl⟩ := hq_150
                  refine ki_if_eq (tgt := 79) hx hb dX6_range_74 (by decide) (by omega) (by omega) (fun c_153 => ?_) (fun c_153 => ?_)
                  · skip
                    refine lv_iload hx hb dX6_range_79 (lv_at hl 0 rfl) ?_
                    refine ki_if_eq (tgt := 93) hx hb dX6_range_81 (by decide) (by omega) (by omega) (fun c_154 => ?_) (fun c_154 => ?_)
                    · skip
                      refine lv_iload_n hx hb dX6_range_93 rfl (lv_at hl 4 rfl) ?_
                      refine ki_if_eq (tgt := 116) hx hb dX6_range_94 (by decide) (by omega) (by omega) (fun c_155 => ?_) (fun c_155 => ?_)
                      · skip
                        refine lv_iconst (v := iz 0) hx hb dX6_range_116 (by decide) ?_
                        exact mk_ireti hx hb hr hlocks hP hD hK hS dX6_range_117 (Or.inr (Or.inr (Or.inr (Or.inr (Or.inl ⟨by omega, rfl, rfl, by omega, by omega, by omega⟩)))))
                      · omega
                    · omega
                  · omega
                · omega
              · skip
                refine lv_iconst (v := iz 1) hx hb dX6_range_45 (by decide) ?_
                refine lv_goto (tgt := 50) hx hb dX6_range_46 (by decide) ?_
                refine lv_iload hx hb dX6_range_50 (lv_at hl 0 rfl) ?_
                refine ki_if_eq (tgt := 70) hx hb dX6_range_52 (by decide) (by omega) (by omega) (fun c_156 => ?_) (fun c_156 => ?_)
                · skip
                  refine lv_iconst (v := iz 0) hx hb dX6_range_70 (by decide) ?_
                  refine mk_calli (As := [.int (iz 0), .int (iz 1), .int (iz 0)]) (rest := []) ⟨hx, hb, hml, hown, hts⟩ (k_refused2 l dC dI mo ma cs I F 0 H.size (by omega) (by omega)) (cwV 3 hts (kx_gV kq_04_msmall_8 kq_04_msmall_9 kq_04_msmall_10 kq_04_msmall_6 kq_04_msmall_11 rfl) rfl rfl rfl (by decide +kernel) ⟨Nat.le_of_ble_eq_true rfl, Nat.le_of_ble_eq_true rfl⟩) hP hD hK hG hZ hS hA rfl hl.1 rfl (Nat.le_of_ble_eq_true rfl) dX6_range_71 ⟨Nat.le_of_ble_eq_true rfl, Nat.le_of_ble_eq_true rfl⟩ (fun z_157 I_159 F_160 H locs hq_158 hP hD hS => ?_)
                  try dsimp only at hq_158
                  obtain ⟨rfl, rfl, rfl⟩ := hq_158
                  refine ki_if_eq (tgt := 79) hx hb dX6_range_74 (by decide) (by omega) (by omega) (fun c_161 => ?_) (fun c_161 => ?_)
                  · omega
                  · skip
                    refine lv_iconst (v := iz 0) hx hb dX6_range_77 (by decide) ?_
                    exact mk_ireti hx hb hr hlocks hP hD hK hS dX6_range_78 (Or.inr (Or.inl ⟨by omega, rfl, rfl, by omega, by omega⟩))
                · omega
        · skip
          refine lv_iconst (v := iz 1) hx hb dX6_range_21 (by decide) ?_
          refine lv_goto (tgt := 26) hx hb dX6_range_22 (by decide) ?_
          refine lv_istore (lv' := [(4, .int (iz 1)), (0, .ref mo), (1, .int (iz p0)), (2, .int (iz p1)), (3, .int (iz en))]) hx hb dX6_range_26 hl (by decide) rfl (fun ls hl => ?_)
          refine lv_aload_n hx hb dX6_range_28 rfl (lv_at hl 1 rfl) ?_
          refine lv_aload_n hx hb dX6_range_29 rfl (lv_at hl 1 rfl) ?_
          refine lv_iload_n hx hb dX6_range_30 rfl (lv_at hl 2 rfl) ?_
          refine mk_calli (As := [.int (iz p0)]) (rest := [.ref mo]) ⟨hx, hb, hml, hown, hts⟩ (k_isNone l dC dI mo ma cs I F p0 H.size hB (by omega) (by omega)) (cwV 1 hts (kx_gV kq_04_msmall_3 kq_04_msmall_4 kq_04_msmall_5 kq_04_msmall_6 kq_04_msmall_7 rfl) rfl rfl rfl (by decide +kernel) ⟨Nat.le_of_ble_eq_true rfl, Nat.le_of_ble_eq_true rfl⟩) hP hD hK hG hZ hS hA rfl hl.1 rfl (Nat.le_of_ble_eq_true rfl) dX6_range_31 ⟨Nat.le_of_ble_eq_true rfl, Nat.le_of_ble_eq_true rfl⟩ (fun z_162 I_164 F_165 H locs hq_163 hP hD hS => ?_)
          try dsimp only at hq_163
          obtain ⟨rfl, rfl, hq_163⟩ := hq_163
          rcases hq_163 with ⟨rfl, hq_163⟩ | ⟨rfl, hq_163⟩
          · skip
            refine lv_iload_n hx hb dX6_range_34 rfl (lv_at hl 3 rfl) ?_
            refine lv_iconst (v := iz 1) hx hb dX6_range_35 (by decide) ?_
            refine ki_icmp_lt (tgt := 45) hx hb dX6_range_36 (by decide) (by omega) (by omega) (by omega) (by omega) (fun c_166 => ?_) (fun c_166 => ?_)
            · skip
              refine lv_iconst (v := iz 1) hx hb dX6_range_45 (by decide) ?_
              refine lv_goto (tgt := 50) hx hb dX6_range_46 (by decide) ?_
              refine lv_iload hx hb dX6_range_50 (lv_at hl 0 rfl) ?_
              refine ki_if_eq (tgt := 70) hx hb dX6_range_52 (by decide) (by omega) (by omega) (fun c_167 => ?_) (fun c_167 => ?_)
              · omega
              · skip
                refine lv_aload_n hx hb dX6_range_55 rfl (lv_at hl 1 rfl) ?_
                refine va_get (D := (dC, dI)) (ci := 6) (v := .ref (ma 10)) (C := RX6) (T := TX6) (N := 44) hx hb hts kt_X6 hown hK hP 0 rfl rfl 10 (by decide) (kx_word hG kq_04_msmall_22 rfl) (fun _ h9 => h9) rfl dX6_range_56 ?_
                refine lv_iload_n hx hb dX6_range_59 rfl (lv_at hl 2 rfl) ?_
                refine ki_iald (F := F 10) hx hb hK hP 9 8 rfl rfl (by omega) (by omega) (by decide) dX6_range_60 ?_
                have hbd_168 := hB.2 10 p0
                refine lv_bipush (v := iz 20) hx hb dX6_range_61 (by decide) ?_
                refine ki_icmp_ne (tgt := 70) hx hb dX6_range_63 (by decide) (by omega) (by omega) (by omega) (by omega) (fun c_169 => ?_) (fun c_169 => ?_)
                · skip
                  refine lv_iconst (v := iz 0) hx hb dX6_range_70 (by decide) ?_
                  refine mk_calli (As := [.int (iz 1), .int (iz 1), .int (iz 0)]) (rest := []) ⟨hx, hb, hml, hown, hts⟩ (k_refused1 l dC dI mo ma cs I F 1 0 H.size (by omega) (by omega) (by omega) (by omega)) (cwV 3 hts (kx_gV kq_04_msmall_8 kq_04_msmall_9 kq_04_msmall_10 kq_04_msmall_6 kq_04_msmall_11 rfl) rfl rfl rfl (by decide +kernel) ⟨Nat.le_of_ble_eq_true rfl, Nat.le_of_ble_eq_true rfl⟩) hP hD hK hG hZ hS hA rfl hl.1 rfl (Nat.le_of_ble_eq_true rfl) dX6_range_71 ⟨Nat.le_of_ble_eq_true rfl, Nat.le_of_ble_eq_true rfl⟩ (fun z_170 I_172 F_173 H locs hq_171 hP hD hS => ?_)
                  try dsimp only at hq_171
                  obtain ⟨rfl, rfl, rfl⟩ := hq_171
                  refine ki_if_eq (tgt := 79) hx hb dX6_range_74 (by decide) (by omega) (by omega) (fun c_174 => ?_) (fun c_174 => ?_)
                  · omega
                  · skip
                    refine lv_iconst (v := iz 0) hx hb dX6_range_77 (by decide) ?_
                    exact mk_ireti hx hb hr hlocks hP hD hK hS dX6_range_78 (Or.inl ⟨by omega, rfl, rfl, by omega⟩)
                · skip
                  refine lv_iconst (v := iz 1) hx hb dX6_range_66 (by decide) ?_
                  refine lv_goto (tgt := 71) hx hb dX6_range_67 (by decide) ?_
                  refine mk_calli (As := [.int (iz 1), .int (iz 1), .int (iz 1)]) (rest := []) ⟨hx, hb, hml, hown, hts⟩ (k_refused1 l dC dI mo ma cs I F 1 1 H.size (by omega) (by omega) (by omega) (by omega)) (cwV 3 hts (kx_gV kq_04_msmall_8 kq_04_msmall_9 kq_04_msmall_10 kq_04_msmall_6 kq_04_msmall_11 rfl) rfl rfl rfl (by decide +kernel) ⟨Nat.le_of_ble_eq_true rfl, Nat.le_of_ble_eq_true rfl⟩) hP hD hK hG hZ hS hA rfl hl.1 rfl (Nat.le_of_ble_eq_true rfl) dX6_range_71 ⟨Nat.le_of_ble_eq_true rfl, Nat.le_of_ble_eq_true rfl⟩ (fun z_175 I_177 F_178 H locs hq_176 hP hD hS => ?_)
                  try dsimp only at hq_176
                  obtain ⟨rfl, rfl, rfl⟩ := hq_176
                  refine ki_if_eq (tgt := 79) hx hb dX6_range_74 (by decide) (by omega) (by omega) (fun c_179 => ?_) (fun c_179 => ?_)
                  · omega
                  · skip
                    refine lv_iconst (v := iz 0) hx hb dX6_range_77 (by decide) ?_
                    exact mk_ireti hx hb hr hlocks hP hD hK hS dX6_range_78 (Or.inl ⟨by omega, rfl, rfl, by omega⟩)
            · skip
              refine lv_iload_n hx hb dX6_range_39 rfl (lv_at hl 3 rfl) ?_
              refine lv_ldc (v := 99999) hx hb hown (kx_word hG kq_04_msmall_2 rfl) dX6_range_40 ?_
              refine ki_is (show (99999 : Int32) = iz 99999 by decide) ?_
              refine ki_icmp_le (tgt := 49) hx hb dX6_range_42 (by decide) (by omega) (by omega) (by omega) (by omega) (fun c_180 => ?_) (fun c_180 => ?_)
              · skip
                refine lv_iconst (v := iz 0) hx hb dX6_range_49 (by decide) ?_
                refine lv_iload hx hb dX6_range_50 (lv_at hl 0 rfl) ?_
                refine ki_if_eq (tgt := 70) hx hb dX6_range_52 (by decide) (by omega) (by omega) (fun c_181 => ?_) (fun c_181 => ?_)
                · omega
                · skip
                  refine lv_aload_n hx hb dX6_range_55 rfl (lv_at hl 1 rfl) ?_
                  refine va_get (D := (dC, dI)) (ci := 6) (v := .ref (ma 10)) (C := RX6) (T := TX6) (N := 44) hx hb hts kt_X6 hown hK hP 0 rfl rfl 10 (by decide) (kx_word hG kq_04_msmall_22 rfl) (fun _ h9 => h9) rfl dX6_range_56 ?_
                  refine lv_iload_n hx hb dX6_range_59 rfl (lv_at hl 2 rfl) ?_
                  refine ki_iald (F := F 10) hx hb hK hP 9 8 rfl rfl (by omega) (by omega) (by decide) dX6_range_60 ?_
                  have hbd_182 := hB.2 10 p0
                  refine lv_bipush (v := iz 20) hx hb dX6_range_61 (by decide) ?_
                  refine ki_icmp_ne (tgt := 70) hx hb dX6_range_63 (by decide) (by omega) (by omega) (by omega) (by omega) (fun c_183 => ?_) (fun c_183 => ?_)
                  · skip
                    refine lv_iconst (v := iz 0) hx hb dX6_range_70 (by decide) ?_
                    refine mk_calli (As := [.int (iz 1), .int (iz 0), .int (iz 0)]) (rest := []) ⟨hx, hb, hml, hown, hts⟩ (k_refused1 l dC dI mo ma cs I F 0 0 H.size (by omega) (by omega) (by omega) (by omega)) (cwV 3 hts (kx_gV kq_04_msmall_8 kq_04_msmall_9 kq_04_msmall_10 kq_04_msmall_6 kq_04_msmall_11 rfl) rfl rfl rfl (by decide +kernel) ⟨Nat.le_of_ble_eq_true rfl, Nat.le_of_ble_eq_true rfl⟩) hP hD hK hG hZ hS hA rfl hl.1 rfl (Nat.le_of_ble_eq_true rfl) dX6_range_71 ⟨Nat.le_of_ble_eq_true rfl, Nat.le_of_ble_eq_true rfl⟩ (fun z_184 I_186 F_187 H locs hq_185 hP hD hS => ?_)
                    try dsimp only at hq_185
                    obtain ⟨rfl, rfl, rfl⟩ := hq_185
                    refine ki_if_eq (tgt := 79) hx hb dX6_range_74 (by decide) (by omega) (by omega) (fun c_188 => ?_) (fun c_188 => ?_)
                    · omega
                    · skip
                      refine lv_iconst (v := iz 0) hx hb dX6_range_77 (by decide) ?_
                      exact mk_ireti hx hb hr hlocks hP hD hK hS dX6_range_78 (Or.inl ⟨by omega, rfl, rfl, by omega⟩)
                  · skip
                    refine lv_iconst (v := iz 1) hx hb dX6_range_66 (by decide) ?_
                    refine lv_goto (tgt := 71) hx hb dX6_range_67 (by decide) ?_
                    refine mk_calli (As := [.int (iz 1), .int (iz 0), .int (iz 1)]) (rest := []) ⟨hx, hb, hml, hown, hts⟩ (k_refused1 l dC dI mo ma cs I F 0 1 H.size (by omega) (by omega) (by omega) (by omega)) (cwV 3 hts (kx_gV kq_04_msmall_8 kq_04_msmall_9 kq_04_msmall_10 kq_04_msmall_6 kq_04_msmall_11 rfl) rfl rfl rfl (by decide +kernel) ⟨Nat.le_of_ble_eq_true rfl, Nat.le_of_ble_eq_true rfl⟩) hP hD hK hG hZ hS hA rfl hl.1 rfl (Nat.le_of_ble_eq_true rfl) dX6_range_71 ⟨Nat.le_of_ble_eq_true rfl, Nat.le_of_ble_eq_true rfl⟩ (fun z_189 I_191 F_192 H locs hq_190 hP hD hS => ?_)
                    try dsimp only at hq_190
                    obtain ⟨rfl, rfl, rfl⟩ := hq_190
                    refine ki_if_eq (tgt := 79) hx hb dX6_range_74 (by decide) (by omega) (by omega) (fun c_193 => ?_) (fun c_193 => ?_)
                    · omega
                    · skip
                      refine lv_iconst (v := iz 0) hx hb dX6_range_77 (by decide) ?_
                      exact mk_ireti hx hb hr hlocks hP hD hK hS dX6_range_78 (Or.inl ⟨by omega, rfl, rfl, by omega⟩)
              · skip
                refine lv_iconst (v := iz 1) hx hb dX6_range_45 (by decide) ?_
                refine lv_goto (tgt := 50) hx hb dX6_range_46 (by decide) ?_
                refine lv_iload hx hb dX6_range_50 (lv_at hl 0 rfl) ?_
                refine ki_if_eq (tgt := 70) hx hb dX6_range_52 (by decide) (by omega) (by omega) (fun c_194 => ?_) (fun c_194 => ?_)
                · omega
                · skip
                  refine lv_aload_n hx hb dX6_range_55 rfl (lv_at hl 1 rfl) ?_
                  refine va_get (D := (dC, dI)) (ci := 6) (v := .ref (ma 10)) (C := RX6) (T := TX6) (N := 44) hx hb hts kt_X6 hown hK hP 0 rfl rfl 10 (by decide) (kx_word hG kq_04_msmall_22 rfl) (fun _ h9 => h9) rfl dX6_range_56 ?_
                  refine lv_iload_n hx hb dX6_range_59 rfl (lv_at hl 2 rfl) ?_
                  refine ki_iald (F := F 10) hx hb hK hP 9 8 rfl rfl (by omega) (by omega) (by decide) dX6_range_60 ?_
                  have hbd_195 := hB.2 10 p0
                  refine lv_bipush (v := iz 20) hx hb dX6_range_61 (by decide) ?_
                  refine ki_icmp_ne (tgt := 70) hx hb dX6_range_63 (by decide) (by omega) (by omega) (by omega) (by omega) (fun c_196 => ?_) (fun c_196 => ?_)
                  · skip
                    refine lv_iconst (v := iz 0) hx hb dX6_range_70 (by decide) ?_
                    refine mk_calli (As := [.int (iz 1), .int (iz 1), .int (iz 0)]) (rest := []) ⟨hx, hb, hml, hown, hts⟩ (k_refused1 l dC dI mo ma cs I F 1 0 H.size (by omega) (by omega) (by omega) (by omega)) (cwV 3 hts (kx_gV kq_04_msmall_8 kq_04_msmall_9 kq_04_msmall_10 kq_04_msmall_6 kq_04_msmall_11 rfl) rfl rfl rfl (by decide +kernel) ⟨Nat.le_of_ble_eq_true rfl, Nat.le_of_ble_eq_true rfl⟩) hP hD hK hG hZ hS hA rfl hl.1 rfl (Nat.le_of_ble_eq_true rfl) dX6_range_71 ⟨Nat.le_of_ble_eq_true rfl, Nat.le_of_ble_eq_true rfl⟩ (fun z_197 I_199 F_200 H locs hq_198 hP hD hS => ?_)
                    try dsimp only at hq_198
                    obtain ⟨rfl, rfl, rfl⟩ := hq_198
                    refine ki_if_eq (tgt := 79) hx hb dX6_range_74 (by decide) (by omega) (by omega) (fun c_201 => ?_) (fun c_201 => ?_)
                    · omega
                    · skip
                      refine lv_iconst (v := iz 0) hx hb dX6_range_77 (by decide) ?_
                      exact mk_ireti hx hb hr hlocks hP hD hK hS dX6_range_78 (Or.inl ⟨by omega, rfl, rfl, by omega⟩)
                  · skip
                    refine lv_iconst (v := iz 1) hx hb dX6_range_66 (by decide) ?_
                    refine lv_goto (tgt := 71) hx hb dX6_range_67 (by decide) ?_
                    refine mk_calli (As := [.int (iz 1), .int (iz 1), .int (iz 1)]) (rest := []) ⟨hx, hb, hml, hown, hts⟩ (k_refused1 l dC dI mo ma cs I F 1 1 H.size (by omega) (by omega) (by omega) (by omega)) (cwV 3 hts (kx_gV kq_04_msmall_8 kq_04_msmall_9 kq_04_msmall_10 kq_04_msmall_6 kq_04_msmall_11 rfl) rfl rfl rfl (by decide +kernel) ⟨Nat.le_of_ble_eq_true rfl, Nat.le_of_ble_eq_true rfl⟩) hP hD hK hG hZ hS hA rfl hl.1 rfl (Nat.le_of_ble_eq_true rfl) dX6_range_71 ⟨Nat.le_of_ble_eq_true rfl, Nat.le_of_ble_eq_true rfl⟩ (fun z_202 I_204 F_205 H locs hq_203 hP hD hS => ?_)
                    try dsimp only at hq_203
                    obtain ⟨rfl, rfl, rfl⟩ := hq_203
                    refine ki_if_eq (tgt := 79) hx hb dX6_range_74 (by decide) (by omega) (by omega) (fun c_206 => ?_) (fun c_206 => ?_)
                    · omega
                    · skip
                      refine lv_iconst (v := iz 0) hx hb dX6_range_77 (by decide) ?_
                      exact mk_ireti hx hb hr hlocks hP hD hK hS dX6_range_78 (Or.inl ⟨by omega, rfl, rfl, by omega⟩)
          · skip
            refine lv_iload_n hx hb dX6_range_34 rfl (lv_at hl 3 rfl) ?_
            refine lv_iconst (v := iz 1) hx hb dX6_range_35 (by decide) ?_
            refine ki_icmp_lt (tgt := 45) hx hb dX6_range_36 (by decide) (by omega) (by omega) (by omega) (by omega) (fun c_207 => ?_) (fun c_207 => ?_)
            · skip
              refine lv_iconst (v := iz 1) hx hb dX6_range_45 (by decide) ?_
              refine lv_goto (tgt := 50) hx hb dX6_range_46 (by decide) ?_
              refine lv_iload hx hb dX6_range_50 (lv_at hl 0 rfl) ?_
              refine ki_if_eq (tgt := 70) hx hb dX6_range_52 (by decide) (by omega) (by omega) (fun c_208 => ?_) (fun c_208 => ?_)
              · omega
              · skip
                refine lv_aload_n hx hb dX6_range_55 rfl (lv_at hl 1 rfl) ?_
                refine va_get (D := (dC, dI)) (ci := 6) (v := .ref (ma 10)) (C := RX6) (T := TX6) (N := 44) hx hb hts kt_X6 hown hK hP 0 rfl rfl 10 (by decide) (kx_word hG kq_04_msmall_22 rfl) (fun _ h9 => h9) rfl dX6_range_56 ?_
                refine lv_iload_n hx hb dX6_range_59 rfl (lv_at hl 2 rfl) ?_
                refine ki_iald (F := F 10) hx hb hK hP 9 8 rfl rfl (by omega) (by omega) (by decide) dX6_range_60 ?_
                have hbd_209 := hB.2 10 p0
                refine lv_bipush (v := iz 20) hx hb dX6_range_61 (by decide) ?_
                refine ki_icmp_ne (tgt := 70) hx hb dX6_range_63 (by decide) (by omega) (by omega) (by omega) (by omega) (fun c_210 => ?_) (fun c_210 => ?_)
                · skip
                  refine lv_iconst (v := iz 0) hx hb dX6_range_70 (by decide) ?_
                  refine mk_calli (As := [.int (iz 0), .int (iz 1), .int (iz 0)]) (rest := []) ⟨hx, hb, hml, hown, hts⟩ (k_refused2 l dC dI mo ma cs I F 0 H.size (by omega) (by omega)) (cwV 3 hts (kx_gV kq_04_msmall_8 kq_04_msmall_9 kq_04_msmall_10 kq_04_msmall_6 kq_04_msmall_11 rfl) rfl rfl rfl (by decide +kernel) ⟨Nat.le_of_ble_eq_true rfl, Nat.le_of_ble_eq_true rfl⟩) hP hD hK hG hZ hS hA rfl hl.1 rfl (Nat.le_of_ble_eq_true rfl) dX6_range_71 ⟨Nat.le_of_ble_eq_true rfl, Nat.le_of_ble_eq_true rfl⟩ (fun z_211 I_213 F_214 H locs hq_212 hP hD hS => ?_)
                  try dsimp only at hq_212
                  obtain ⟨rfl, rfl, rfl⟩ := hq_212
                  refine ki_if_eq (tgt := 79) hx hb dX6_range_74 (by decide) (by omega) (by omega) (fun c_215 => ?_) (fun c_215 => ?_)
                  · omega
                  · skip
                    refine lv_iconst (v := iz 0) hx hb dX6_range_77 (by decide) ?_
                    exact mk_ireti hx hb hr hlocks hP hD hK hS dX6_range_78 (Or.inr (Or.inl ⟨by omega, rfl, rfl, by omega, by omega⟩))
                · skip
                  refine lv_iconst (v := iz 1) hx hb dX6_range_66 (by decide) ?_
                  refine lv_goto (tgt := 71) hx hb dX6_range_67 (by decide) ?_
                  refine mk_calli (As := [.int (iz 0), .int (iz 1), .int (iz 1)]) (rest := []) ⟨hx, hb, hml, hown, hts⟩ (k_refused2 l dC dI mo ma cs I F 1 H.size (by omega) (by omega)) (cwV 3 hts (kx_gV kq_04_msmall_8 kq_04_msmall_9 kq_04_msmall_10 kq_04_msmall_6 kq_04_msmall_11 rfl) rfl rfl rfl (by decide +kernel) ⟨Nat.le_of_ble_eq_true rfl, Nat.le_of_ble_eq_true rfl⟩) hP hD hK hG hZ hS hA rfl hl.1 rfl (Nat.le_of_ble_eq_true rfl) dX6_range_71 ⟨Nat.le_of_ble_eq_true rfl, Nat.le_of_ble_eq_true rfl⟩ (fun z_216 I_218 F_219 H locs hq_217 hP hD hS => ?_)
                  try dsimp only at hq_217
                  obtain ⟨rfl, rfl, rfl⟩ := hq_217
                  refine ki_if_eq (tgt := 79) hx hb dX6_range_74 (by decide) (by omega) (by omega) (fun c_220 => ?_) (fun c_220 => ?_)
                  · omega
                  · skip
                    refine lv_iconst (v := iz 0) hx hb dX6_range_77 (by decide) ?_
                    exact mk_ireti hx hb hr hlocks hP hD hK hS dX6_range_78 (Or.inr (Or.inl ⟨by omega, rfl, rfl, by omega, by omega⟩))
            · skip
              refine lv_iload_n hx hb dX6_range_39 rfl (lv_at hl 3 rfl) ?_
              refine lv_ldc (v := 99999) hx hb hown (kx_word hG kq_04_msmall_2 rfl) dX6_range_40 ?_
              refine ki_is (show (99999 : Int32) = iz 99999 by decide) ?_
              refine ki_icmp_le (tgt := 49) hx hb dX6_range_42 (by decide) (by omega) (by omega) (by omega) (by omega) (fun c_221 => ?_) (fun c_221 => ?_)
              · skip
                refine lv_iconst (v := iz 0) hx hb dX6_range_49 (by decide) ?_
                refine lv_iload hx hb dX6_range_50 (lv_at hl 0 rfl) ?_
                refine ki_if_eq (tgt := 70) hx hb dX6_range_52 (by decide) (by omega) (by omega) (fun c_222 => ?_) (fun c_222 => ?_)
                · omega
                · skip
                  refine lv_aload_n hx hb dX6_range_55 rfl (lv_at hl 1 rfl) ?_
                  refine va_get (D := (dC, dI)) (ci := 6) (v := .ref (ma 10)) (C := RX6) (T := TX6) (N := 44) hx hb hts kt_X6 hown hK hP 0 rfl rfl 10 (by decide) (kx_word hG kq_04_msmall_22 rfl) (fun _ h9 => h9) rfl dX6_range_56 ?_
                  refine lv_iload_n hx hb dX6_range_59 rfl (lv_at hl 2 rfl) ?_
                  refine ki_iald (F := F 10) hx hb hK hP 9 8 rfl rfl (by omega) (by omega) (by decide) dX6_range_60 ?_
                  have hbd_223 := hB.2 10 p0
                  refine lv_bipush (v := iz 20) hx hb dX6_range_61 (by decide) ?_
                  refine ki_icmp_ne (tgt := 70) hx hb dX6_range_63 (by decide) (by omega) (by omega) (by omega) (by omega) (fun c_224 => ?_) (fun c_224 => ?_)
                  · skip
                    refine lv_iconst (v := iz 0) hx hb dX6_range_70 (by decide) ?_
                    refine mk_calli (As := [.int (iz 0), .int (iz 0), .int (iz 0)]) (rest := []) ⟨hx, hb, hml, hown, hts⟩ (k_refused0 l dC dI mo ma cs I F  H.size ) (cwV 3 hts (kx_gV kq_04_msmall_8 kq_04_msmall_9 kq_04_msmall_10 kq_04_msmall_6 kq_04_msmall_11 rfl) rfl rfl rfl (by decide +kernel) ⟨Nat.le_of_ble_eq_true rfl, Nat.le_of_ble_eq_true rfl⟩) hP hD hK hG hZ hS hA rfl hl.1 rfl (Nat.le_of_ble_eq_true rfl) dX6_range_71 ⟨Nat.le_of_ble_eq_true rfl, Nat.le_of_ble_eq_true rfl⟩ (fun z_225 I_227 F_228 H locs hq_226 hP hD hS => ?_)
                    try dsimp only at hq_226
                    obtain ⟨rfl, rfl, rfl⟩ := hq_226
                    refine ki_if_eq (tgt := 79) hx hb dX6_range_74 (by decide) (by omega) (by omega) (fun c_229 => ?_) (fun c_229 => ?_)
                    · skip
                      refine lv_iload hx hb dX6_range_79 (lv_at hl 0 rfl) ?_
                      refine ki_if_eq (tgt := 93) hx hb dX6_range_81 (by decide) (by omega) (by omega) (fun c_230 => ?_) (fun c_230 => ?_)
                      · omega
                      · skip
                        refine lv_aload_n hx hb dX6_range_84 rfl (lv_at hl 1 rfl) ?_
                        refine va_get (D := (dC, dI)) (ci := 6) (v := .ref (ma 11)) (C := RX6) (T := TX6) (N := 44) hx hb hts kt_X6 hown hK hP 0 rfl rfl 11 (by decide) (kx_word hG kq_04_msmall_21 rfl) (fun _ h9 => h9) rfl dX6_range_85 ?_
                        refine lv_iload_n hx hb dX6_range_88 rfl (lv_at hl 2 rfl) ?_
                        refine lv_iload_n hx hb dX6_range_89 rfl (lv_at hl 3 rfl) ?_
                        refine ki_iast (F := F 11) hx hb hK hP hD hS 10 9 rfl rfl (by omega) (by omega) (by decide) dX6_range_90 (fun H locs hP hD hS => ?_)
                        have hP : va_P (dC, dI) kxCl (mW mo ma cs (va_up I 0 0) (va_up F 11 (upI (F 11) p0 p1))) H := hP
                        have hD : va_D A (mW mo ma cs (va_up I 0 0) (va_up F 11 (upI (F 11) p0 p1))) := hD
                        refine lv_iconst (v := iz 1) hx hb dX6_range_91 (by decide) ?_
                        exact mk_ireti hx hb hr hlocks hP hD hK hS dX6_range_92 (Or.inr (Or.inr (Or.inr (Or.inl ⟨by omega, rfl, rfl, by omega, by omega, by omega, by omega, by omega⟩))))
                    · omega
                  · skip
                    refine lv_iconst (v := iz 1) hx hb dX6_range_66 (by decide) ?_
                    refine lv_goto (tgt := 71) hx hb dX6_range_67 (by decide) ?_
                    refine mk_calli (As := [.int (iz 0), .int (iz 0), .int (iz 1)]) (rest := []) ⟨hx, hb, hml, hown, hts⟩ (k_refused3 l dC dI mo ma cs I F  H.size ) (cwV 3 hts (kx_gV kq_04_msmall_8 kq_04_msmall_9 kq_04_msmall_10 kq_04_msmall_6 kq_04_msmall_11 rfl) rfl rfl rfl (by decide +kernel) ⟨Nat.le_of_ble_eq_true rfl, Nat.le_of_ble_eq_true rfl⟩) hP hD hK hG hZ hS hA rfl hl.1 rfl (Nat.le_of_ble_eq_true rfl) dX6_range_71 ⟨Nat.le_of_ble_eq_true rfl, Nat.le_of_ble_eq_true rfl⟩ (fun z_231 I_233 F_234 H locs hq_232 hP hD hS => ?_)
                    try dsimp only at hq_232
                    obtain ⟨rfl, rfl, rfl⟩ := hq_232
                    refine ki_if_eq (tgt := 79) hx hb dX6_range_74 (by decide) (by omega) (by omega) (fun c_235 => ?_) (fun c_235 => ?_)
                    · omega
                    · skip
                      refine lv_iconst (v := iz 0) hx hb dX6_range_77 (by decide) ?_
                      exact mk_ireti hx hb hr hlocks hP hD hK hS dX6_range_78 (Or.inr (Or.inr (Or.inl ⟨by omega, rfl, rfl, by omega, by omega, by omega, by omega, by omega⟩)))
              · skip
                refine lv_iconst (v := iz 1) hx hb dX6_range_45 (by decide) ?_
                refine lv_goto (tgt := 50) hx hb dX6_range_46 (by decide) ?_
                refine lv_iload hx hb dX6_range_50 (lv_at hl 0 rfl) ?_
                refine ki_if_eq (tgt := 70) hx hb dX6_range_52 (by decide) (by omega) (by omega) (fun c_236 => ?_) (fun c_236 => ?_)
                · omega
                · skip
                  refine lv_aload_n hx hb dX6_range_55 rfl (lv_at hl 1 rfl) ?_
                  refine va_get (D := (dC, dI)) (ci := 6) (v := .ref (ma 10)) (C := RX6) (T := TX6) (N := 44) hx hb hts kt_X6 hown hK hP 0 rfl rfl 10 (by decide) (kx_word hG kq_04_msmall_22 rfl) (fun _ h9 => h9) rfl dX6_range_56 ?_
                  refine lv_iload_n hx hb dX6_range_59 rfl (lv_at hl 2 rfl) ?_
                  refine ki_iald (F := F 10) hx hb hK hP 9 8 rfl rfl (by omega) (by omega) (by decide) dX6_range_60 ?_
                  have hbd_237 := hB.2 10 p0
                  refine lv_bipush (v := iz 20) hx hb dX6_range_61 (by decide) ?_
                  refine ki_icmp_ne (tgt := 70) hx hb dX6_range_63 (by decide) (by omega) (by omega) (by omega) (by omega) (fun c_238 => ?_) (fun c_238 => ?_)
                  · skip
                    refine lv_iconst (v := iz 0) hx hb dX6_range_70 (by decide) ?_
                    refine mk_calli (As := [.int (iz 0), .int (iz 1), .int (iz 0)]) (rest := []) ⟨hx, hb, hml, hown, hts⟩ (k_refused2 l dC dI mo ma cs I F 0 H.size (by omega) (by omega)) (cwV 3 hts (kx_gV kq_04_msmall_8 kq_04_msmall_9 kq_04_msmall_10 kq_04_msmall_6 kq_04_msmall_11 rfl) rfl rfl rfl (by decide +kernel) ⟨Nat.le_of_ble_eq_true rfl, Nat.le_of_ble_eq_true rfl⟩) hP hD hK hG hZ hS hA rfl hl.1 rfl (Nat.le_of_ble_eq_true rfl) dX6_range_71 ⟨Nat.le_of_ble_eq_true rfl, Nat.le_of_ble_eq_true rfl⟩ (fun z_239 I_241 F_242 H locs hq_240 hP hD hS => ?_)
                    try dsimp only at hq_240
                    obtain ⟨rfl, rfl, rfl⟩ := hq_240
                    refine ki_if_eq (tgt := 79) hx hb dX6_range_74 (by decide) (by omega) (by omega) (fun c_243 => ?_) (fun c_243 => ?_)
                    · omega
                    · skip
                      refine lv_iconst (v := iz 0) hx hb dX6_range_77 (by decide) ?_
                      exact mk_ireti hx hb hr hlocks hP hD hK hS dX6_range_78 (Or.inr (Or.inl ⟨by omega, rfl, rfl, by omega, by omega⟩))
                  · skip
                    refine lv_iconst (v := iz 1) hx hb dX6_range_66 (by decide) ?_
                    refine lv_goto (tgt := 71) hx hb dX6_range_67 (by decide) ?_
                    refine mk_calli (As := [.int (iz 0), .int (iz 1), .int (iz 1)]) (rest := []) ⟨hx, hb, hml, hown, hts⟩ (k_refused2 l dC dI mo ma cs I F 1 H.size (by omega) (by omega)) (cwV 3 hts (kx_gV kq_04_msmall_8 kq_04_msmall_9 kq_04_msmall_10 kq_04_msmall_6 kq_04_msmall_11 rfl) rfl rfl rfl (by decide +kernel) ⟨Nat.le_of_ble_eq_true rfl, Nat.le_of_ble_eq_true rfl⟩) hP hD hK hG hZ hS hA rfl hl.1 rfl (Nat.le_of_ble_eq_true rfl) dX6_range_71 ⟨Nat.le_of_ble_eq_true rfl, Nat.le_of_ble_eq_true rfl⟩ (fun z_244 I_246 F_247 H locs hq_245 hP hD hS => ?_)
                    try dsimp only at hq_245
                    obtain ⟨rfl, rfl, rfl⟩ := hq_245
                    refine ki_if_eq (tgt := 79) hx hb dX6_range_74 (by decide) (by omega) (by omega) (fun c_248 => ?_) (fun c_248 => ?_)
                    · omega
                    · skip
                      refine lv_iconst (v := iz 0) hx hb dX6_range_77 (by decide) ?_
                      exact mk_ireti hx hb hr hlocks hP hD hK hS dX6_range_78 (Or.inr (Or.inl ⟨by omega, rfl, rfl, by omega, by omega⟩))
set_option maxHeartbeats 4000000 in
set_option maxRecDepth 100000 in
/-- see: what it may change (which of the answers is another row) -/
theorem k_see (l : Launch) (dC : Nat → ClassId) (dI : Nat → Nat → Nat) (mo : Nat) (ma : Nat → Nat) (cs : Nat → ClassId) (I : Nat → Int) (F : Nat → Int → Int) (p0 : Int) (p1 : Int) (sz : Nat) (hB : mB I F) (hc : 0 ≤ I 1 ∧ I 1 ≤ 64) (hmy : ∀ e, 0 ≤ F 13 e ∧ F 13 e ≤ 5) (hp01 : -2147483648 ≤ p0) (hp02 : p0 < 2147483648) (hp11 : -2147483648 ≤ p1) (hp12 : p1 < 2147483648) : mMi l yX6_see (.code yX6_see cX6_see 6 (some .int)) 1 23 dC dI mo ma cs I F [.ref mo, .int (iz p0), .int (iz p1)] sz (fun (r : Int) (I' : Nat → Int) (F' : Nat → Int → Int) => (r = 0 ∧ F' = F ∧ I' = va_up I 0 1) ∨ (r = 0 ∧ F' = F ∧ I' = va_up I 0 2) ∨ (r = 0 ∧ F' = F ∧ I' = va_up I 0 0) ∨ (r = 1 ∧ I' = va_up I 0 0 ∧ F' = va_up (va_up F 12 (upI (F 12) (5 * p0 + F 13 p0) p1)) 13 (upI (F 13) p0 (F 13 p0 + 1)) ∧ (0 ≤ p0 ∧ p0 < I 1) ∧ (0 ≤ p1 ∧ p1 < I 1) ∧ F 13 p0 < 5)) := by
  refine Met.ofW (cc := cX6_see) (maxL := 6) (ret := (some .int)) (by decide) rfl ?_
  intro p e s m args below meth c s₁ B hml hv
  obtain ⟨rfl, hsz, hP, hK, hD0, hG, hZ⟩ := hv
  have hx := B.exec
  have hb := B.bytes
  have hr := B.returns
  have hts := kx_hts (a := ([.ref mo, .int (iz p0), .int (iz p1)] : List Value).toArray) hG
  have hown : s.vm.findClass RX6 = some m.cls := findClass_of_methodNamed B.named
  have hlocks := B.notSynchronized
  subst hsz
  have hD := hD0.self (sz := s.heap.size)
  generalize hAe : va_A (mW mo ma cs I F) s.heap.size = A at hD hZ ⊢
  have hA : ∀ q : Nat, s.heap.size ≤ q → A q := fun q h => by rw [← hAe]; exact Or.inr h
  have hS : va_S A s.heap s.heap [] := va_S.rf
  have hl := lv_entry ([.ref mo, .int (iz p0), .int (iz p1)]) (n := 6) (Nat.le_of_ble_eq_true rfl)
  rw [lg_entry_eq]
  generalize (lg_sl ([.ref mo, .int (iz p0), .int (iz p1)]) ++ List.replicate (6 - (lg_sl ([.ref mo, .int (iz p0), .int (iz p1)])).length) Slot.unset).toArray = ls at hl ⊢
  have hl : lv_has ls 6 [(0, .ref mo), (1, .int (iz p0)), (2, .int (iz p1))] := hl
  generalize hQe : MQ below (mQi dC dI mo ma cs A (fun (r : Int) (I' : Nat → Int) (F' : Nat → Int → Int) => (r = 0 ∧ F' = F ∧ I' = va_up I 0 1) ∨ (r = 0 ∧ F' = F ∧ I' = va_up I 0 2) ∨ (r = 0 ∧ F' = F ∧ I' = va_up I 0 0) ∨ (r = 1 ∧ I' = va_up I 0 0 ∧ F' = va_up (va_up F 12 (upI (F 12) (5 * p0 + F 13 p0) p1)) 13 (upI (F 13) p0 (F 13 p0 + 1)) ∧ (0 ≤ p0 ∧ p0 < I 1) ∧ (0 ≤ p1 ∧ p1 < I 1) ∧ F 13 p0 < 5))) ([.ref mo, .int (iz p0), .int (iz p1)] : List Value).toArray s 0 0 A = QQ
  have hnp := hmy p0
  refine lv_aload_n hx hb dX6_see_0 rfl (lv_at hl 0 rfl) ?_
  refine lv_iload_n hx hb dX6_see_1 rfl (lv_at hl 1 rfl) ?_
  refine mk_calli (As := [.int (iz p0)]) (rest := []) ⟨hx, hb, hml, hown, hts⟩ (k_isNone l dC dI mo ma cs I F p0 s.heap.size hB (by omega) (by omega)) (cwV 1 hts (kx_gV kq_04_msmall_3 kq_04_msmall_4 kq_04_msmall_5 kq_04_msmall_6 kq_04_msmall_7 rfl) rfl rfl rfl (by decide +kernel) ⟨Nat.le_of_ble_eq_true rfl, Nat.le_of_ble_eq_true rfl⟩) hP hD hK hG hZ hS hA rfl hl.1 rfl (Nat.le_of_ble_eq_true rfl) dX6_see_2 ⟨Nat.le_of_ble_eq_true rfl, Nat.le_of_ble_eq_true rfl⟩ (fun z_1 I_3 F_4 H locs hq_2 hP hD hS => ?_)
  try dsimp only at hq_2
  obtain ⟨rfl, rfl, hq_2⟩ := hq_2
  rcases hq_2 with ⟨rfl, hq_2⟩ | ⟨rfl, hq_2⟩
  · skip
    refine ki_if_ne (tgt := 16) hx hb dX6_see_5 (by decide) (by omega) (by omega) (fun c_5 => ?_) (fun c_5 => ?_)
    · skip
      refine lv_iconst (v := iz 1) hx hb dX6_see_16 (by decide) ?_
      refine lv_goto (tgt := 21) hx hb dX6_see_17 (by decide) ?_
      refine lv_istore_n (lv' := [(3, .int (iz 1)), (0, .ref mo), (1, .int (iz p0)), (2, .int (iz p1))]) hx hb dX6_see_21 rfl hl (by decide) rfl (fun ls hl => ?_)
      refine lv_iload_n hx hb dX6_see_22 rfl (lv_at hl 2 rfl) ?_
      refine lv_iload_n hx hb dX6_see_23 rfl (lv_at hl 3 rfl) ?_
      refine ki_icmp_ne (tgt := 31) hx hb dX6_see_24 (by decide) (by omega) (by omega) (by omega) (by omega) (fun c_6 => ?_) (fun c_6 => ?_)
      · skip
        refine lv_iconst (v := iz 0) hx hb dX6_see_31 (by decide) ?_
        refine lv_istore (lv' := [(4, .int (iz 0)), (3, .int (iz 1)), (0, .ref mo), (1, .int (iz p0)), (2, .int (iz p1))]) hx hb dX6_see_32 hl (by decide) rfl (fun ls hl => ?_)
        refine lv_iconst (v := iz 0) hx hb dX6_see_34 (by decide) ?_
        refine lv_istore (lv' := [(5, .int (iz 0)), (4, .int (iz 0)), (3, .int (iz 1)), (0, .ref mo), (1, .int (iz p0)), (2, .int (iz p1))]) hx hb dX6_see_35 hl (by decide) rfl (fun ls hl => ?_)
        have lp37 : ∀ (n : Nat) (is kk : Int), ((is = 0 ∨ is = 1) ∧ (0 ≤ kk ∧ kk ≤ 5)) → (F 13 p0 - kk).toNat < n → ∀ (H : Heap) (locs : List Loc), va_P (dC, dI) kxCl (mW mo ma cs I F) H → va_D A (mW mo ma cs I F) → va_S A s.heap H locs → ∀ ls : Array Slot, lv_has ls 6 [(5, .int (iz kk)), (4, .int (iz is)), (3, .int (iz 1)), (0, .ref mo), (1, .int (iz p0)), (2, .int (iz p1))] → W p l e (headSpec [.code yX6_see cX6_see 6 (some .int)] ({ frames := 1, cells := 0, slots := 0, locals := 23 })).room s m ([.ref mo, .int (iz p0), .int (iz p1)] : List Value).toArray below meth c H locs 0 0 QQ (F0 m 37 ls []) := by
          intro n
          induction n with
          | zero => intro is kk hinv hm; exact absurd hm (Nat.not_lt_zero _)
          | succ n ih37 =>
            intro is kk hinv hm H locs hP hD hS ls hl
            obtain ⟨hi, hk⟩ := hinv
            refine lv_iload_n hx hb dX6_see_37 rfl (lv_at hl 2 rfl) ?_
            refine ki_if_ne (tgt := 85) hx hb dX6_see_38 (by decide) (by omega) (by omega) (fun c_7 => ?_) (fun c_7 => ?_)
            · skip
              refine lv_aload_n hx hb dX6_see_85 rfl (lv_at hl 3 rfl) ?_
              refine lv_iload_n hx hb dX6_see_86 rfl (lv_at hl 2 rfl) ?_
              refine lv_iload_n hx hb dX6_see_87 rfl (lv_at hl 2 rfl) ?_
              refine ki_if_ne (tgt := 110) hx hb dX6_see_88 (by decide) (by omega) (by omega) (fun c_8 => ?_) (fun c_8 => ?_)
              · skip
                refine lv_iconst (v := iz 0) hx hb dX6_see_110 (by decide) ?_
                refine lv_iconst (v := iz 0) hx hb dX6_see_111 (by decide) ?_
                refine mk_calli (As := [.int (iz 1), .int (iz 0), .int (iz 0)]) (rest := []) ⟨hx, hb, hml, hown, hts⟩ (k_refused1 l dC dI mo ma cs I F 0 0 H.size (by omega) (by omega) (by omega) (by omega)) (cwV 3 hts (kx_gV kq_04_msmall_8 kq_04_msmall_9 kq_04_msmall_10 kq_04_msmall_6 kq_04_msmall_11 rfl) rfl rfl rfl (by decide +kernel) ⟨Nat.le_of_ble_eq_true rfl, Nat.le_of_ble_eq_true rfl⟩) hP hD hK hG hZ hS hA rfl hl.1 rfl (Nat.le_of_ble_eq_true rfl) dX6_see_112 ⟨Nat.le_of_ble_eq_true rfl, Nat.le_of_ble_eq_true rfl⟩ (fun z_9 I_11 F_12 H locs hq_10 hP hD hS => ?_)
                try dsimp only at hq_10
                obtain ⟨rfl, rfl, rfl⟩ := hq_10
                refine ki_if_ne (tgt := 123) hx hb dX6_see_115 (by decide) (by omega) (by omega) (fun c_13 => ?_) (fun c_13 => ?_)
                · skip
                  refine lv_iconst (v := iz 0) hx hb dX6_see_123 (by decide) ?_
                  rw [← hQe]
                  exact mk_ireti hx hb hr hlocks hP hD hK hS dX6_see_124 (Or.inl ⟨by omega, rfl, rfl⟩)
                · omega
              · omega
            · omega
        exact lp37 _ 0 0 ⟨by omega, by omega⟩ (Nat.lt_succ_self _) _ _ hP hD hS ls (lv_sub hl [0, 1, 2, 3, 4, 5] rfl)
      · skip
        refine lv_iconst (v := iz 1) hx hb dX6_see_27 (by decide) ?_
        refine lv_goto (tgt := 32) hx hb dX6_see_28 (by decide) ?_
        refine lv_istore (lv' := [(4, .int (iz 1)), (3, .int (iz 1)), (0, .ref mo), (1, .int (iz p0)), (2, .int (iz p1))]) hx hb dX6_see_32 hl (by decide) rfl (fun ls hl => ?_)
        refine lv_iconst (v := iz 0) hx hb dX6_see_34 (by decide) ?_
        refine lv_istore (lv' := [(5, .int (iz 0)), (4, .int (iz 1)), (3, .int (iz 1)), (0, .ref mo), (1, .int (iz p0)), (2, .int (iz p1))]) hx hb dX6_see_35 hl (by decide) rfl (fun ls hl => ?_)
        have lp37 : ∀ (n : Nat) (is kk : Int), ((is = 0 ∨ is = 1) ∧ (0 ≤ kk ∧ kk ≤ 5)) → (F 13 p0 - kk).toNat < n → ∀ (H : Heap) (locs : List Loc), va_P (dC, dI) kxCl (mW mo ma cs I F) H → va_D A (mW mo ma cs I F) → va_S A s.heap H locs → ∀ ls : Array Slot, lv_has ls 6 [(5, .int (iz kk)), (4, .int (iz is)), (3, .int (iz 1)), (0, .ref mo), (1, .int (iz p0)), (2, .int (iz p1))] → W p l e (headSpec [.code yX6_see cX6_see 6 (some .int)] ({ frames := 1, cells := 0, slots := 0, locals := 23 })).room s m ([.ref mo, .int (iz p0), .int (iz p1)] : List Value).toArray below meth c H locs 0 0 QQ (F0 m 37 ls []) := by
          intro n
          induction n with
          | zero => intro is kk hinv hm; exact absurd hm (Nat.not_lt_zero _)
          | succ n ih37 =>
            intro is kk hinv hm H locs hP hD hS ls hl
            obtain ⟨hi, hk⟩ := hinv
            refine lv_iload_n hx hb dX6_see_37 rfl (lv_at hl 2 rfl) ?_
            refine ki_if_ne (tgt := 85) hx hb dX6_see_38 (by decide) (by omega) (by omega) (fun c_14 => ?_) (fun c_14 => ?_)
            · skip
              refine lv_aload_n hx hb dX6_see_85 rfl (lv_at hl 3 rfl) ?_
              refine lv_iload_n hx hb dX6_see_86 rfl (lv_at hl 2 rfl) ?_
              refine lv_iload_n hx hb dX6_see_87 rfl (lv_at hl 2 rfl) ?_
              refine ki_if_ne (tgt := 110) hx hb dX6_see_88 (by decide) (by omega) (by omega) (fun c_15 => ?_) (fun c_15 => ?_)
              · skip
                refine lv_iconst (v := iz 0) hx hb dX6_see_110 (by decide) ?_
                refine lv_iconst (v := iz 0) hx hb dX6_see_111 (by decide) ?_
                refine mk_calli (As := [.int (iz 1), .int (iz 0), .int (iz 0)]) (rest := []) ⟨hx, hb, hml, hown, hts⟩ (k_refused1 l dC dI mo ma cs I F 0 0 H.size (by omega) (by omega) (by omega) (by omega)) (cwV 3 hts (kx_gV kq_04_msmall_8 kq_04_msmall_9 kq_04_msmall_10 kq_04_msmall_6 kq_04_msmall_11 rfl) rfl rfl rfl (by decide +kernel) ⟨Nat.le_of_ble_eq_true rfl, Nat.le_of_ble_eq_true rfl⟩) hP hD hK hG hZ hS hA rfl hl.1 rfl (Nat.le_of_ble_eq_true rfl) dX6_see_112 ⟨Nat.le_of_ble_eq_true rfl, Nat.le_of_ble_eq_true rfl⟩ (fun z_16 I_18 F_19 H locs hq_17 hP hD hS => ?_)
                try dsimp only at hq_17
                obtain ⟨rfl, rfl, rfl⟩ := hq_17
                refine ki_if_ne (tgt := 123) hx hb dX6_see_115 (by decide) (by omega) (by omega) (fun c_20 => ?_) (fun c_20 => ?_)
                · skip
                  refine lv_iconst (v := iz 0) hx hb dX6_see_123 (by decide) ?_
                  rw [← hQe]
                  exact mk_ireti hx hb hr hlocks hP hD hK hS dX6_see_124 (Or.inl ⟨by omega, rfl, rfl⟩)
                · omega
              · omega
            · omega
        exact lp37 _ 1 0 ⟨by omega, by omega⟩ (Nat.lt_succ_self _) _ _ hP hD hS ls (lv_sub hl [0, 1, 2, 3, 4, 5] rfl)
    · omega
  · skip
    refine ki_if_ne (tgt := 16) hx hb dX6_see_5 (by decide) (by omega) (by omega) (fun c_21 => ?_) (fun c_21 => ?_)
    · omega
    · skip
      refine lv_aload_n hx hb dX6_see_8 rfl (lv_at hl 0 rfl) ?_
      refine lv_iload_n hx hb dX6_see_9 rfl (lv_at hl 2 rfl) ?_
      refine mk_calli (As := [.int (iz p1)]) (rest := []) ⟨hx, hb, hml, hown, hts⟩ (k_isNone l dC dI mo ma cs I F p1 H.size hB (by omega) (by omega)) (cwV 1 hts (kx_gV kq_04_msmall_3 kq_04_msmall_4 kq_04_msmall_5 kq_04_msmall_6 kq_04_msmall_7 rfl) rfl rfl rfl (by decide +kernel) ⟨Nat.le_of_ble_eq_true rfl, Nat.le_of_ble_eq_true rfl⟩) hP hD hK hG hZ hS hA rfl hl.1 rfl (Nat.le_of_ble_eq_true rfl) dX6_see_10 ⟨Nat.le_of_ble_eq_true rfl, Nat.le_of_ble_eq_true rfl⟩ (fun z_22 I_24 F_25 H locs hq_23 hP hD hS => ?_)
      try dsimp only at hq_23
      obtain ⟨rfl, rfl, hq_23⟩ := hq_23
      rcases hq_23 with ⟨rfl, hq_23⟩ | ⟨rfl, hq_23⟩
      · skip
        refine ki_if_eq (tgt := 20) hx hb dX6_see_13 (by decide) (by omega) (by omega) (fun c_26 => ?_) (fun c_26 => ?_)
        · omega
        · skip
          refine lv_iconst (v := iz 1) hx hb dX6_see_16 (by decide) ?_
          refine lv_goto (tgt := 21) hx hb dX6_see_17 (by decide) ?_
          refine lv_istore_n (lv' := [(3, .int (iz 1)), (0, .ref mo), (1, .int (iz p0)), (2, .int (iz p1))]) hx hb dX6_see_21 rfl hl (by decide) rfl (fun ls hl => ?_)
          refine lv_iload_n hx hb dX6_see_22 rfl (lv_at hl 2 rfl) ?_
          refine lv_iload_n hx hb dX6_see_23 rfl (lv_at hl 3 rfl) ?_
          refine ki_icmp_ne (tgt := 31) hx hb dX6_see_24 (by decide) (by omega) (by omega) (by omega) (by omega) (fun c_27 => ?_) (fun c_27 => ?_)
          · skip
            refine lv_iconst (v := iz 0) hx hb dX6_see_31 (by decide) ?_
            refine lv_istore (lv' := [(4, .int (iz 0)), (3, .int (iz 1)), (0, .ref mo), (1, .int (iz p0)), (2, .int (iz p1))]) hx hb dX6_see_32 hl (by decide) rfl (fun ls hl => ?_)
            refine lv_iconst (v := iz 0) hx hb dX6_see_34 (by decide) ?_
            refine lv_istore (lv' := [(5, .int (iz 0)), (4, .int (iz 0)), (3, .int (iz 1)), (0, .ref mo), (1, .int (iz p0)), (2, .int (iz p1))]) hx hb dX6_see_35 hl (by decide) rfl (fun ls hl => ?_)
            have lp37 : ∀ (n : Nat) (is kk : Int), ((is = 0 ∨ is = 1) ∧ (0 ≤ kk ∧ kk ≤ 5)) → (F 13 p0 - kk).toNat < n → ∀ (H : Heap) (locs : List Loc), va_P (dC, dI) kxCl (mW mo ma cs I F) H → va_D A (mW mo ma cs I F) → va_S A s.heap H locs → ∀ ls : Array Slot, lv_has ls 6 [(5, .int (iz kk)), (4, .int (iz is)), (3, .int (iz 1)), (0, .ref mo), (1, .int (iz p0)), (2, .int (iz p1))] → W p l e (headSpec [.code yX6_see cX6_see 6 (some .int)] ({ frames := 1, cells := 0, slots := 0, locals := 23 })).room s m ([.ref mo, .int (iz p0), .int (iz p1)] : List Value).toArray below meth c H locs 0 0 QQ (F0 m 37 ls []) := by
              intro n
              induction n with
              | zero => intro is kk hinv hm; exact absurd hm (Nat.not_lt_zero _)
              | succ n ih37 =>
                intro is kk hinv hm H locs hP hD hS ls hl
                obtain ⟨hi, hk⟩ := hinv
                refine lv_iload_n hx hb dX6_see_37 rfl (lv_at hl 2 rfl) ?_
                refine ki_if_ne (tgt := 85) hx hb dX6_see_38 (by decide) (by omega) (by omega) (fun c_28 => ?_) (fun c_28 => ?_)
                · skip
                  refine lv_aload_n hx hb dX6_see_85 rfl (lv_at hl 3 rfl) ?_
                  refine lv_iload_n hx hb dX6_see_86 rfl (lv_at hl 2 rfl) ?_
                  refine lv_iload_n hx hb dX6_see_87 rfl (lv_at hl 2 rfl) ?_
                  refine ki_if_ne (tgt := 110) hx hb dX6_see_88 (by decide) (by omega) (by omega) (fun c_29 => ?_) (fun c_29 => ?_)
                  · skip
                    refine lv_iconst (v := iz 0) hx hb dX6_see_110 (by decide) ?_
                    refine lv_iconst (v := iz 0) hx hb dX6_see_111 (by decide) ?_
                    refine mk_calli (As := [.int (iz 1), .int (iz 0), .int (iz 0)]) (rest := []) ⟨hx, hb, hml, hown, hts⟩ (k_refused1 l dC dI mo ma cs I F 0 0 H.size (by omega) (by omega) (by omega) (by omega)) (cwV 3 hts (kx_gV kq_04_msmall_8 kq_04_msmall_9 kq_04_msmall_10 kq_04_msmall_6 kq_04_msmall_11 rfl) rfl rfl rfl (by decide +kernel) ⟨Nat.le_of_ble_eq_true rfl, Nat.le_of_ble_eq_true rfl⟩) hP hD hK hG hZ hS hA rfl hl.1 rfl (Nat.le_of_ble_eq_true rfl) dX6_see_112 ⟨Nat.le_of_ble_eq_true rfl, Nat.le_of_ble_eq_true rfl⟩ (fun z_30 I_32 F_33 H locs hq_31 hP hD hS => ?_)
                    try dsimp only at hq_31
                    obtain ⟨rfl, rfl, rfl⟩ := hq_31
                    refine ki_if_ne (tgt := 123) hx hb dX6_see_115 (by decide) (by omega) (by omega) (fun c_34 => ?_) (fun c_34 => ?_)
                    · skip
                      refine lv_iconst (v := iz 0) hx hb dX6_see_123 (by decide) ?_
                      rw [← hQe]
                      exact mk_ireti hx hb hr hlocks hP hD hK hS dX6_see_124 (Or.inl ⟨by omega, rfl, rfl⟩)
                    · omega
                  · omega
                · omega
            exact lp37 _ 0 0 ⟨by omega, by omega⟩ (Nat.lt_succ_self _) _ _ hP hD hS ls (lv_sub hl [0, 1, 2, 3, 4, 5] rfl)
          · skip
            refine lv_iconst (v := iz 1) hx hb dX6_see_27 (by decide) ?_
            refine lv_goto (tgt := 32) hx hb dX6_see_28 (by decide) ?_
            refine lv_istore (lv' := [(4, .int (iz 1)), (3, .int (iz 1)), (0, .ref mo), (1, .int (iz p0)), (2, .int (iz p1))]) hx hb dX6_see_32 hl (by decide) rfl (fun ls hl => ?_)
            refine lv_iconst (v := iz 0) hx hb dX6_see_34 (by decide) ?_
            refine lv_istore (lv' := [(5, .int (iz 0)), (4, .int (iz 1)), (3, .int (iz 1)), (0, .ref mo), (1, .int (iz p0)), (2, .int (iz p1))]) hx hb dX6_see_35 hl (by decide) rfl (fun ls hl => ?_)
            have lp37 : ∀ (n : Nat) (is kk : Int), ((is = 0 ∨ is = 1) ∧ (0 ≤ kk ∧ kk ≤ 5)) → (F 13 p0 - kk).toNat < n → ∀ (H : Heap) (locs : List Loc), va_P (dC, dI) kxCl (mW mo ma cs I F) H → va_D A (mW mo ma cs I F) → va_S A s.heap H locs → ∀ ls : Array Slot, lv_has ls 6 [(5, .int (iz kk)), (4, .int (iz is)), (3, .int (iz 1)), (0, .ref mo), (1, .int (iz p0)), (2, .int (iz p1))] → W p l e (headSpec [.code yX6_see cX6_see 6 (some .int)] ({ frames := 1, cells := 0, slots := 0, locals := 23 })).room s m ([.ref mo, .int (iz p0), .int (iz p1)] : List Value).toArray below meth c H locs 0 0 QQ (F0 m 37 ls []) := by
              intro n
              induction n with
              | zero => intro is kk hinv hm; exact absurd hm (Nat.not_lt_zero _)
              | succ n ih37 =>
                intro is kk hinv hm H locs hP hD hS ls hl
                obtain ⟨hi, hk⟩ := hinv
                refine lv_iload_n hx hb dX6_see_37 rfl (lv_at hl 2 rfl) ?_
                refine ki_if_ne (tgt := 85) hx hb dX6_see_38 (by decide) (by omega) (by omega) (fun c_35 => ?_) (fun c_35 => ?_)
                · skip
                  refine lv_aload_n hx hb dX6_see_85 rfl (lv_at hl 3 rfl) ?_
                  refine lv_iload_n hx hb dX6_see_86 rfl (lv_at hl 2 rfl) ?_
                  refine lv_iload_n hx hb dX6_see_87 rfl (lv_at hl 2 rfl) ?_
                  refine ki_if_ne (tgt := 110) hx hb dX6_see_88 (by decide) (by omega) (by omega) (fun c_36 => ?_) (fun c_36 => ?_)
                  · skip
                    refine lv_iconst (v := iz 0) hx hb dX6_see_110 (by decide) ?_
                    refine lv_iconst (v := iz 0) hx hb dX6_see_111 (by decide) ?_
                    refine mk_calli (As := [.int (iz 1), .int (iz 0), .int (iz 0)]) (rest := []) ⟨hx, hb, hml, hown, hts⟩ (k_refused1 l dC dI mo ma cs I F 0 0 H.size (by omega) (by omega) (by omega) (by omega)) (cwV 3 hts (kx_gV kq_04_msmall_8 kq_04_msmall_9 kq_04_msmall_10 kq_04_msmall_6 kq_04_msmall_11 rfl) rfl rfl rfl (by decide +kernel) ⟨Nat.le_of_ble_eq_true rfl, Nat.le_of_ble_eq_true rfl⟩) hP hD hK hG hZ hS hA rfl hl.1 rfl (Nat.le_of_ble_eq_true rfl) dX6_see_112 ⟨Nat.le_of_ble_eq_true rfl, Nat.le_of_ble_eq_true rfl⟩ (fun z_37 I_39 F_40 H locs hq_38 hP hD hS => ?_)
                    try dsimp only at hq_38
                    obtain ⟨rfl, rfl, rfl⟩ := hq_38
                    refine ki_if_ne (tgt := 123) hx hb dX6_see_115 (by decide) (by omega) (by omega) (fun c_41 => ?_) (fun c_41 => ?_)
                    · skip
                      refine lv_iconst (v := iz 0) hx hb dX6_see_123 (by decide) ?_
                      rw [← hQe]
                      exact mk_ireti hx hb hr hlocks hP hD hK hS dX6_see_124 (Or.inl ⟨by omega, rfl, rfl⟩)
                    · omega
                  · omega
                · omega
            exact lp37 _ 1 0 ⟨by omega, by omega⟩ (Nat.lt_succ_self _) _ _ hP hD hS ls (lv_sub hl [0, 1, 2, 3, 4, 5] rfl)
      · skip
        refine ki_if_eq (tgt := 20) hx hb dX6_see_13 (by decide) (by omega) (by omega) (fun c_42 => ?_) (fun c_42 => ?_)
        · skip
          refine lv_iconst (v := iz 0) hx hb dX6_see_20 (by decide) ?_
          refine lv_istore_n (lv' := [(3, .int (iz 0)), (0, .ref mo), (1, .int (iz p0)), (2, .int (iz p1))]) hx hb dX6_see_21 rfl hl (by decide) rfl (fun ls hl => ?_)
          refine lv_iload_n hx hb dX6_see_22 rfl (lv_at hl 2 rfl) ?_
          refine lv_iload_n hx hb dX6_see_23 rfl (lv_at hl 3 rfl) ?_
          refine ki_icmp_ne (tgt := 31) hx hb dX6_see_24 (by decide) (by omega) (by omega) (by omega) (by omega) (fun c_43 => ?_) (fun c_43 => ?_)
          · skip
            refine lv_iconst (v := iz 0) hx hb dX6_see_31 (by decide) ?_
            refine lv_istore (lv' := [(4, .int (iz 0)), (3, .int (iz 0)), (0, .ref mo), (1, .int (iz p0)), (2, .int (iz p1))]) hx hb dX6_see_32 hl (by decide) rfl (fun ls hl => ?_)
            refine lv_iconst (v := iz 0) hx hb dX6_see_34 (by decide) ?_
            refine lv_istore (lv' := [(5, .int (iz 0)), (4, .int (iz 0)), (3, .int (iz 0)), (0, .ref mo), (1, .int (iz p0)), (2, .int (iz p1))]) hx hb dX6_see_35 hl (by decide) rfl (fun ls hl => ?_)
            have lp37 : ∀ (n : Nat) (is kk : Int), ((is = 0 ∨ is = 1) ∧ (0 ≤ kk ∧ kk ≤ 5)) → (F 13 p0 - kk).toNat < n → ∀ (H : Heap) (locs : List Loc), va_P (dC, dI) kxCl (mW mo ma cs I F) H → va_D A (mW mo ma cs I F) → va_S A s.heap H locs → ∀ ls : Array Slot, lv_has ls 6 [(5, .int (iz kk)), (4, .int (iz is)), (3, .int (iz 0)), (0, .ref mo), (1, .int (iz p0)), (2, .int (iz p1))] → W p l e (headSpec [.code yX6_see cX6_see 6 (some .int)] ({ frames := 1, cells := 0, slots := 0, locals := 23 })).room s m ([.ref mo, .int (iz p0), .int (iz p1)] : List Value).toArray below meth c H locs 0 0 QQ (F0 m 37 ls []) := by
              intro n
              induction n with
              | zero => intro is kk hinv hm; exact absurd hm (Nat.not_lt_zero _)
              | succ n ih37 =>
                intro is kk hinv hm H locs hP hD hS ls hl
                obtain ⟨hi, hk⟩ := hinv
                refine lv_iload_n hx hb dX6_see_37 rfl (lv_at hl 2 rfl) ?_
                refine ki_if_ne (tgt := 85) hx hb dX6_see_38 (by decide) (by omega) (by omega) (fun c_44 => ?_) (fun c_44 => ?_)
                · omega
                · skip
                  refine lv_iload hx hb dX6_see_41 (lv_at hl 0 rfl) ?_
                  refine lv_aload_n hx hb dX6_see_43 rfl (lv_at hl 3 rfl) ?_
                  refine va_get (D := (dC, dI)) (ci := 6) (v := .ref (ma 13)) (C := RX6) (T := TX6) (N := 44) hx hb hts kt_X6 hown hK hP 0 rfl rfl 13 (by decide) (kx_word hG kq_04_msmall_38 rfl) (fun _ h9 => h9) rfl dX6_see_44 ?_
                  refine lv_iload_n hx hb dX6_see_47 rfl (lv_at hl 4 rfl) ?_
                  refine ki_iald (F := F 13) hx hb hK hP 12 11 rfl rfl (by omega) (by omega) (by decide) dX6_see_48 ?_
                  have hbd_45 := hB.2 13 p0
                  refine ki_icmp_ge (tgt := 85) hx hb dX6_see_49 (by decide) (by omega) (by omega) (by omega) (by omega) (fun c_46 => ?_) (fun c_46 => ?_)
                  · skip
                    refine lv_aload_n hx hb dX6_see_85 rfl (lv_at hl 3 rfl) ?_
                    refine lv_iload_n hx hb dX6_see_86 rfl (lv_at hl 2 rfl) ?_
                    refine lv_iload_n hx hb dX6_see_87 rfl (lv_at hl 2 rfl) ?_
                    refine ki_if_ne (tgt := 110) hx hb dX6_see_88 (by decide) (by omega) (by omega) (fun c_47 => ?_) (fun c_47 => ?_)
                    · omega
                    · skip
                      refine lv_iload hx hb dX6_see_91 (lv_at hl 1 rfl) ?_
                      refine ki_if_ne (tgt := 110) hx hb dX6_see_93 (by decide) (by omega) (by omega) (fun c_48 => ?_) (fun c_48 => ?_)
                      · skip
                        refine lv_iconst (v := iz 0) hx hb dX6_see_110 (by decide) ?_
                        refine lv_iconst (v := iz 0) hx hb dX6_see_111 (by decide) ?_
                        refine mk_calli (As := [.int (iz 0), .int (iz 0), .int (iz 0)]) (rest := []) ⟨hx, hb, hml, hown, hts⟩ (k_refused0 l dC dI mo ma cs I F  H.size ) (cwV 3 hts (kx_gV kq_04_msmall_8 kq_04_msmall_9 kq_04_msmall_10 kq_04_msmall_6 kq_04_msmall_11 rfl) rfl rfl rfl (by decide +kernel) ⟨Nat.le_of_ble_eq_true rfl, Nat.le_of_ble_eq_true rfl⟩) hP hD hK hG hZ hS hA rfl hl.1 rfl (Nat.le_of_ble_eq_true rfl) dX6_see_112 ⟨Nat.le_of_ble_eq_true rfl, Nat.le_of_ble_eq_true rfl⟩ (fun z_49 I_51 F_52 H locs hq_50 hP hD hS => ?_)
                        try dsimp only at hq_50
                        obtain ⟨rfl, rfl, rfl⟩ := hq_50
                        refine ki_if_ne (tgt := 123) hx hb dX6_see_115 (by decide) (by omega) (by omega) (fun c_53 => ?_) (fun c_53 => ?_)
                        · omega
                        · skip
                          refine lv_iload hx hb dX6_see_118 (lv_at hl 1 rfl) ?_
                          refine ki_if_eq (tgt := 125) hx hb dX6_see_120 (by decide) (by omega) (by omega) (fun c_54 => ?_) (fun c_54 => ?_)
                          · omega
                          · skip
                            refine lv_iconst (v := iz 0) hx hb dX6_see_123 (by decide) ?_
                            rw [← hQe]
                            exact mk_ireti hx hb hr hlocks hP hD hK hS dX6_see_124 (Or.inr (Or.inr (Or.inl ⟨by omega, rfl, rfl⟩)))
                      · skip
                        refine lv_aload_n hx hb dX6_see_96 rfl (lv_at hl 3 rfl) ?_
                        refine va_get (D := (dC, dI)) (ci := 6) (v := .ref (ma 13)) (C := RX6) (T := TX6) (N := 44) hx hb hts kt_X6 hown hK hP 0 rfl rfl 13 (by decide) (kx_word hG kq_04_msmall_38 rfl) (fun _ h9 => h9) rfl dX6_see_97 ?_
                        refine lv_iload_n hx hb dX6_see_100 rfl (lv_at hl 4 rfl) ?_
                        refine ki_iald (F := F 13) hx hb hK hP 12 11 rfl rfl (by omega) (by omega) (by decide) dX6_see_101 ?_
                        refine lv_iconst (v := iz 5) hx hb dX6_see_102 (by decide) ?_
                        refine ki_icmp_ne (tgt := 110) hx hb dX6_see_103 (by decide) (by omega) (by omega) (by omega) (by omega) (fun c_55 => ?_) (fun c_55 => ?_)
                        · skip
                          refine lv_iconst (v := iz 0) hx hb dX6_see_110 (by decide) ?_
                          refine lv_iconst (v := iz 0) hx hb dX6_see_111 (by decide) ?_
                          refine mk_calli (As := [.int (iz 0), .int (iz 0), .int (iz 0)]) (rest := []) ⟨hx, hb, hml, hown, hts⟩ (k_refused0 l dC dI mo ma cs I F  H.size ) (cwV 3 hts (kx_gV kq_04_msmall_8 kq_04_msmall_9 kq_04_msmall_10 kq_04_msmall_6 kq_04_msmall_11 rfl) rfl rfl rfl (by decide +kernel) ⟨Nat.le_of_ble_eq_true rfl, Nat.le_of_ble_eq_true rfl⟩) hP hD hK hG hZ hS hA rfl hl.1 rfl (Nat.le_of_ble_eq_true rfl) dX6_see_112 ⟨Nat.le_of_ble_eq_true rfl, Nat.le_of_ble_eq_true rfl⟩ (fun z_56 I_58 F_59 H locs hq_57 hP hD hS => ?_)
                          try dsimp only at hq_57
                          obtain ⟨rfl, rfl, rfl⟩ := hq_57
                          refine ki_if_ne (tgt := 123) hx hb dX6_see_115 (by decide) (by omega) (by omega) (fun c_60 => ?_) (fun c_60 => ?_)
                          · omega
                          · skip
                            refine lv_iload hx hb dX6_see_118 (lv_at hl 1 rfl) ?_
                            refine ki_if_eq (tgt := 125) hx hb dX6_see_120 (by decide) (by omega) (by omega) (fun c_61 => ?_) (fun c_61 => ?_)
                            · skip
                              refine lv_aload_n hx hb dX6_see_125 rfl (lv_at hl 3 rfl) ?_
                              refine va_get (D := (dC, dI)) (ci := 6) (v := .ref (ma 12)) (C := RX6) (T := TX6) (N := 44) hx hb hts kt_X6 hown hK hP 0 rfl rfl 12 (by decide) (kx_word hG kq_04_msmall_39 rfl) (fun _ h9 => h9) rfl dX6_see_126 ?_
                              refine lv_iconst (v := iz 5) hx hb dX6_see_129 (by decide) ?_
                              refine lv_iload_n hx hb dX6_see_130 rfl (lv_at hl 4 rfl) ?_
                              refine ki_imul hx hb dX6_see_131 ?_
                              refine lv_aload_n hx hb dX6_see_132 rfl (lv_at hl 3 rfl) ?_
                              refine va_get (D := (dC, dI)) (ci := 6) (v := .ref (ma 13)) (C := RX6) (T := TX6) (N := 44) hx hb hts kt_X6 hown hK hP 0 rfl rfl 13 (by decide) (kx_word hG kq_04_msmall_38 rfl) (fun _ h9 => h9) rfl dX6_see_133 ?_
                              refine lv_iload_n hx hb dX6_see_136 rfl (lv_at hl 4 rfl) ?_
                              refine ki_iald (F := F 13) hx hb hK hP 12 11 rfl rfl (by omega) (by omega) (by decide) dX6_see_137 ?_
                              refine ki_iadd hx hb dX6_see_138 ?_
                              refine lv_iload_n hx hb dX6_see_139 rfl (lv_at hl 5 rfl) ?_
                              refine ki_iast (F := F 12) hx hb hK hP hD hS 11 10 rfl rfl (by omega) (by omega) (by decide) dX6_see_140 (fun H locs hP hD hS => ?_)
                              have hP : va_P (dC, dI) kxCl (mW mo ma cs (va_up I 0 0) (va_up F 12 (upI (F 12) ((5 * p0) + (F 13 p0)) p1))) H := hP
                              have hD : va_D A (mW mo ma cs (va_up I 0 0) (va_up F 12 (upI (F 12) ((5 * p0) + (F 13 p0)) p1))) := hD
                              refine lv_aload_n hx hb dX6_see_141 rfl (lv_at hl 3 rfl) ?_
                              refine va_get (D := (dC, dI)) (ci := 6) (v := .ref (ma 13)) (C := RX6) (T := TX6) (N := 44) hx hb hts kt_X6 hown hK hP 0 rfl rfl 13 (by decide) (kx_word hG kq_04_msmall_38 rfl) (fun _ h9 => h9) rfl dX6_see_142 ?_
                              refine lv_iload_n hx hb dX6_see_145 rfl (lv_at hl 4 rfl) ?_
                              refine lv_dup2_11 hx hb dX6_see_146 rfl rfl ?_
                              refine ki_iald (F := F 13) hx hb hK hP 12 11 rfl rfl (by omega) (by omega) (by decide) dX6_see_147 ?_
                              refine lv_iconst (v := iz 1) hx hb dX6_see_148 (by decide) ?_
                              refine ki_iadd hx hb dX6_see_149 ?_
                              refine ki_iast (F := F 13) hx hb hK hP hD hS 12 11 rfl rfl (by omega) (by omega) (by decide) dX6_see_150 (fun H locs hP hD hS => ?_)
                              have hP : va_P (dC, dI) kxCl (mW mo ma cs (va_up I 0 0) (va_up (va_up F 12 (upI (F 12) ((5 * p0) + (F 13 p0)) p1)) 13 (upI (F 13) p0 ((F 13 p0) + 1)))) H := hP
                              have hD : va_D A (mW mo ma cs (va_up I 0 0) (va_up (va_up F 12 (upI (F 12) ((5 * p0) + (F 13 p0)) p1)) 13 (upI (F 13) p0 ((F 13 p0) + 1)))) := hD
                              refine lv_iconst (v := iz 1) hx hb dX6_see_151 (by decide) ?_
                              rw [← hQe]
                              exact mk_ireti hx hb hr hlocks hP hD hK hS dX6_see_152 (Or.inr (Or.inr (Or.inr (⟨by omega, rfl, rfl, by omega, by omega, by omega⟩))))
                            · omega
                        · skip
                          refine lv_iconst (v := iz 1) hx hb dX6_see_106 (by decide) ?_
                          refine lv_goto (tgt := 111) hx hb dX6_see_107 (by decide) ?_
                          refine lv_iconst (v := iz 0) hx hb dX6_see_111 (by decide) ?_
                          refine mk_calli (As := [.int (iz 0), .int (iz 1), .int (iz 0)]) (rest := []) ⟨hx, hb, hml, hown, hts⟩ (k_refused2 l dC dI mo ma cs I F 0 H.size (by omega) (by omega)) (cwV 3 hts (kx_gV kq_04_msmall_8 kq_04_msmall_9 kq_04_msmall_10 kq_04_msmall_6 kq_04_msmall_11 rfl) rfl rfl rfl (by decide +kernel) ⟨Nat.le_of_ble_eq_true rfl, Nat.le_of_ble_eq_true rfl⟩) hP hD hK hG hZ hS hA rfl hl.1 rfl (Nat.le_of_ble_eq_true rfl) dX6_see_112 ⟨Nat.le_of_ble_eq_true rfl, Nat.le_of_ble_eq_true rfl⟩ (fun z_62 I_64 F_65 H locs hq_63 hP hD hS => ?_)
                          try dsimp only at hq_63
                          obtain ⟨rfl, rfl, rfl⟩ := hq_63
                          refine ki_if_ne (tgt := 123) hx hb dX6_see_115 (by decide) (by omega) (by omega) (fun c_66 => ?_) (fun c_66 => ?_)
                          · skip
                            refine lv_iconst (v := iz 0) hx hb dX6_see_123 (by decide) ?_
                            rw [← hQe]
                            exact mk_ireti hx hb hr hlocks hP hD hK hS dX6_see_124 (Or.inr (Or.inl ⟨by omega, rfl, rfl⟩))
                          · omega
                  · skip
                    refine lv_iload hx hb dX6_see_52 (lv_at hl 1 rfl) ?_
                    refine ki_if_ne (tgt := 72) hx hb dX6_see_54 (by decide) (by omega) (by omega) (fun c_67 => ?_) (fun c_67 => ?_)
                    · skip
                      refine lv_iconst (v := iz 1) hx hb dX6_see_72 (by decide) ?_
                      refine lv_goto (tgt := 77) hx hb dX6_see_73 (by decide) ?_
                      refine lv_istore (lv' := [(4, .int (iz 1)), (5, .int (iz kk)), (3, .int (iz 0)), (0, .ref mo), (1, .int (iz p0)), (2, .int (iz p1))]) hx hb dX6_see_77 hl (by decide) rfl (fun ls hl => ?_)
                      refine lv_iinc (v := iz (kk + 1)) (lv' := [(5, .int (iz (kk + 1))), (4, .int (iz 1)), (3, .int (iz 0)), (0, .ref mo), (1, .int (iz p0)), (2, .int (iz p1))]) hx hb dX6_see_79 hl (k := 1) rfl (iz_add kk 1) (by decide) rfl (fun ls hl => ?_)
                      refine lv_goto (tgt := 37) hx hb dX6_see_82 (by decide) ?_
                      exact ih37 1 (kk + 1) ⟨by omega, by omega⟩ (by omega) _ _ hP hD hS ls (lv_sub hl [0, 1, 2, 3, 4, 5] rfl)
                    · skip
                      refine lv_aload_n hx hb dX6_see_57 rfl (lv_at hl 3 rfl) ?_
                      refine va_get (D := (dC, dI)) (ci := 6) (v := .ref (ma 12)) (C := RX6) (T := TX6) (N := 44) hx hb hts kt_X6 hown hK hP 0 rfl rfl 12 (by decide) (kx_word hG kq_04_msmall_39 rfl) (fun _ h9 => h9) rfl dX6_see_58 ?_
                      refine lv_iconst (v := iz 5) hx hb dX6_see_61 (by decide) ?_
                      refine lv_iload_n hx hb dX6_see_62 rfl (lv_at hl 4 rfl) ?_
                      refine ki_imul hx hb dX6_see_63 ?_
                      refine lv_iload hx hb dX6_see_64 (lv_at hl 0 rfl) ?_
                      refine ki_iadd hx hb dX6_see_66 ?_
                      refine ki_iald (F := F 12) hx hb hK hP 11 10 rfl rfl (by omega) (by omega) (by decide) dX6_see_67 ?_
                      have hbd_68 := hB.2 12 ((5 * p0) + kk)
                      refine lv_iload_n hx hb dX6_see_68 rfl (lv_at hl 5 rfl) ?_
                      refine ki_icmp_ne (tgt := 76) hx hb dX6_see_69 (by decide) (by omega) (by omega) (by omega) (by omega) (fun c_69 => ?_) (fun c_69 => ?_)
                      · skip
                        refine lv_iconst (v := iz 0) hx hb dX6_see_76 (by decide) ?_
                        refine lv_istore (lv' := [(4, .int (iz 0)), (5, .int (iz kk)), (3, .int (iz 0)), (0, .ref mo), (1, .int (iz p0)), (2, .int (iz p1))]) hx hb dX6_see_77 hl (by decide) rfl (fun ls hl => ?_)
                        refine lv_iinc (v := iz (kk + 1)) (lv' := [(5, .int (iz (kk + 1))), (4, .int (iz 0)), (3, .int (iz 0)), (0, .ref mo), (1, .int (iz p0)), (2, .int (iz p1))]) hx hb dX6_see_79 hl (k := 1) rfl (iz_add kk 1) (by decide) rfl (fun ls hl => ?_)
                        refine lv_goto (tgt := 37) hx hb dX6_see_82 (by decide) ?_
                        exact ih37 0 (kk + 1) ⟨by omega, by omega⟩ (by omega) _ _ hP hD hS ls (lv_sub hl [0, 1, 2, 3, 4, 5] rfl)
                      · skip
                        refine lv_iconst (v := iz 1) hx hb dX6_see_72 (by decide) ?_
                        refine lv_goto (tgt := 77) hx hb dX6_see_73 (by decide) ?_
                        refine lv_istore (lv' := [(4, .int (iz 1)), (5, .int (iz kk)), (3, .int (iz 0)), (0, .ref mo), (1, .int (iz p0)), (2, .int (iz p1))]) hx hb dX6_see_77 hl (by decide) rfl (fun ls hl => ?_)
                        refine lv_iinc (v := iz (kk + 1)) (lv' := [(5, .int (iz (kk + 1))), (4, .int (iz 1)), (3, .int (iz 0)), (0, .ref mo), (1, .int (iz p0)), (2, .int (iz p1))]) hx hb dX6_see_79 hl (k := 1) rfl (iz_add kk 1) (by decide) rfl (fun ls hl => ?_)
                        refine lv_goto (tgt := 37) hx hb dX6_see_82 (by decide) ?_
                        exact ih37 1 (kk + 1) ⟨by omega, by omega⟩ (by omega) _ _ hP hD hS ls (lv_sub hl [0, 1, 2, 3, 4, 5] rfl)
            exact lp37 _ 0 0 ⟨by omega, by omega⟩ (Nat.lt_succ_self _) _ _ hP hD hS ls (lv_sub hl [0, 1, 2, 3, 4, 5] rfl)
          · skip
            refine lv_iconst (v := iz 1) hx hb dX6_see_27 (by decide) ?_
            refine lv_goto (tgt := 32) hx hb dX6_see_28 (by decide) ?_
            refine lv_istore (lv' := [(4, .int (iz 1)), (3, .int (iz 0)), (0, .ref mo), (1, .int (iz p0)), (2, .int (iz p1))]) hx hb dX6_see_32 hl (by decide) rfl (fun ls hl => ?_)
            refine lv_iconst (v := iz 0) hx hb dX6_see_34 (by decide) ?_
            refine lv_istore (lv' := [(5, .int (iz 0)), (4, .int (iz 1)), (3, .int (iz 0)), (0, .ref mo), (1, .int (iz p0)), (2, .int (iz p1))]) hx hb dX6_see_35 hl (by decide) rfl (fun ls hl => ?_)
            have lp37 : ∀ (n : Nat) (is kk : Int), ((is = 0 ∨ is = 1) ∧ (0 ≤ kk ∧ kk ≤ 5)) → (F 13 p0 - kk).toNat < n → ∀ (H : Heap) (locs : List Loc), va_P (dC, dI) kxCl (mW mo ma cs I F) H → va_D A (mW mo ma cs I F) → va_S A s.heap H locs → ∀ ls : Array Slot, lv_has ls 6 [(5, .int (iz kk)), (4, .int (iz is)), (3, .int (iz 0)), (0, .ref mo), (1, .int (iz p0)), (2, .int (iz p1))] → W p l e (headSpec [.code yX6_see cX6_see 6 (some .int)] ({ frames := 1, cells := 0, slots := 0, locals := 23 })).room s m ([.ref mo, .int (iz p0), .int (iz p1)] : List Value).toArray below meth c H locs 0 0 QQ (F0 m 37 ls []) := by
              intro n
              induction n with
              | zero => intro is kk hinv hm; exact absurd hm (Nat.not_lt_zero _)
              | succ n ih37 =>
                intro is kk hinv hm H locs hP hD hS ls hl
                obtain ⟨hi, hk⟩ := hinv
                refine lv_iload_n hx hb dX6_see_37 rfl (lv_at hl 2 rfl) ?_
                refine ki_if_ne (tgt := 85) hx hb dX6_see_38 (by decide) (by omega) (by omega) (fun c_70 => ?_) (fun c_70 => ?_)
                · omega
                · skip
                  refine lv_iload hx hb dX6_see_41 (lv_at hl 0 rfl) ?_
                  refine lv_aload_n hx hb dX6_see_43 rfl (lv_at hl 3 rfl) ?_
                  refine va_get (D := (dC, dI)) (ci := 6) (v := .ref (ma 13)) (C := RX6) (T := TX6) (N := 44) hx hb hts kt_X6 hown hK hP 0 rfl rfl 13 (by decide) (kx_word hG kq_04_msmall_38 rfl) (fun _ h9 => h9) rfl dX6_see_44 ?_
                  refine lv_iload_n hx hb dX6_see_47 rfl (lv_at hl 4 rfl) ?_
                  refine ki_iald (F := F 13) hx hb hK hP 12 11 rfl rfl (by omega) (by omega) (by decide) dX6_see_48 ?_
                  have hbd_71 := hB.2 13 p0
                  refine ki_icmp_ge (tgt := 85) hx hb dX6_see_49 (by decide) (by omega) (by omega) (by omega) (by omega) (fun c_72 => ?_) (fun c_72 => ?_)
                  · skip
                    refine lv_aload_n hx hb dX6_see_85 rfl (lv_at hl 3 rfl) ?_
                    refine lv_iload_n hx hb dX6_see_86 rfl (lv_at hl 2 rfl) ?_
                    refine lv_iload_n hx hb dX6_see_87 rfl (lv_at hl 2 rfl) ?_
                    refine ki_if_ne (tgt := 110) hx hb dX6_see_88 (by decide) (by omega) (by omega) (fun c_73 => ?_) (fun c_73 => ?_)
                    · omega
                    · skip
                      refine lv_iload hx hb dX6_see_91 (lv_at hl 1 rfl) ?_
                      refine ki_if_ne (tgt := 110) hx hb dX6_see_93 (by decide) (by omega) (by omega) (fun c_74 => ?_) (fun c_74 => ?_)
                      · skip
                        refine lv_iconst (v := iz 0) hx hb dX6_see_110 (by decide) ?_
                        refine lv_iconst (v := iz 0) hx hb dX6_see_111 (by decide) ?_
                        refine mk_calli (As := [.int (iz 0), .int (iz 0), .int (iz 0)]) (rest := []) ⟨hx, hb, hml, hown, hts⟩ (k_refused0 l dC dI mo ma cs I F  H.size ) (cwV 3 hts (kx_gV kq_04_msmall_8 kq_04_msmall_9 kq_04_msmall_10 kq_04_msmall_6 kq_04_msmall_11 rfl) rfl rfl rfl (by decide +kernel) ⟨Nat.le_of_ble_eq_true rfl, Nat.le_of_ble_eq_true rfl⟩) hP hD hK hG hZ hS hA rfl hl.1 rfl (Nat.le_of_ble_eq_true rfl) dX6_see_112 ⟨Nat.le_of_ble_eq_true rfl, Nat.le_of_ble_eq_true rfl⟩ (fun z_75 I_77 F_78 H locs hq_76 hP hD hS => ?_)
                        try dsimp only at hq_76
                        obtain ⟨rfl, rfl, rfl⟩ := hq_76
                        refine ki_if_ne (tgt := 123) hx hb dX6_see_115 (by decide) (by omega) (by omega) (fun c_79 => ?_) (fun c_79 => ?_)
                        · omega
                        · skip
                          refine lv_iload hx hb dX6_see_118 (lv_at hl 1 rfl) ?_
                          refine ki_if_eq (tgt := 125) hx hb dX6_see_120 (by decide) (by omega) (by omega) (fun c_80 => ?_) (fun c_80 => ?_)
                          · omega
                          · skip
                            refine lv_iconst (v := iz 0) hx hb dX6_see_123 (by decide) ?_
                            rw [← hQe]
                            exact mk_ireti hx hb hr hlocks hP hD hK hS dX6_see_124 (Or.inr (Or.inr (Or.inl ⟨by omega, rfl, rfl⟩)))
                      · skip
                        refine lv_aload_n hx hb dX6_see_96 rfl (lv_at hl 3 rfl) ?_
                        refine va_get (D := (dC, dI)) (ci := 6) (v := .ref (ma 13)) (C := RX6) (T := TX6) (N := 44) hx hb hts kt_X6 hown hK hP 0 rfl rfl 13 (by decide) (kx_word hG kq_04_msmall_38 rfl) (fun _ h9 => h9) rfl dX6_see_97 ?_
                        refine lv_iload_n hx hb dX6_see_100 rfl (lv_at hl 4 rfl) ?_
                        refine ki_iald (F := F 13) hx hb hK hP 12 11 rfl rfl (by omega) (by omega) (by decide) dX6_see_101 ?_
                        refine lv_iconst (v := iz 5) hx hb dX6_see_102 (by decide) ?_
                        refine ki_icmp_ne (tgt := 110) hx hb dX6_see_103 (by decide) (by omega) (by omega) (by omega) (by omega) (fun c_81 => ?_) (fun c_81 => ?_)
                        · skip
                          refine lv_iconst (v := iz 0) hx hb dX6_see_110 (by decide) ?_
                          refine lv_iconst (v := iz 0) hx hb dX6_see_111 (by decide) ?_
                          refine mk_calli (As := [.int (iz 0), .int (iz 0), .int (iz 0)]) (rest := []) ⟨hx, hb, hml, hown, hts⟩ (k_refused0 l dC dI mo ma cs I F  H.size ) (cwV 3 hts (kx_gV kq_04_msmall_8 kq_04_msmall_9 kq_04_msmall_10 kq_04_msmall_6 kq_04_msmall_11 rfl) rfl rfl rfl (by decide +kernel) ⟨Nat.le_of_ble_eq_true rfl, Nat.le_of_ble_eq_true rfl⟩) hP hD hK hG hZ hS hA rfl hl.1 rfl (Nat.le_of_ble_eq_true rfl) dX6_see_112 ⟨Nat.le_of_ble_eq_true rfl, Nat.le_of_ble_eq_true rfl⟩ (fun z_82 I_84 F_85 H locs hq_83 hP hD hS => ?_)
                          try dsimp only at hq_83
                          obtain ⟨rfl, rfl, rfl⟩ := hq_83
                          refine ki_if_ne (tgt := 123) hx hb dX6_see_115 (by decide) (by omega) (by omega) (fun c_86 => ?_) (fun c_86 => ?_)
                          · omega
                          · skip
                            refine lv_iload hx hb dX6_see_118 (lv_at hl 1 rfl) ?_
                            refine ki_if_eq (tgt := 125) hx hb dX6_see_120 (by decide) (by omega) (by omega) (fun c_87 => ?_) (fun c_87 => ?_)
                            · skip
                              refine lv_aload_n hx hb dX6_see_125 rfl (lv_at hl 3 rfl) ?_
                              refine va_get (D := (dC, dI)) (ci := 6) (v := .ref (ma 12)) (C := RX6) (T := TX6) (N := 44) hx hb hts kt_X6 hown hK hP 0 rfl rfl 12 (by decide) (kx_word hG kq_04_msmall_39 rfl) (fun _ h9 => h9) rfl dX6_see_126 ?_
                              refine lv_iconst (v := iz 5) hx hb dX6_see_129 (by decide) ?_
                              refine lv_iload_n hx hb dX6_see_130 rfl (lv_at hl 4 rfl) ?_
                              refine ki_imul hx hb dX6_see_131 ?_
                              refine lv_aload_n hx hb dX6_see_132 rfl (lv_at hl 3 rfl) ?_
                              refine va_get (D := (dC, dI)) (ci := 6) (v := .ref (ma 13)) (C := RX6) (T := TX6) (N := 44) hx hb hts kt_X6 hown hK hP 0 rfl rfl 13 (by decide) (kx_word hG kq_04_msmall_38 rfl) (fun _ h9 => h9) rfl dX6_see_133 ?_
                              refine lv_iload_n hx hb dX6_see_136 rfl (lv_at hl 4 rfl) ?_
                              refine ki_iald (F := F 13) hx hb hK hP 12 11 rfl rfl (by omega) (by omega) (by decide) dX6_see_137 ?_
                              refine ki_iadd hx hb dX6_see_138 ?_
                              refine lv_iload_n hx hb dX6_see_139 rfl (lv_at hl 5 rfl) ?_
                              refine ki_iast (F := F 12) hx hb hK hP hD hS 11 10 rfl rfl (by omega) (by omega) (by decide) dX6_see_140 (fun H locs hP hD hS => ?_)
                              have hP : va_P (dC, dI) kxCl (mW mo ma cs (va_up I 0 0) (va_up F 12 (upI (F 12) ((5 * p0) + (F 13 p0)) p1))) H := hP
                              have hD : va_D A (mW mo ma cs (va_up I 0 0) (va_up F 12 (upI (F 12) ((5 * p0) + (F 13 p0)) p1))) := hD
                              refine lv_aload_n hx hb dX6_see_141 rfl (lv_at hl 3 rfl) ?_
                              refine va_get (D := (dC, dI)) (ci := 6) (v := .ref (ma 13)) (C := RX6) (T := TX6) (N := 44) hx hb hts kt_X6 hown hK hP 0 rfl rfl 13 (by decide) (kx_word hG kq_04_msmall_38 rfl) (fun _ h9 => h9) rfl dX6_see_142 ?_
                              refine lv_iload_n hx hb dX6_see_145 rfl (lv_at hl 4 rfl) ?_
                              refine lv_dup2_11 hx hb dX6_see_146 rfl rfl ?_
                              refine ki_iald (F := F 13) hx hb hK hP 12 11 rfl rfl (by omega) (by omega) (by decide) dX6_see_147 ?_
                              refine lv_iconst (v := iz 1) hx hb dX6_see_148 (by decide) ?_
                              refine ki_iadd hx hb dX6_see_149 ?_
                              refine ki_iast (F := F 13) hx hb hK hP hD hS 12 11 rfl rfl (by omega) (by omega) (by decide) dX6_see_150 (fun H locs hP hD hS => ?_)
                              have hP : va_P (dC, dI) kxCl (mW mo ma cs (va_up I 0 0) (va_up (va_up F 12 (upI (F 12) ((5 * p0) + (F 13 p0)) p1)) 13 (upI (F 13) p0 ((F 13 p0) + 1)))) H := hP
                              have hD : va_D A (mW mo ma cs (va_up I 0 0) (va_up (va_up F 12 (upI (F 12) ((5 * p0) + (F 13 p0)) p1)) 13 (upI (F 13) p0 ((F 13 p0) + 1)))) := hD
                              refine lv_iconst (v := iz 1) hx hb dX6_see_151 (by decide) ?_
                              rw [← hQe]
                              exact mk_ireti hx hb hr hlocks hP hD hK hS dX6_see_152 (Or.inr (Or.inr (Or.inr (⟨by omega, rfl, rfl, by omega, by omega, by omega⟩))))
                            · omega
                        · skip
                          refine lv_iconst (v := iz 1) hx hb dX6_see_106 (by decide) ?_
                          refine lv_goto (tgt := 111) hx hb dX6_see_107 (by decide) ?_
                          refine lv_iconst (v := iz 0) hx hb dX6_see_111 (by decide) ?_
                          refine mk_calli (As := [.int (iz 0), .int (iz 1), .int (iz 0)]) (rest := []) ⟨hx, hb, hml, hown, hts⟩ (k_refused2 l dC dI mo ma cs I F 0 H.size (by omega) (by omega)) (cwV 3 hts (kx_gV kq_04_msmall_8 kq_04_msmall_9 kq_04_msmall_10 kq_04_msmall_6 kq_04_msmall_11 rfl) rfl rfl rfl (by decide +kernel) ⟨Nat.le_of_ble_eq_true rfl, Nat.le_of_ble_eq_true rfl⟩) hP hD hK hG hZ hS hA rfl hl.1 rfl (Nat.le_of_ble_eq_true rfl) dX6_see_112 ⟨Nat.le_of_ble_eq_true rfl, Nat.le_of_ble_eq_true rfl⟩ (fun z_88 I_90 F_91 H locs hq_89 hP hD hS => ?_)
                          try dsimp only at hq_89
                          obtain ⟨rfl, rfl, rfl⟩ := hq_89
                          refine ki_if_ne (tgt := 123) hx hb dX6_see_115 (by decide) (by omega) (by omega) (fun c_92 => ?_) (fun c_92 => ?_)
                          · skip
                            refine lv_iconst (v := iz 0) hx hb dX6_see_123 (by decide) ?_
                            rw [← hQe]
                            exact mk_ireti hx hb hr hlocks hP hD hK hS dX6_see_124 (Or.inr (Or.inl ⟨by omega, rfl, rfl⟩))
                          · omega
                  · skip
                    refine lv_iload hx hb dX6_see_52 (lv_at hl 1 rfl) ?_
                    refine ki_if_ne (tgt := 72) hx hb dX6_see_54 (by decide) (by omega) (by omega) (fun c_93 => ?_) (fun c_93 => ?_)
                    · skip
                      refine lv_iconst (v := iz 1) hx hb dX6_see_72 (by decide) ?_
                      refine lv_goto (tgt := 77) hx hb dX6_see_73 (by decide) ?_
                      refine lv_istore (lv' := [(4, .int (iz 1)), (5, .int (iz kk)), (3, .int (iz 0)), (0, .ref mo), (1, .int (iz p0)), (2, .int (iz p1))]) hx hb dX6_see_77 hl (by decide) rfl (fun ls hl => ?_)
                      refine lv_iinc (v := iz (kk + 1)) (lv' := [(5, .int (iz (kk + 1))), (4, .int (iz 1)), (3, .int (iz 0)), (0, .ref mo), (1, .int (iz p0)), (2, .int (iz p1))]) hx hb dX6_see_79 hl (k := 1) rfl (iz_add kk 1) (by decide) rfl (fun ls hl => ?_)
                      refine lv_goto (tgt := 37) hx hb dX6_see_82 (by decide) ?_
                      exact ih37 1 (kk + 1) ⟨by omega, by omega⟩ (by omega) _ _ hP hD hS ls (lv_sub hl [0, 1, 2, 3, 4, 5] rfl)
                    · skip
                      refine lv_aload_n hx hb dX6_see_57 rfl (lv_at hl 3 rfl) ?_
                      refine va_get (D := (dC, dI)) (ci := 6) (v := .ref (ma 12)) (C := RX6) (T := TX6) (N := 44) hx hb hts kt_X6 hown hK hP 0 rfl rfl 12 (by decide) (kx_word hG kq_04_msmall_39 rfl) (fun _ h9 => h9) rfl dX6_see_58 ?_
                      refine lv_iconst (v := iz 5) hx hb dX6_see_61 (by decide) ?_
                      refine lv_iload_n hx hb dX6_see_62 rfl (lv_at hl 4 rfl) ?_
                      refine ki_imul hx hb dX6_see_63 ?_
                      refine lv_iload hx hb dX6_see_64 (lv_at hl 0 rfl) ?_
                      refine ki_iadd hx hb dX6_see_66 ?_
                      refine ki_iald (F := F 12) hx hb hK hP 11 10 rfl rfl (by omega) (by omega) (by decide) dX6_see_67 ?_
                      have hbd_94 := hB.2 12 ((5 * p0) + kk)
                      refine lv_iload_n hx hb dX6_see_68 rfl (lv_at hl 5 rfl) ?_
                      refine ki_icmp_ne (tgt := 76) hx hb dX6_see_69 (by decide) (by omega) (by omega) (by omega) (by omega) (fun c_95 => ?_) (fun c_95 => ?_)
                      · skip
                        refine lv_iconst (v := iz 0) hx hb dX6_see_76 (by decide) ?_
                        refine lv_istore (lv' := [(4, .int (iz 0)), (5, .int (iz kk)), (3, .int (iz 0)), (0, .ref mo), (1, .int (iz p0)), (2, .int (iz p1))]) hx hb dX6_see_77 hl (by decide) rfl (fun ls hl => ?_)
                        refine lv_iinc (v := iz (kk + 1)) (lv' := [(5, .int (iz (kk + 1))), (4, .int (iz 0)), (3, .int (iz 0)), (0, .ref mo), (1, .int (iz p0)), (2, .int (iz p1))]) hx hb dX6_see_79 hl (k := 1) rfl (iz_add kk 1) (by decide) rfl (fun ls hl => ?_)
                        refine lv_goto (tgt := 37) hx hb dX6_see_82 (by decide) ?_
                        exact ih37 0 (kk + 1) ⟨by omega, by omega⟩ (by omega) _ _ hP hD hS ls (lv_sub hl [0, 1, 2, 3, 4, 5] rfl)
                      · skip
                        refine lv_iconst (v := iz 1) hx hb dX6_see_72 (by decide) ?_
                        refine lv_goto (tgt := 77) hx hb dX6_see_73 (by decide) ?_
                        refine lv_istore (lv' := [(4, .int (iz 1)), (5, .int (iz kk)), (3, .int (iz 0)), (0, .ref mo), (1, .int (iz p0)), (2, .int (iz p1))]) hx hb dX6_see_77 hl (by decide) rfl (fun ls hl => ?_)
                        refine lv_iinc (v := iz (kk + 1)) (lv' := [(5, .int (iz (kk + 1))), (4, .int (iz 1)), (3, .int (iz 0)), (0, .ref mo), (1, .int (iz p0)), (2, .int (iz p1))]) hx hb dX6_see_79 hl (k := 1) rfl (iz_add kk 1) (by decide) rfl (fun ls hl => ?_)
                        refine lv_goto (tgt := 37) hx hb dX6_see_82 (by decide) ?_
                        exact ih37 1 (kk + 1) ⟨by omega, by omega⟩ (by omega) _ _ hP hD hS ls (lv_sub hl [0, 1, 2, 3, 4, 5] rfl)
            exact lp37 _ 1 0 ⟨by omega, by omega⟩ (Nat.lt_succ_self _) _ _ hP hD hS ls (lv_sub hl [0, 1, 2, 3, 4, 5] rfl)
        · omega
