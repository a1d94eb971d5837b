/-! the landed class, exact: warnings -/

set_option maxHeartbeats 4000000 in
set_option maxRecDepth 100000 in
theorem x_lookFor2 (l : Launch) (dC : Nat → ClassId) (dI : Nat → Nat → Nat) (cI cB cE : ClassId) (o : Nat) (z1 : Int) (z2 : Int) (z3 : Int) (z4 : Int) (z5 : Int) (p0 : Int) (sz : Nat) (hb1 : -2147483648 ≤ z1 ∧ z1 < 2147483648) (hb2 : -2147483648 ≤ z2 ∧ z2 < 2147483648) (hb3 : -2147483648 ≤ z3 ∧ z3 < 2147483648) (hb4 : -2147483648 ≤ z4 ∧ z4 < 2147483648) (hb5 : -2147483648 ≤ z5 ∧ z5 < 2147483648) (hp01 : -2147483648 ≤ p0) (hp02 : p0 < 2147483648) : Met l yX4_lookFor [.code yX4_lookFor cX4_lookFor 2 none] ({ frames := 0, cells := 0, slots := 0, locals := 0 }) (va_Pc [.ref o, .int (iz p0)] (kx_Pre dC dI (wU o z1 z2 z3 z4 z5) (xT cI cB cE) sz)) (xQ (fun _ : Int × Int => none) (fun (u : Int × Int) (dn dm : Nat) => match u with | (z1', z2') => dn = 0 ∧ dm = 0 ∧ z1' = p0 ∧ z2' = 0) (fun u t => kx_At dC dI (va_A (wU o z1 z2 z3 z4 z5) sz) ((fun u : Int × Int => match u with | (z1', z2') => (wU o z1' z2' z3 z4 z5)) u) (xT cI cB cE) t) (va_A (wU o z1 z2 z3 z4 z5) sz)) 0 0 (va_A (wU o z1 z2 z3 z4 z5) sz) := by
  refine Met.ofW (cc := cX4_lookFor) (maxL := 2) (ret := none) (by decide) rfl ?_
  intro p e s m args below meth c s₁ B hml hv
  obtain ⟨rfl, hsz, hP, hK, hD0, hG, hZ⟩ := hv
  have hx := B.exec
  have hb := B.bytes
  have hr := B.returns
  have hts := kx_hts (a := ([.ref o, .int (iz p0)] : List Value).toArray) hG
  have hown : s.vm.findClass RX4 = some m.cls := findClass_of_methodNamed B.named
  have hlocks := B.notSynchronized
  subst hsz
  have hD := hD0.self (sz := s.heap.size)
  generalize hAe : va_A (wU o z1 z2 z3 z4 z5) s.heap.size = A at hD hZ ⊢
  have hA : ∀ q : Nat, s.heap.size ≤ q → A q := fun q h => by rw [← hAe]; exact Or.inr h
  have hS : va_S A s.heap s.heap [] := va_S.rf
  have hl := lv_entry ([.ref o, .int (iz p0)]) (n := 2) (Nat.le_of_ble_eq_true rfl)
  rw [lg_entry_eq]
  generalize (lg_sl ([.ref o, .int (iz p0)]) ++ List.replicate (2 - (lg_sl ([.ref o, .int (iz p0)])).length) Slot.unset).toArray = ls at hl ⊢
  have hl : lv_has ls 2 [(0, .ref o), (1, .int (iz p0))] := hl
  refine lv_aload_n hx hb dX4_lookFor_0 rfl (lv_at hl 0 rfl) ?_
  refine lv_iload_n hx hb dX4_lookFor_1 rfl (lv_at hl 1 rfl) ?_
  refine va_put (D := (dC, dI)) (ci := 4) (v := .int (iz p0)) (ty := .int) (C := RX4) (T := TX4) (N := 5) hx hb hts kt_X4 tyX4 tyX4_ok nmX4 hown hK hP hD hS 0 rfl rfl 0 (by decide) (kx_word hG kq_15_xspan_0 rfl) (fun _ h9 => h9) rfl (by decide +kernel) rfl rfl (Nat.le_of_ble_eq_true rfl) dX4_lookFor_2 (fun H locs hP hD hS => ?_)
  have hP : va_P (dC, dI) kxCl (wU o p0 z2 z3 z4 z5) H := hP
  have hD : va_D A (wU o p0 z2 z3 z4 z5) := hD
  refine lv_aload_n hx hb dX4_lookFor_5 rfl (lv_at hl 0 rfl) ?_
  refine lv_iconst (v := iz 0) hx hb dX4_lookFor_6 (by decide) ?_
  refine va_put (D := (dC, dI)) (ci := 4) (v := .int (iz 0)) (ty := .int) (C := RX4) (T := TX4) (N := 5) hx hb hts kt_X4 tyX4 tyX4_ok nmX4 hown hK hP hD hS 0 rfl rfl 1 (by decide) (kx_word hG kq_15_xspan_1 rfl) (fun _ h9 => h9) rfl (by decide +kernel) rfl rfl (Nat.le_of_ble_eq_true rfl) dX4_lookFor_7 (fun H locs hP hD hS => ?_)
  have hP : va_P (dC, dI) kxCl (wU o p0 0 z3 z4 z5) H := hP
  have hD : va_D A (wU o p0 0 z3 z4 z5) := hD
  exact xk_vret (ov := (fun _ : Int × Int => none)) (post := (fun (u : Int × Int) (dn dm : Nat) => match u with | (z1', z2') => dn = 0 ∧ dm = 0 ∧ z1' = p0 ∧ z2' = 0)) (ws := (fun u : Int × Int => match u with | (z1', z2') => (wU o z1' z2' z3 z4 z5))) (tys := xT cI cB cE) (p0, 0) hx hb hr hlocks rfl hP hD hK hS dX4_lookFor_10 (fun dn dm hdn hdm => ⟨by omega, by omega, rfl, rfl⟩) (by omega) (by omega)
set_option maxHeartbeats 4000000 in
set_option maxRecDepth 100000 in
theorem x_tell2 (l : Launch) (dC : Nat → ClassId) (dI : Nat → Nat → Nat) (cI cB cE : ClassId) (o : Nat) (z1 : Int) (z2 : Int) (z3 : Int) (z4 : Int) (z5 : Int) (p0 : Int) (p1 : Int) (p2 : Int) (sz : Nat) (hb1 : -2147483648 ≤ z1 ∧ z1 < 2147483648) (hb2 : -2147483648 ≤ z2 ∧ z2 < 2147483648) (hb3 : -2147483648 ≤ z3 ∧ z3 < 2147483648) (hb4 : -2147483648 ≤ z4 ∧ z4 < 2147483648) (hb5 : -2147483648 ≤ z5 ∧ z5 < 2147483648) (hp01 : -2147483648 ≤ p0) (hp02 : p0 < 2147483648) (hp11 : -2147483648 ≤ p1) (hp12 : p1 < 2147483648) (hp21 : -2147483648 ≤ p2) (hp22 : p2 < 2147483648) (hz2 : 0 ≤ z2 ∧ z2 ≤ 10000) : Met l yX4_tell [.code yX4_tell cX4_tell 4 none] ({ frames := 0, cells := 0, slots := 0, locals := 0 }) (va_Pc [.ref o, .int (iz p0), .int (iz p1), .int (iz p2)] (kx_Pre dC dI (wU o z1 z2 z3 z4 z5) (xT cI cB cE) sz)) (xQ (fun _ : Int × Int × Int × Int => none) (fun (u : Int × Int × Int × Int) (dn dm : Nat) => match u with | (z2', z3', z4', z5') => dn = 0 ∧ dm = 0 ∧ z2' = z2 + 1 ∧ ((z2 = z1 ∧ z3' = p0 ∧ z4' = p1 ∧ z5' = p2) ∨ (¬ z2 = z1 ∧ z3' = z3 ∧ z4' = z4 ∧ z5' = z5))) (fun u t => kx_At dC dI (va_A (wU o z1 z2 z3 z4 z5) sz) ((fun u : Int × Int × Int × Int => match u with | (z2', z3', z4', z5') => (wU o z1 z2' z3' z4' z5')) u) (xT cI cB cE) t) (va_A (wU o z1 z2 z3 z4 z5) sz)) 0 0 (va_A (wU o z1 z2 z3 z4 z5) sz) := by
  refine Met.ofW (cc := cX4_tell) (maxL := 4) (ret := none) (by decide) rfl ?_
  intro p e s m args below meth c s₁ B hml hv
  obtain ⟨rfl, hsz, hP, hK, hD0, hG, hZ⟩ := hv
  have hx := B.exec
  have hb := B.bytes
  have hr := B.returns
  have hts := kx_hts (a := ([.ref o, .int (iz p0), .int (iz p1), .int (iz p2)] : List Value).toArray) hG
  have hown : s.vm.findClass RX4 = some m.cls := findClass_of_methodNamed B.named
  have hlocks := B.notSynchronized
  subst hsz
  have hD := hD0.self (sz := s.heap.size)
  generalize hAe : va_A (wU o z1 z2 z3 z4 z5) s.heap.size = A at hD hZ ⊢
  have hA : ∀ q : Nat, s.heap.size ≤ q → A q := fun q h => by rw [← hAe]; exact Or.inr h
  have hS : va_S A s.heap s.heap [] := va_S.rf
  have hl := lv_entry ([.ref o, .int (iz p0), .int (iz p1), .int (iz p2)]) (n := 4) (Nat.le_of_ble_eq_true rfl)
  rw [lg_entry_eq]
  generalize (lg_sl ([.ref o, .int (iz p0), .int (iz p1), .int (iz p2)]) ++ List.replicate (4 - (lg_sl ([.ref o, .int (iz p0), .int (iz p1), .int (iz p2)])).length) Slot.unset).toArray = ls at hl ⊢
  have hl : lv_has ls 4 [(0, .ref o), (1, .int (iz p0)), (2, .int (iz p1)), (3, .int (iz p2))] := hl
  refine lv_aload_n hx hb dX4_tell_0 rfl (lv_at hl 0 rfl) ?_
  refine va_get (D := (dC, dI)) (ci := 4) (v := .int (iz z2)) (C := RX4) (T := TX4) (N := 5) hx hb hts kt_X4 hown hK hP 0 rfl rfl 1 (by decide) (kx_word hG kq_15_xspan_1 rfl) (fun _ h9 => h9) rfl dX4_tell_1 ?_
  refine lv_aload_n hx hb dX4_tell_4 rfl (lv_at hl 0 rfl) ?_
  refine va_get (D := (dC, dI)) (ci := 4) (v := .int (iz z1)) (C := RX4) (T := TX4) (N := 5) hx hb hts kt_X4 hown hK hP 0 rfl rfl 0 (by decide) (kx_word hG kq_15_xspan_0 rfl) (fun _ h9 => h9) rfl dX4_tell_5 ?_
  refine ki_icmp_ne (tgt := 26) hx hb dX4_tell_8 (by decide) (by omega) (by omega) (by omega) (by omega) (fun c_1 => ?_) (fun c_1 => ?_)
  · skip
    refine lv_aload_n hx hb dX4_tell_26 rfl (lv_at hl 0 rfl) ?_
    refine lv_dup hx hb dX4_tell_27 rfl ?_
    refine va_get (D := (dC, dI)) (ci := 4) (v := .int (iz z2)) (C := RX4) (T := TX4) (N := 5) hx hb hts kt_X4 hown hK hP 0 rfl rfl 1 (by decide) (kx_word hG kq_15_xspan_1 rfl) (fun _ h9 => h9) rfl dX4_tell_28 ?_
    refine lv_iconst (v := iz 1) hx hb dX4_tell_31 (by decide) ?_
    refine ki_iadd hx hb dX4_tell_32 ?_
    refine va_put (D := (dC, dI)) (ci := 4) (v := .int (iz (z2 + 1))) (ty := .int) (C := RX4) (T := TX4) (N := 5) hx hb hts kt_X4 tyX4 tyX4_ok nmX4 hown hK hP hD hS 0 rfl rfl 1 (by decide) (kx_word hG kq_15_xspan_1 rfl) (fun _ h9 => h9) rfl (by decide +kernel) rfl rfl (Nat.le_of_ble_eq_true rfl) dX4_tell_33 (fun H locs hP hD hS => ?_)
    have hP : va_P (dC, dI) kxCl (wU o z1 (z2 + 1) z3 z4 z5) H := hP
    have hD : va_D A (wU o z1 (z2 + 1) z3 z4 z5) := hD
    exact xk_vret (ov := (fun _ : Int × Int × Int × Int => none)) (post := (fun (u : Int × Int × Int × Int) (dn dm : Nat) => match u with | (z2', z3', z4', z5') => dn = 0 ∧ dm = 0 ∧ z2' = z2 + 1 ∧ ((z2 = z1 ∧ z3' = p0 ∧ z4' = p1 ∧ z5' = p2) ∨ (¬ z2 = z1 ∧ z3' = z3 ∧ z4' = z4 ∧ z5' = z5)))) (ws := (fun u : Int × Int × Int × Int => match u with | (z2', z3', z4', z5') => (wU o z1 z2' z3' z4' z5'))) (tys := xT cI cB cE) (z2 + 1, z3, z4, z5) hx hb hr hlocks rfl hP hD hK hS dX4_tell_36 (fun dn dm hdn hdm => ⟨by omega, by omega, rfl, by omega⟩) (by omega) (by omega)
  · skip
    refine lv_aload_n hx hb dX4_tell_11 rfl (lv_at hl 0 rfl) ?_
    refine lv_iload_n hx hb dX4_tell_12 rfl (lv_at hl 1 rfl) ?_
    refine va_put (D := (dC, dI)) (ci := 4) (v := .int (iz p0)) (ty := .int) (C := RX4) (T := TX4) (N := 5) hx hb hts kt_X4 tyX4 tyX4_ok nmX4 hown hK hP hD hS 0 rfl rfl 2 (by decide) (kx_word hG kq_15_xspan_2 rfl) (fun _ h9 => h9) rfl (by decide +kernel) rfl rfl (Nat.le_of_ble_eq_true rfl) dX4_tell_13 (fun H locs hP hD hS => ?_)
    have hP : va_P (dC, dI) kxCl (wU o z1 z2 p0 z4 z5) H := hP
    have hD : va_D A (wU o z1 z2 p0 z4 z5) := hD
    refine lv_aload_n hx hb dX4_tell_16 rfl (lv_at hl 0 rfl) ?_
    refine lv_iload_n hx hb dX4_tell_17 rfl (lv_at hl 2 rfl) ?_
    refine va_put (D := (dC, dI)) (ci := 4) (v := .int (iz p1)) (ty := .int) (C := RX4) (T := TX4) (N := 5) hx hb hts kt_X4 tyX4 tyX4_ok nmX4 hown hK hP hD hS 0 rfl rfl 3 (by decide) (kx_word hG kq_15_xspan_3 rfl) (fun _ h9 => h9) rfl (by decide +kernel) rfl rfl (Nat.le_of_ble_eq_true rfl) dX4_tell_18 (fun H locs hP hD hS => ?_)
    have hP : va_P (dC, dI) kxCl (wU o z1 z2 p0 p1 z5) H := hP
    have hD : va_D A (wU o z1 z2 p0 p1 z5) := hD
    refine lv_aload_n hx hb dX4_tell_21 rfl (lv_at hl 0 rfl) ?_
    refine lv_iload_n hx hb dX4_tell_22 rfl (lv_at hl 3 rfl) ?_
    refine va_put (D := (dC, dI)) (ci := 4) (v := .int (iz p2)) (ty := .int) (C := RX4) (T := TX4) (N := 5) hx hb hts kt_X4 tyX4 tyX4_ok nmX4 hown hK hP hD hS 0 rfl rfl 4 (by decide) (kx_word hG kq_15_xspan_4 rfl) (fun _ h9 => h9) rfl (by decide +kernel) rfl rfl (Nat.le_of_ble_eq_true rfl) dX4_tell_23 (fun H locs hP hD hS => ?_)
    have hP : va_P (dC, dI) kxCl (wU o z1 z2 p0 p1 p2) H := hP
    have hD : va_D A (wU o z1 z2 p0 p1 p2) := hD
    refine lv_aload_n hx hb dX4_tell_26 rfl (lv_at hl 0 rfl) ?_
    refine lv_dup hx hb dX4_tell_27 rfl ?_
    refine va_get (D := (dC, dI)) (ci := 4) (v := .int (iz z2)) (C := RX4) (T := TX4) (N := 5) hx hb hts kt_X4 hown hK hP 0 rfl rfl 1 (by decide) (kx_word hG kq_15_xspan_1 rfl) (fun _ h9 => h9) rfl dX4_tell_28 ?_
    refine lv_iconst (v := iz 1) hx hb dX4_tell_31 (by decide) ?_
    refine ki_iadd hx hb dX4_tell_32 ?_
    refine va_put (D := (dC, dI)) (ci := 4) (v := .int (iz (z2 + 1))) (ty := .int) (C := RX4) (T := TX4) (N := 5) hx hb hts kt_X4 tyX4 tyX4_ok nmX4 hown hK hP hD hS 0 rfl rfl 1 (by decide) (kx_word hG kq_15_xspan_1 rfl) (fun _ h9 => h9) rfl (by decide +kernel) rfl rfl (Nat.le_of_ble_eq_true rfl) dX4_tell_33 (fun H locs hP hD hS => ?_)
    have hP : va_P (dC, dI) kxCl (wU o z1 (z2 + 1) p0 p1 p2) H := hP
    have hD : va_D A (wU o z1 (z2 + 1) p0 p1 p2) := hD
    exact xk_vret (ov := (fun _ : Int × Int × Int × Int => none)) (post := (fun (u : Int × Int × Int × Int) (dn dm : Nat) => match u with | (z2', z3', z4', z5') => dn = 0 ∧ dm = 0 ∧ z2' = z2 + 1 ∧ ((z2 = z1 ∧ z3' = p0 ∧ z4' = p1 ∧ z5' = p2) ∨ (¬ z2 = z1 ∧ z3' = z3 ∧ z4' = z4 ∧ z5' = z5)))) (ws := (fun u : Int × Int × Int × Int => match u with | (z2', z3', z4', z5') => (wU o z1 z2' z3' z4' z5'))) (tys := xT cI cB cE) (z2 + 1, p0, p1, p2) hx hb hr hlocks rfl hP hD hK hS dX4_tell_36 (fun dn dm hdn hdm => ⟨by omega, by omega, rfl, by omega⟩) (by omega) (by omega)
set_option maxHeartbeats 4000000 in
set_option maxRecDepth 100000 in
theorem x_isEmptyRow2 (l : Launch) (dC : Nat → ClassId) (dI : Nat → Nat → Nat) (cI cB cE : ClassId) (o : Nat → Nat) (r : Nat → Nat) (n : Nat → Nat) (z : Nat → Int) (F : Nat → Int → Int) (sz : Nat) (hE : eOk n z F) : Met l yX0_isEmptyRow [.code yX0_isEmptyRow cX0_isEmptyRow 1 (some .boolean)] ({ frames := 0, cells := 0, slots := 0, locals := 0 }) (va_Pc [.ref (o 0)] (pPre dC dI (eU cI o r n z F) (xT cI cB cE) sz)) (pQ (fun z => some (.int (iz z))) (fun (q : Int) => (q = 1 ∧ z 11 = 0 ∧ z 12 = 0 ∧ z 13 = 0) ∨ (q = 0 ∧ ¬ (z 11 = 0 ∧ z 12 = 0 ∧ z 13 = 0)))) 0 0 (fun _ => False) := by
  refine Met.ofW (cc := cX0_isEmptyRow) (maxL := 1) (ret := (some .boolean)) (by decide) rfl ?_
  intro p e s m args below meth c s₁ B hml hv
  obtain ⟨rfl, hsz, hP, hK, hG⟩ := hv
  have hx := B.exec
  have hb := B.bytes
  have hr := B.returns
  have hts := kx_hts (a := ([.ref (o 0)] : List Value).toArray) hG
  have hown : s.vm.findClass RX0 = some m.cls := findClass_of_methodNamed B.named
  have hlocks := B.notSynchronized
  subst hsz
  have hS : va_S (fun _ => False) s.heap s.heap [] := va_S.rf
  have hl := lv_entry ([.ref (o 0)]) (n := 1) (Nat.le_of_ble_eq_true rfl)
  rw [lg_entry_eq]
  generalize (lg_sl ([.ref (o 0)]) ++ List.replicate (1 - (lg_sl ([.ref (o 0)])).length) Slot.unset).toArray = ls at hl ⊢
  have hl : lv_has ls 1 [(0, .ref (o 0))] := hl
  have he0 : 0 ≤ z 0 ∧ z 0 ≤ (n 0 : Int) ∧ (n 0 : Int) ≤ 20 := hE.1 0 (by decide)
  have he1 : 0 ≤ z 1 ∧ z 1 ≤ (n 1 : Int) ∧ (n 1 : Int) ≤ 20 := hE.1 1 (by decide)
  have he2 : 0 ≤ z 2 ∧ z 2 ≤ (n 2 : Int) ∧ (n 2 : Int) ≤ 40 := hE.1 2 (by decide)
  have he3 : 0 ≤ z 3 ∧ z 3 ≤ (n 3 : Int) ∧ (n 3 : Int) ≤ 5 := hE.1 3 (by decide)
  have he4 : 0 ≤ z 4 ∧ z 4 ≤ (n 4 : Int) ∧ (n 4 : Int) ≤ 20 := hE.1 4 (by decide)
  have he5 : 0 ≤ z 5 ∧ z 5 ≤ (n 5 : Int) ∧ (n 5 : Int) ≤ 20 := hE.1 5 (by decide)
  have he6 : 0 ≤ z 6 ∧ z 6 ≤ (n 6 : Int) ∧ (n 6 : Int) ≤ 20 := hE.1 6 (by decide)
  have hbz7 := hE.2.2 7
  have hbz8 := hE.2.2 8
  have hbz9 := hE.2.2 9
  have hbz10 := hE.2.2 10
  have hbz11 := hE.2.2 11
  have hbz12 := hE.2.2 12
  have hbz13 := hE.2.2 13
  refine lv_aload_n hx hb dX0_isEmptyRow_0 rfl (lv_at hl 0 rfl) ?_
  refine va_get (D := (dC, dI)) (ci := 0) (v := .int (iz (z 11))) (C := RX0) (T := TX0) (N := 12) hx hb hts kt_X0 hown hK hP 0 rfl rfl 9 (by decide) (kx_word hG kq_16_xentry_19 rfl) (fun _ h9 => h9) rfl dX0_isEmptyRow_1 ?_
  refine ki_if_ne (tgt := 25) hx hb dX0_isEmptyRow_4 (by decide) (by omega) (by omega) (fun c_1 => ?_) (fun c_1 => ?_)
  · skip
    refine lv_iconst (v := iz 0) hx hb dX0_isEmptyRow_25 (by decide) ?_
    exact xp_iret (z := 0) hx hb hr (mz_bool (by omega)).1 hlocks rfl hS.2.2 dX0_isEmptyRow_26 (by omega)
  · skip
    refine lv_aload_n hx hb dX0_isEmptyRow_7 rfl (lv_at hl 0 rfl) ?_
    refine va_get (D := (dC, dI)) (ci := 0) (v := .int (iz (z 12))) (C := RX0) (T := TX0) (N := 12) hx hb hts kt_X0 hown hK hP 0 rfl rfl 10 (by decide) (kx_word hG kq_16_xentry_20 rfl) (fun _ h9 => h9) rfl dX0_isEmptyRow_8 ?_
    refine ki_if_ne (tgt := 25) hx hb dX0_isEmptyRow_11 (by decide) (by omega) (by omega) (fun c_2 => ?_) (fun c_2 => ?_)
    · skip
      refine lv_iconst (v := iz 0) hx hb dX0_isEmptyRow_25 (by decide) ?_
      exact xp_iret (z := 0) hx hb hr (mz_bool (by omega)).1 hlocks rfl hS.2.2 dX0_isEmptyRow_26 (by omega)
    · skip
      refine lv_aload_n hx hb dX0_isEmptyRow_14 rfl (lv_at hl 0 rfl) ?_
      refine va_get (D := (dC, dI)) (ci := 0) (v := .int (iz (z 13))) (C := RX0) (T := TX0) (N := 12) hx hb hts kt_X0 hown hK hP 0 rfl rfl 11 (by decide) (kx_word hG kq_16_xentry_21 rfl) (fun _ h9 => h9) rfl dX0_isEmptyRow_15 ?_
      refine ki_if_ne (tgt := 25) hx hb dX0_isEmptyRow_18 (by decide) (by omega) (by omega) (fun c_3 => ?_) (fun c_3 => ?_)
      · skip
        refine lv_iconst (v := iz 0) hx hb dX0_isEmptyRow_25 (by decide) ?_
        exact xp_iret (z := 0) hx hb hr (mz_bool (by omega)).1 hlocks rfl hS.2.2 dX0_isEmptyRow_26 (by omega)
      · skip
        refine lv_iconst (v := iz 1) hx hb dX0_isEmptyRow_21 (by decide) ?_
        refine lv_goto (tgt := 26) hx hb dX0_isEmptyRow_22 (by decide) ?_
        exact xp_iret (z := 1) hx hb hr (mz_bool (by omega)).1 hlocks rfl hS.2.2 dX0_isEmptyRow_26 (by omega)
set_option maxHeartbeats 4000000 in
set_option maxRecDepth 100000 in
theorem y_countByRows2 (l : Launch) (dC : Nat → ClassId) (dI : Nat → Nat → Nat) (cI cB cE : ClassId) (o r n : Nat → Nat) (z : Nat → Int) (F : Nat → Int → Int) (G : Nat → Option Nat) (N : Nat) (Eo Er En : Nat → Nat → Nat) (Ez : Nat → Nat → Int) (EF : Nat → Nat → Int → Int) (sz : Nat) (hok : xOk n z F) (hxG : xG N (z 12) G Eo) (hPE : eA N En Ez EF) (hs : ∀ e, 0 ≤ e → e < z 12 → 0 ≤ rs_sE Ez e ∧ rs_sE Ez e ≤ e) (h79 : z 12 ≤ 78) : Met l yX5_countByRows [.code yX5_countByRows cX5_countByRows 4 none] ({ frames := 3, cells := 100, slots := 42000, locals := 64 }) (va_Pc [.ref (o 15)] (kx_Pre dC dI (xU cI cB cE o r n z F G (Eo 0 0) ++ eP cI N Eo Er En Ez EF) (xT cI cB cE) sz)) (xQ (fun _ : (Nat → Nat) × (Nat → Nat) × (Nat → Int) × (Nat → Int → Int) × (Nat → Nat → Nat) × (Nat → Nat → Nat) × (Nat → Nat → Int) × (Nat → Nat → Int → Int) => none) (fun (u : (Nat → Nat) × (Nat → Nat) × (Nat → Int) × (Nat → Int → Int) × (Nat → Nat → Nat) × (Nat → Nat → Nat) × (Nat → Nat → Int) × (Nat → Nat → Int → Int)) (dn dm : Nat) => match u with | (r', n', z', F', Er', En', Ez', EF') => xR [] [] [11, 12, 13] [] N z F En Ez EF n' z' F' En' Ez' EF' ∧ (dn + xg n' ≤ xg n + 0 ∧ dm + xp n' ≤ xp n + 0) ∧ (∀ r, 0 ≤ r → r < z 12 → wr_C (z 12) (20 * (z 12)) (fun e r => rs_sE Ez e = r ∧ ¬ Ez ((e + 1).toNat) 4 = 0) (Ez' ((r + 1).toNat) 11) r ∧ wr_C (z 12) (5 * (z 12)) (fun e r => rs_sE Ez e = r ∧ ¬ Ez ((e + 1).toNat) 3 = 0) (Ez' ((r + 1).toNat) 12) r ∧ wr_C (z 12) (1 * (z 12)) (fun e r => (0 ≤ Ez ((e + 1).toNat) 8 ∧ Ez ((e + 1).toNat) 8 < z 12) ∧ rs_sE Ez (Ez ((e + 1).toNat) 8) = r) (Ez' ((r + 1).toNat) 13) r)) (fun u t => kx_At dC dI (va_A (xU cI cB cE o r n z F G (Eo 0 0) ++ eP cI N Eo Er En Ez EF) sz) ((fun u : (Nat → Nat) × (Nat → Nat) × (Nat → Int) × (Nat → Int → Int) × (Nat → Nat → Nat) × (Nat → Nat → Nat) × (Nat → Nat → Int) × (Nat → Nat → Int → Int) => match u with | (r', n', z', F', Er', En', Ez', EF') => (xU cI cB cE o r' n' z' F' G (Eo 0 0) ++ eP cI N Eo Er' En' Ez' EF')) u) (xT cI cB cE) t) (va_A (xU cI cB cE o r n z F G (Eo 0 0) ++ eP cI N Eo Er En Ez EF) sz)) 100 42000 (va_A (xU cI cB cE o r n z F G (Eo 0 0) ++ eP cI N Eo Er En Ez EF) sz) := by
  refine Met.ofW (cc := cX5_countByRows) (maxL := 4) (ret := none) (by decide) rfl ?_
  intro p e s m args below meth c s₁ B hml hv
  obtain ⟨rfl, hsz, hP, hK, hD0, hG, hZ⟩ := hv
  have hx := B.exec
  have hb := B.bytes
  have hr := B.returns
  have hts := kx_hts (a := ([.ref (o 15)] : List Value).toArray) hG
  have hown : s.vm.findClass RX5 = some m.cls := findClass_of_methodNamed B.named
  have hlocks := B.notSynchronized
  subst hsz
  have hD := hD0.self (sz := s.heap.size)
  generalize hAe : va_A (xU cI cB cE o r n z F G (Eo 0 0) ++ eP cI N Eo Er En Ez EF) s.heap.size = A at hD hZ ⊢
  have hA : ∀ q : Nat, s.heap.size ≤ q → A q := fun q h => by rw [← hAe]; exact Or.inr h
  have hS : va_S A s.heap s.heap [] := va_S.rf
  have hl := lv_entry ([.ref (o 15)]) (n := 4) (Nat.le_of_ble_eq_true rfl)
  rw [lg_entry_eq]
  generalize (lg_sl ([.ref (o 15)]) ++ List.replicate (4 - (lg_sl ([.ref (o 15)])).length) Slot.unset).toArray = ls at hl ⊢
  obtain ⟨hN1, hN2, hN3, hN4⟩ := hxG
  have hef : eFr [11, 12, 13] [] En Ez EF En Ez EF := eFr.rf
  have hfr : xFr [] [] z F z F := xFr.rf
  have hxgl := xg_le n
  have hxpl := xp_le n
  have hl : lv_has ls 4 [(0, .ref (o 15))] := hl
  generalize hQe : MQ below (xQ (fun _ : (Nat → Nat) × (Nat → Nat) × (Nat → Int) × (Nat → Int → Int) × (Nat → Nat → Nat) × (Nat → Nat → Nat) × (Nat → Nat → Int) × (Nat → Nat → Int → Int) => none) (fun (u : (Nat → Nat) × (Nat → Nat) × (Nat → Int) × (Nat → Int → Int) × (Nat → Nat → Nat) × (Nat → Nat → Nat) × (Nat → Nat → Int) × (Nat → Nat → Int → Int)) (dn dm : Nat) => match u with | (r', n', z', F', Er', En', Ez', EF') => xR [] [] [11, 12, 13] [] N z F En Ez EF n' z' F' En' Ez' EF' ∧ (dn + xg n' ≤ xg n + 0 ∧ dm + xp n' ≤ xp n + 0) ∧ (∀ r, 0 ≤ r → r < z 12 → wr_C (z 12) (20 * (z 12)) (fun e r => rs_sE Ez e = r ∧ ¬ Ez ((e + 1).toNat) 4 = 0) (Ez' ((r + 1).toNat) 11) r ∧ wr_C (z 12) (5 * (z 12)) (fun e r => rs_sE Ez e = r ∧ ¬ Ez ((e + 1).toNat) 3 = 0) (Ez' ((r + 1).toNat) 12) r ∧ wr_C (z 12) (1 * (z 12)) (fun e r => (0 ≤ Ez ((e + 1).toNat) 8 ∧ Ez ((e + 1).toNat) 8 < z 12) ∧ rs_sE Ez (Ez ((e + 1).toNat) 8) = r) (Ez' ((r + 1).toNat) 13) r)) (fun u t => kx_At dC dI A ((fun u : (Nat → Nat) × (Nat → Nat) × (Nat → Int) × (Nat → Int → Int) × (Nat → Nat → Nat) × (Nat → Nat → Nat) × (Nat → Nat → Int) × (Nat → Nat → Int → Int) => match u with | (r', n', z', F', Er', En', Ez', EF') => (xU cI cB cE o r' n' z' F' G (Eo 0 0) ++ eP cI N Eo Er' En' Ez' EF')) u) (xT cI cB cE) t) A) ([.ref (o 15)] : List Value).toArray s 100 42000 A = QQ
  refine lv_iconst (v := iz 0) hx hb dX5_countByRows_0 (by decide) ?_
  refine lv_istore_n (lv' := [(1, .int (iz 0)), (0, .ref (o 15))]) hx hb dX5_countByRows_1 rfl hl (by decide) rfl (fun ls hl => ?_)
  have lp2 : ∀ (n0 : Nat) (k : Int) (rL2 : Nat → Nat) (nL2 : Nat → Nat) (zL2 : Nat → Int) (FL2 : Nat → Int → Int) (ErL2 : Nat → Nat → Nat) (EnL2 : Nat → Nat → Nat) (EzL2 : Nat → Nat → Int) (EFL2 : Nat → Nat → Int → Int) (cv : Nat) (sv : Nat), ((xR [] [] [11, 12, 13] [] N z F En Ez EF nL2 zL2 FL2 EnL2 EzL2 EFL2) ∧ (cv + xg nL2 ≤ xg n + (0) ∧ sv + xp nL2 ≤ xp n + (0)) ∧ (zL2 12 = z 12) ∧ (0 ≤ k ∧ k ≤ 79 ∧ k ≤ z 12) ∧ (∀ r, 0 ≤ r → r < k → EzL2 ((r + 1).toNat) 11 = 0 ∧ EzL2 ((r + 1).toNat) 12 = 0 ∧ EzL2 ((r + 1).toNat) 13 = 0)) → (z 12 - k).toNat < n0 → ∀ (H : Heap) (locs : List Loc), va_P (dC, dI) kxCl ((xU cI cB cE o rL2 nL2 zL2 FL2 G (Eo 0 0)) ++ (eP cI N Eo ErL2 EnL2 EzL2 EFL2)) H → va_D A ((xU cI cB cE o rL2 nL2 zL2 FL2 G (Eo 0 0)) ++ (eP cI N Eo ErL2 EnL2 EzL2 EFL2)) → va_S A s.heap H locs → ∀ ls : Array Slot, lv_has ls 4 [(1, .int (iz k)), (0, .ref (o 15))] → W p l e (headSpec [.code yX5_countByRows cX5_countByRows 4 none] ({ frames := 3, cells := 100, slots := 42000, locals := 64 })).room s m ([.ref (o 15)] : List Value).toArray below meth c H locs cv sv QQ (F0 m 2 ls []) := by
    intro n0
    induction n0 with
    | zero => intro k rL2 nL2 zL2 FL2 ErL2 EnL2 EzL2 EFL2 cv sv hinv hm0; exact absurd hm0 (Nat.not_lt_zero _)
    | succ n0 ih2 =>
      intro k rL2 nL2 zL2 FL2 ErL2 EnL2 EzL2 EFL2 cv sv hinv hm0 H locs hP hD hS ls hl
      obtain ⟨hRLL2, hCLL2, hZLL2, hk, hz9⟩ := hinv
      refine lv_iload_n hx hb dX5_countByRows_2 rfl (lv_at hl 0 rfl) ?_
      refine lv_aload_n hx hb dX5_countByRows_3 rfl (lv_at hl 1 rfl) ?_
      have hxz_1 : -2147483648 ≤ zL2 12 ∧ zL2 12 < 2147483648 := hRLL2.1.2.2.2.1 12
      refine va_get (D := (dC, dI)) (ci := 5) (v := .int (iz (zL2 12))) (C := RX5) (T := TX5) (N := 16) hx hb hts kt_X5 hown hK hP 0 rfl rfl 2 (by decide) (kx_word hG kq_18_xrows_0 rfl) (fun _ h9 => h9) rfl dX5_countByRows_4 ?_
      refine ki_icmp_ge (tgt := 24) hx hb dX5_countByRows_7 (by decide) (by omega) (by omega) (by omega) (by omega) (fun c_2 => ?_) (fun c_2 => ?_)
      · skip
        refine lv_iconst (v := iz 0) hx hb dX5_countByRows_24 (by decide) ?_
        refine lv_istore_n (lv' := [(1, .int (iz 0)), (0, .ref (o 15))]) hx hb dX5_countByRows_25 rfl hl (by decide) rfl (fun ls hl => ?_)
        have lp26 : ∀ (n0 : Nat) (k : Int) (rL26 : Nat → Nat) (nL26 : Nat → Nat) (zL26 : Nat → Int) (FL26 : Nat → Int → Int) (ErL26 : Nat → Nat → Nat) (EnL26 : Nat → Nat → Nat) (EzL26 : Nat → Nat → Int) (EFL26 : Nat → Nat → Int → Int) (cv : Nat) (sv : Nat), ((xR [] [] [11, 12, 13] [] N z F En Ez EF nL26 zL26 FL26 EnL26 EzL26 EFL26) ∧ (cv + xg nL26 ≤ xg n + (0) ∧ sv + xp nL26 ≤ xp n + (0)) ∧ (zL26 12 = z 12) ∧ (0 ≤ k ∧ k ≤ 79 ∧ k ≤ z 12) ∧ (∀ r, 0 ≤ r → r < z 12 → wr_C k (20 * k) (fun e r => rs_sE Ez e = r ∧ ¬ Ez ((e + 1).toNat) 4 = 0) (EzL26 ((r + 1).toNat) 11) r ∧ wr_C k (5 * k) (fun e r => rs_sE Ez e = r ∧ ¬ Ez ((e + 1).toNat) 3 = 0) (EzL26 ((r + 1).toNat) 12) r ∧ wr_C k (1 * k) (fun e r => (0 ≤ Ez ((e + 1).toNat) 8 ∧ Ez ((e + 1).toNat) 8 < z 12) ∧ rs_sE Ez (Ez ((e + 1).toNat) 8) = r) (EzL26 ((r + 1).toNat) 13) r)) → (z 12 - k).toNat < n0 → ∀ (H : Heap) (locs : List Loc), va_P (dC, dI) kxCl ((xU cI cB cE o rL26 nL26 zL26 FL26 G (Eo 0 0)) ++ (eP cI N Eo ErL26 EnL26 EzL26 EFL26)) H → va_D A ((xU cI cB cE o rL26 nL26 zL26 FL26 G (Eo 0 0)) ++ (eP cI N Eo ErL26 EnL26 EzL26 EFL26)) → va_S A s.heap H locs → ∀ ls : Array Slot, lv_has ls 4 [(1, .int (iz k)), (0, .ref (o 15))] → W p l e (headSpec [.code yX5_countByRows cX5_countByRows 4 none] ({ frames := 3, cells := 100, slots := 42000, locals := 64 })).room s m ([.ref (o 15)] : List Value).toArray below meth c H locs cv sv QQ (F0 m 26 ls []) := by
          intro n0
          induction n0 with
          | zero => intro k rL26 nL26 zL26 FL26 ErL26 EnL26 EzL26 EFL26 cv sv hinv hm0; exact absurd hm0 (Nat.not_lt_zero _)
          | succ n0 ih26 =>
            intro k rL26 nL26 zL26 FL26 ErL26 EnL26 EzL26 EFL26 cv sv hinv hm0 H locs hP hD hS ls hl
            obtain ⟨hRLL26, hCLL26, hZLL26, hk, hc9⟩ := hinv
            refine lv_iload_n hx hb dX5_countByRows_26 rfl (lv_at hl 0 rfl) ?_
            refine lv_aload_n hx hb dX5_countByRows_27 rfl (lv_at hl 1 rfl) ?_
            have hxz_3 : -2147483648 ≤ zL26 12 ∧ zL26 12 < 2147483648 := hRLL26.1.2.2.2.1 12
            refine va_get (D := (dC, dI)) (ci := 5) (v := .int (iz (zL26 12))) (C := RX5) (T := TX5) (N := 16) hx hb hts kt_X5 hown hK hP 0 rfl rfl 2 (by decide) (kx_word hG kq_18_xrows_0 rfl) (fun _ h9 => h9) rfl dX5_countByRows_28 ?_
            refine ki_icmp_ge (tgt := 119) hx hb dX5_countByRows_31 (by decide) (by omega) (by omega) (by omega) (by omega) (fun c_4 => ?_) (fun c_4 => ?_)
            · skip
              rw [← hQe]
              exact xk_vret (ov := (fun _ : (Nat → Nat) × (Nat → Nat) × (Nat → Int) × (Nat → Int → Int) × (Nat → Nat → Nat) × (Nat → Nat → Nat) × (Nat → Nat → Int) × (Nat → Nat → Int → Int) => none)) (post := (fun (u : (Nat → Nat) × (Nat → Nat) × (Nat → Int) × (Nat → Int → Int) × (Nat → Nat → Nat) × (Nat → Nat → Nat) × (Nat → Nat → Int) × (Nat → Nat → Int → Int)) (dn dm : Nat) => match u with | (r', n', z', F', Er', En', Ez', EF') => xR [] [] [11, 12, 13] [] N z F En Ez EF n' z' F' En' Ez' EF' ∧ (dn + xg n' ≤ xg n + 0 ∧ dm + xp n' ≤ xp n + 0) ∧ (∀ r, 0 ≤ r → r < z 12 → wr_C (z 12) (20 * (z 12)) (fun e r => rs_sE Ez e = r ∧ ¬ Ez ((e + 1).toNat) 4 = 0) (Ez' ((r + 1).toNat) 11) r ∧ wr_C (z 12) (5 * (z 12)) (fun e r => rs_sE Ez e = r ∧ ¬ Ez ((e + 1).toNat) 3 = 0) (Ez' ((r + 1).toNat) 12) r ∧ wr_C (z 12) (1 * (z 12)) (fun e r => (0 ≤ Ez ((e + 1).toNat) 8 ∧ Ez ((e + 1).toNat) 8 < z 12) ∧ rs_sE Ez (Ez ((e + 1).toNat) 8) = r) (Ez' ((r + 1).toNat) 13) r))) (ws := (fun u : (Nat → Nat) × (Nat → Nat) × (Nat → Int) × (Nat → Int → Int) × (Nat → Nat → Nat) × (Nat → Nat → Nat) × (Nat → Nat → Int) × (Nat → Nat → Int → Int) => match u with | (r', n', z', F', Er', En', Ez', EF') => (xU cI cB cE o r' n' z' F' G (Eo 0 0) ++ eP cI N Eo Er' En' Ez' EF'))) (tys := xT cI cB cE) (rL26, nL26, zL26, FL26, ErL26, EnL26, EzL26, EFL26) hx hb hr hlocks rfl hP hD hK hS dX5_countByRows_119 (fun dn dm hdn hdm => ⟨⟨hRLL26.1, hRLL26.2.1, hRLL26.2.2.1, hRLL26.2.2.2⟩, ⟨by omega, by omega⟩, (show k = z 12 by omega) ▸ hc9⟩) (by omega) (by omega)
            · skip
              refine lv_aload_n hx hb dX5_countByRows_34 rfl (lv_at hl 1 rfl) ?_
              refine lv_iload_n hx hb dX5_countByRows_35 rfl (lv_at hl 0 rfl) ?_
              have hxG9 : xG N (zL26 12) G Eo := ⟨by omega, by omega, by omega, fun e9 h9 => hN4 e9 (by omega)⟩
              have hP : va_P (dC, dI) kxCl (xU cI cB cE o rL26 nL26 zL26 FL26 G (Eo 0 0) ++ eP cI N Eo ErL26 EnL26 EzL26 EFL26) H := hP
              refine xk_pure (va_runV (As := [.int (iz k)]) (rest := []) ⟨hx, hb, hml, hown, hts⟩ (y_known l dC dI cI cB cE o rL26 nL26 zL26 FL26 G N Eo ErL26 EnL26 EzL26 EFL26 k H.size hRLL26.1 hxG9 hRLL26.2.2.1 (by omega) (by omega)) (cwV 1 hts (kx_gV kq_18_xrows_8 kq_18_xrows_9 kq_18_xrows_10 kq_18_xrows_4 kq_18_xrows_11 rfl) rfl rfl rfl (by decide +kernel) ⟨Nat.le_of_ble_eq_true rfl, Nat.le_of_ble_eq_true rfl⟩) ⟨pPre_blind, va_recv hK hP (ci := 5) (q0 := 0) rfl rfl, pPre_give hP hK hG⟩ rfl rfl hl.1 rfl (lv_room (Nat.le_of_ble_eq_true rfl)) dX5_countByRows_36 ⟨show cv + 0 ≤ 100 from (by omega), show sv + 0 ≤ 42000 from (by omega)⟩) hS (fun z_6 locs hq_5 hS => ?_)
              refine W.eq (g2 := F0 m 39 ls [.ref z_6.toNat]) rfl ?_
              try dsimp only at hq_5
              obtain ⟨j7, hj7, ez7, hje7⟩ := hq_5
              subst ez7
              refine W.eq (g2 := F0 m 39 ls [.ref (Eo j7 0)]) rfl ?_
              have ej7 : j7 = (k + 1).toNat := by omega
              subst ej7
              refine lv_astore_n (lv' := [(2, .ref (Eo ((k + 1).toNat) 0)), (1, .int (iz k)), (0, .ref (o 15))]) hx hb dX5_countByRows_39 rfl hl (by decide) rfl (fun ls hl => ?_)
              have g10 : EzL26 ((k + 1).toNat) 10 = Ez ((k + 1).toNat) 10 := hRLL26.2.2.2.1 _ 10 (by decide)
              have hsk9 := hs k (by omega) (by omega)
              have hs10 : EzL26 ((k + 1).toNat) 10 = rs_sE Ez k := hRLL26.2.2.2.1 _ 10 (by decide)
              have hb9 := hc9 (EzL26 ((k + 1).toNat) 10) (by omega) (by omega)
              have hb11 := hb9.1.1
              have hb12 := hb9.2.1.1
              have hs8 : EzL26 ((k + 1).toNat) 8 = Ez ((k + 1).toNat) 8 := hRLL26.2.2.2.1 _ 8 (by decide)
              have hs4 : EzL26 ((k + 1).toNat) 4 = Ez ((k + 1).toNat) 4 := hRLL26.2.2.2.1 _ 4 (by decide)
              have hs3 : EzL26 ((k + 1).toNat) 3 = Ez ((k + 1).toNat) 3 := hRLL26.2.2.2.1 _ 3 (by decide)
              refine lv_aload_n hx hb dX5_countByRows_40 rfl (lv_at hl 2 rfl) ?_
              refine lv_aload_n hx hb dX5_countByRows_41 rfl (lv_at hl 0 rfl) ?_
              have hP := eP_foc hj7 hP
              have hD := eD_foc hj7 hD
              have hez_8 : -2147483648 ≤ EzL26 ((k + 1).toNat) 10 ∧ EzL26 ((k + 1).toNat) 10 < 2147483648 := (hRLL26.2.2.1 ((k + 1).toNat) hj7).2.2 10
              refine va_getN (D := (dC, dI)) (ci := 0) (v := .int (iz (EzL26 ((k + 1).toNat) 10))) (C := RX0) (T := TX0) (N := 12) hx hb hts kt_X0 hown hK hP 29 rfl rfl 8 (by decide) (va_Nw.use rfl (kx_nf hG kq_18_xrows_13)) (fun _ h9 => h9) rfl dX5_countByRows_42 ?_
              have hP := eP_un0 hj7 hP
              have hD := eD_un0 hj7 hD
              have hxG9 : xG N (zL26 12) G Eo := ⟨by omega, by omega, by omega, fun e9 h9 => hN4 e9 (by omega)⟩
              have hP : va_P (dC, dI) kxCl (xU cI cB cE o rL26 nL26 zL26 FL26 G (Eo 0 0) ++ eP cI N Eo ErL26 EnL26 EzL26 EFL26) H := hP
              refine xk_pure (va_runV (As := [.int (iz (EzL26 ((k + 1).toNat) 10))]) (rest := []) ⟨hx, hb, hml, hown, hts⟩ (y_known l dC dI cI cB cE o rL26 nL26 zL26 FL26 G N Eo ErL26 EnL26 EzL26 EFL26 (EzL26 ((k + 1).toNat) 10) H.size hRLL26.1 hxG9 hRLL26.2.2.1 (by omega) (by omega)) (cwV 1 hts (kx_gV kq_18_xrows_8 kq_18_xrows_9 kq_18_xrows_10 kq_18_xrows_4 kq_18_xrows_11 rfl) rfl rfl rfl (by decide +kernel) ⟨Nat.le_of_ble_eq_true rfl, Nat.le_of_ble_eq_true rfl⟩) ⟨pPre_blind, va_recv hK hP (ci := 5) (q0 := 0) rfl rfl, pPre_give hP hK hG⟩ rfl rfl hl.1 rfl (lv_room (Nat.le_of_ble_eq_true rfl)) dX5_countByRows_45 ⟨show cv + 0 ≤ 100 from (by omega), show sv + 0 ≤ 42000 from (by omega)⟩) hS (fun z_10 locs hq_9 hS => ?_)
              refine W.eq (g2 := F0 m 48 ls [.ref z_10.toNat]) rfl ?_
              try dsimp only at hq_9
              obtain ⟨j11, hj11, ez11, hje11⟩ := hq_9
              subst ez11
              refine W.eq (g2 := F0 m 48 ls [.ref (Eo j11 0)]) rfl ?_
              have ej11 : j11 = ((EzL26 ((k + 1).toNat) 10) + 1).toNat := by omega
              subst ej11
              refine lv_astore_n (lv' := [(3, .ref (Eo (((EzL26 ((k + 1).toNat) 10) + 1).toNat) 0)), (2, .ref (Eo ((k + 1).toNat) 0)), (1, .int (iz k)), (0, .ref (o 15))]) hx hb dX5_countByRows_48 rfl hl (by decide) rfl (fun ls hl => ?_)
              refine lv_aload_n hx hb dX5_countByRows_49 rfl (lv_at hl 0 rfl) ?_
              refine lv_dup hx hb dX5_countByRows_50 rfl ?_
              have hP := eP_foc hj11 hP
              have hD := eD_foc hj11 hD
              have hez_12 : -2147483648 ≤ EzL26 (((EzL26 ((k + 1).toNat) 10) + 1).toNat) 11 ∧ EzL26 (((EzL26 ((k + 1).toNat) 10) + 1).toNat) 11 < 2147483648 := (hRLL26.2.2.1 (((EzL26 ((k + 1).toNat) 10) + 1).toNat) hj11).2.2 11
              refine va_getN (D := (dC, dI)) (ci := 0) (v := .int (iz (EzL26 (((EzL26 ((k + 1).toNat) 10) + 1).toNat) 11))) (C := RX0) (T := TX0) (N := 12) hx hb hts kt_X0 hown hK hP 29 rfl rfl 9 (by decide) (va_Nw.use rfl (kx_nf hG kq_19_xouts_37)) (fun _ h9 => h9) rfl dX5_countByRows_51 ?_
              refine lv_aload_n hx hb dX5_countByRows_54 rfl (lv_at hl 1 rfl) ?_
              have hP := eP_un0 hj11 hP
              have hD := eD_un0 hj11 hD
              have hP := eP_foc hj7 hP
              have hD := eD_foc hj7 hD
              refine va_getN (D := (dC, dI)) (ci := 0) (v := .ref (Eo ((k + 1).toNat) 5)) (C := RX0) (T := TX0) (N := 12) hx hb hts kt_X0 hown hK hP 29 rfl rfl 5 (by decide) (va_Nw.use rfl (kx_nf hG kq_19_xouts_22)) (fun _ h9 => h9) rfl dX5_countByRows_55 ?_
              have he_13 : 0 ≤ EzL26 ((k + 1).toNat) 4 ∧ EzL26 ((k + 1).toNat) 4 ≤ ((EnL26 ((k + 1).toNat) 4 : Nat) : Int) ∧ ((EnL26 ((k + 1).toNat) 4 : Nat) : Int) ≤ 20 := (hRLL26.2.2.1 ((k + 1).toNat) hj7).1 4 (by decide)
              have he_14 : 0 ≤ EzL26 ((k + 1).toNat) 5 ∧ EzL26 ((k + 1).toNat) 5 ≤ ((EnL26 ((k + 1).toNat) 5 : Nat) : Int) ∧ ((EnL26 ((k + 1).toNat) 5 : Nat) : Int) ≤ 20 := (hRLL26.2.2.1 ((k + 1).toNat) hj7).1 5 (by decide)
              have he_15 : 0 ≤ EzL26 ((k + 1).toNat) 6 ∧ EzL26 ((k + 1).toNat) 6 ≤ ((EnL26 ((k + 1).toNat) 6 : Nat) : Int) ∧ ((EnL26 ((k + 1).toNat) 6 : Nat) : Int) ≤ 20 := (hRLL26.2.2.1 ((k + 1).toNat) hj7).1 6 (by decide)
              have hPc := hP.sub (ws' := (sU cI 20 (Eo ((k + 1).toNat) 5) (Eo ((k + 1).toNat) 6) (Eo ((k + 1).toNat) 7) (Eo ((k + 1).toNat) 8) (ErL26 ((k + 1).toNat) 4) (ErL26 ((k + 1).toNat) 5) (ErL26 ((k + 1).toNat) 6) (EnL26 ((k + 1).toNat) 4) (EnL26 ((k + 1).toNat) 5) (EnL26 ((k + 1).toNat) 6) (EzL26 ((k + 1).toNat) 4) (EzL26 ((k + 1).toNat) 5) (EzL26 ((k + 1).toNat) 6) (EFL26 ((k + 1).toNat) 4) (EFL26 ((k + 1).toNat) 5) (EFL26 ((k + 1).toNat) 6))) [38, 39, 40, 41, 42, 43, 44] rfl
              refine xk_pure (va_runV (As := []) (rest := [.int (iz (EzL26 (((EzL26 ((k + 1).toNat) 10) + 1).toNat) 11)), .ref (Eo (((EzL26 ((k + 1).toNat) 10) + 1).toNat) 0)]) ⟨hx, hb, hml, hown, hts⟩ (x_ssize l dC dI cI cB cE 20 (Eo ((k + 1).toNat) 5) (Eo ((k + 1).toNat) 6) (Eo ((k + 1).toNat) 7) (Eo ((k + 1).toNat) 8) (ErL26 ((k + 1).toNat) 4) (ErL26 ((k + 1).toNat) 5) (ErL26 ((k + 1).toNat) 6) (EnL26 ((k + 1).toNat) 4) (EnL26 ((k + 1).toNat) 5) (EnL26 ((k + 1).toNat) 6) (EzL26 ((k + 1).toNat) 4) (EzL26 ((k + 1).toNat) 5) (EzL26 ((k + 1).toNat) 6) (EFL26 ((k + 1).toNat) 4) (EFL26 ((k + 1).toNat) 5) (EFL26 ((k + 1).toNat) 6)  H.size ) (cwV 0 hts (kx_gV kq_19_xouts_3 kq_15_xspan_51 kq_15_xspan_52 kq_15_xspan_53 kq_15_xspan_54 rfl) rfl rfl rfl (by decide +kernel) ⟨Nat.le_of_ble_eq_true rfl, Nat.le_of_ble_eq_true rfl⟩) ⟨pPre_blind, va_recv hK hPc (ci := 3) (q0 := 0) rfl rfl, pPre_give hPc hK hG⟩ rfl rfl hl.1 rfl (lv_room (Nat.le_of_ble_eq_true rfl)) dX5_countByRows_58 ⟨show cv + 0 ≤ 100 from (by omega), show sv + 0 ≤ 42000 from (by omega)⟩) hS (fun z_17 locs hq_16 hS => ?_)
              refine W.eq (g2 := F0 m 61 ls [.int (iz z_17), .int (iz (EzL26 (((EzL26 ((k + 1).toNat) 10) + 1).toNat) 11)), .ref (Eo (((EzL26 ((k + 1).toNat) 10) + 1).toNat) 0)]) rfl ?_
              try dsimp only at hq_16
              have hq_16 := hq_16.symm
              subst hq_16
              refine ki_iadd hx hb dX5_countByRows_61 ?_
              have hP := eP_un0 hj7 hP
              have hD := eD_un0 hj7 hD
              have hP := eP_foc hj11 hP
              have hD := eD_foc hj11 hD
              refine va_putN (D := (dC, dI)) (ci := 0) (v := .int (iz ((EzL26 (((EzL26 ((k + 1).toNat) 10) + 1).toNat) 11) + (EzL26 ((k + 1).toNat) 4)))) (ty := .int) (C := RX0) (T := TX0) (N := 12) hx hb hts kt_X0 tyX0 tyX0_ok nmX0 hown hK hP hD hS 29 rfl rfl 9 (by decide) (va_Nw.use rfl (kx_nf hG kq_19_xouts_37)) (fun _ h9 => h9) rfl (by decide +kernel) rfl rfl (Nat.le_of_ble_eq_true rfl) dX5_countByRows_62 (fun H locs hP hD hS => ?_)
              have hP : va_P (dC, dI) kxCl (((xU cI cB cE o rL26 nL26 zL26 FL26 G (Eo 0 0)) ++ (eU cI (Eo (((EzL26 ((k + 1).toNat) 10) + 1).toNat)) (ErL26 (((EzL26 ((k + 1).toNat) 10) + 1).toNat)) (EnL26 (((EzL26 ((k + 1).toNat) 10) + 1).toNat)) (va_up (EzL26 (((EzL26 ((k + 1).toNat) 10) + 1).toNat)) 11 ((EzL26 (((EzL26 ((k + 1).toNat) 10) + 1).toNat) 11) + (EzL26 ((k + 1).toNat) 4))) (EFL26 (((EzL26 ((k + 1).toNat) 10) + 1).toNat)))) ++ (eR cI N (((EzL26 ((k + 1).toNat) 10) + 1).toNat) Eo ErL26 EnL26 EzL26 EFL26)) H := hP
              have hD : va_D A (((xU cI cB cE o rL26 nL26 zL26 FL26 G (Eo 0 0)) ++ (eU cI (Eo (((EzL26 ((k + 1).toNat) 10) + 1).toNat)) (ErL26 (((EzL26 ((k + 1).toNat) 10) + 1).toNat)) (EnL26 (((EzL26 ((k + 1).toNat) 10) + 1).toNat)) (va_up (EzL26 (((EzL26 ((k + 1).toNat) 10) + 1).toNat)) 11 ((EzL26 (((EzL26 ((k + 1).toNat) 10) + 1).toNat) 11) + (EzL26 ((k + 1).toNat) 4))) (EFL26 (((EzL26 ((k + 1).toNat) 10) + 1).toNat)))) ++ (eR cI N (((EzL26 ((k + 1).toNat) 10) + 1).toNat) Eo ErL26 EnL26 EzL26 EFL26)) := hD
              refine lv_aload_n hx hb dX5_countByRows_65 rfl (lv_at hl 0 rfl) ?_
              refine lv_dup hx hb dX5_countByRows_66 rfl ?_
              have hez_18 : -2147483648 ≤ EzL26 (((EzL26 ((k + 1).toNat) 10) + 1).toNat) 12 ∧ EzL26 (((EzL26 ((k + 1).toNat) 10) + 1).toNat) 12 < 2147483648 := (hRLL26.2.2.1 (((EzL26 ((k + 1).toNat) 10) + 1).toNat) hj11).2.2 12
              refine va_getN (D := (dC, dI)) (ci := 0) (v := .int (iz (EzL26 (((EzL26 ((k + 1).toNat) 10) + 1).toNat) 12))) (C := RX0) (T := TX0) (N := 12) hx hb hts kt_X0 hown hK hP 29 rfl rfl 10 (by decide) (va_Nw.use rfl (kx_nf hG kq_19_xouts_38)) (fun _ h9 => h9) rfl dX5_countByRows_67 ?_
              refine lv_aload_n hx hb dX5_countByRows_70 rfl (lv_at hl 1 rfl) ?_
              have hP : va_P (dC, dI) kxCl (((xU cI cB cE o rL26 nL26 zL26 FL26 G (Eo 0 0)) ++ (eU cI (Eo (((EzL26 ((k + 1).toNat) 10) + 1).toNat)) (ErL26 (((EzL26 ((k + 1).toNat) 10) + 1).toNat)) (EnL26 (((EzL26 ((k + 1).toNat) 10) + 1).toNat)) (va_up (EzL26 (((EzL26 ((k + 1).toNat) 10) + 1).toNat)) 11 ((EzL26 (((EzL26 ((k + 1).toNat) 10) + 1).toNat) 11) + (EzL26 ((k + 1).toNat) 4))) (EFL26 (((EzL26 ((k + 1).toNat) 10) + 1).toNat)))) ++ (eR cI N (((EzL26 ((k + 1).toNat) 10) + 1).toNat) Eo ErL26 EnL26 EzL26 EFL26)) H := hP
              have hD : va_D A (((xU cI cB cE o rL26 nL26 zL26 FL26 G (Eo 0 0)) ++ (eU cI (Eo (((EzL26 ((k + 1).toNat) 10) + 1).toNat)) (ErL26 (((EzL26 ((k + 1).toNat) 10) + 1).toNat)) (EnL26 (((EzL26 ((k + 1).toNat) 10) + 1).toNat)) (va_up (EzL26 (((EzL26 ((k + 1).toNat) 10) + 1).toNat)) 11 ((EzL26 (((EzL26 ((k + 1).toNat) 10) + 1).toNat) 11) + (EzL26 ((k + 1).toNat) 4))) (EFL26 (((EzL26 ((k + 1).toNat) 10) + 1).toNat)))) ++ (eR cI N (((EzL26 ((k + 1).toNat) 10) + 1).toNat) Eo ErL26 EnL26 EzL26 EFL26)) := hD
              have hP := eP_unf hj11 hP
              have hD := eD_unf hj11 hD
              have hPE19 := hRLL26.2.2.1.up (((EzL26 ((k + 1).toNat) 10) + 1).toNat) ((hRLL26.2.2.1 (((EzL26 ((k + 1).toNat) 10) + 1).toNat) hj11).sc 11 (by decide) (show -2147483648 ≤ (EzL26 (((EzL26 ((k + 1).toNat) 10) + 1).toNat) 11) + (EzL26 ((k + 1).toNat) 4) by omega) (show (EzL26 (((EzL26 ((k + 1).toNat) 10) + 1).toNat) 11) + (EzL26 ((k + 1).toNat) 4) < 2147483648 by omega))
              have hef19 := hRLL26.2.2.2.up (((EzL26 ((k + 1).toNat) 10) + 1).toNat) (z := (va_up (EzL26 (((EzL26 ((k + 1).toNat) 10) + 1).toNat)) 11 ((EzL26 (((EzL26 ((k + 1).toNat) 10) + 1).toNat) 11) + (EzL26 ((k + 1).toNat) 4)))) (n := (EnL26 (((EzL26 ((k + 1).toNat) 10) + 1).toNat))) (F := (EFL26 (((EzL26 ((k + 1).toNat) 10) + 1).toNat))) (fun k hk => (vfr hk _ (by decide) rfl)) (fun k hk => ⟨rfl, rfl⟩)
              generalize eEr19 : va_up ErL26 (((EzL26 ((k + 1).toNat) 10) + 1).toNat) (ErL26 (((EzL26 ((k + 1).toNat) 10) + 1).toNat)) = Er19 at hP hD
              generalize eEn19 : va_up EnL26 (((EzL26 ((k + 1).toNat) 10) + 1).toNat) (EnL26 (((EzL26 ((k + 1).toNat) 10) + 1).toNat)) = En19 at hP hD hPE19 hef19
              generalize eEz19 : va_up EzL26 (((EzL26 ((k + 1).toNat) 10) + 1).toNat) (va_up (EzL26 (((EzL26 ((k + 1).toNat) 10) + 1).toNat)) 11 ((EzL26 (((EzL26 ((k + 1).toNat) 10) + 1).toNat) 11) + (EzL26 ((k + 1).toNat) 4))) = Ez19 at hP hD hPE19 hef19
              generalize eEF19 : va_up EFL26 (((EzL26 ((k + 1).toNat) 10) + 1).toNat) (EFL26 (((EzL26 ((k + 1).toNat) 10) + 1).toNat)) = EF19 at hP hD hPE19 hef19
              have hcl19_11 : Ez19 (((EzL26 ((k + 1).toNat) 10) + 1).toNat) 11 = (EzL26 (((EzL26 ((k + 1).toNat) 10) + 1).toNat) 11) + (EzL26 ((k + 1).toNat) 4) := by rw [← eEz19]; simp (decide := true) only [va_ev, ↓reduceIte]
              have hcl19_12 : Ez19 (((EzL26 ((k + 1).toNat) 10) + 1).toNat) 12 = EzL26 (((EzL26 ((k + 1).toNat) 10) + 1).toNat) 12 := by rw [← eEz19]; simp (decide := true) only [va_ev, ↓reduceIte]
              have hcl19_13 : Ez19 (((EzL26 ((k + 1).toNat) 10) + 1).toNat) 13 = EzL26 (((EzL26 ((k + 1).toNat) 10) + 1).toNat) 13 := by rw [← eEz19]; simp (decide := true) only [va_ev, ↓reduceIte]
              have hP := eP_foc hj7 hP
              have hD := eD_foc hj7 hD
              refine va_getN (D := (dC, dI)) (ci := 0) (v := .ref (Eo ((k + 1).toNat) 4)) (C := RX0) (T := TX0) (N := 12) hx hb hts kt_X0 hown hK hP 29 rfl rfl 6 (by decide) (va_Nw.use rfl (kx_nf hG kq_19_xouts_32)) (fun _ h9 => h9) rfl dX5_countByRows_71 ?_
              have he_20 : 0 ≤ Ez19 ((k + 1).toNat) 3 ∧ Ez19 ((k + 1).toNat) 3 ≤ ((En19 ((k + 1).toNat) 3 : Nat) : Int) ∧ ((En19 ((k + 1).toNat) 3 : Nat) : Int) ≤ 5 := (hPE19 ((k + 1).toNat) hj7).1 3 (by decide)
              have hPc := hP.sub (ws' := (iU cI 5 (Eo ((k + 1).toNat) 4) (Er19 ((k + 1).toNat) 3) (En19 ((k + 1).toNat) 3) (Ez19 ((k + 1).toNat) 3) (EF19 ((k + 1).toNat) 3))) [36, 37] rfl
              refine xk_pure (va_runV (As := []) (rest := [.int (iz (EzL26 (((EzL26 ((k + 1).toNat) 10) + 1).toNat) 12)), .ref (Eo (((EzL26 ((k + 1).toNat) 10) + 1).toNat) 0)]) ⟨hx, hb, hml, hown, hts⟩ (x_size l dC dI cI cB cE 5 (Eo ((k + 1).toNat) 4) (Er19 ((k + 1).toNat) 3) (En19 ((k + 1).toNat) 3) (Ez19 ((k + 1).toNat) 3) (EF19 ((k + 1).toNat) 3)  H.size ) (cwV 0 hts (kx_gV kq_18_xrows_40 kq_15_xspan_10 kq_15_xspan_11 kq_13_xints_6 kq_15_xspan_12 rfl) rfl rfl rfl (by decide +kernel) ⟨Nat.le_of_ble_eq_true rfl, Nat.le_of_ble_eq_true rfl⟩) ⟨pPre_blind, va_recv hK hPc (ci := 1) (q0 := 0) rfl rfl, pPre_give hPc hK hG⟩ rfl rfl hl.1 rfl (lv_room (Nat.le_of_ble_eq_true rfl)) dX5_countByRows_74 ⟨show cv + 0 ≤ 100 from (by omega), show sv + 0 ≤ 42000 from (by omega)⟩) hS (fun z_22 locs hq_21 hS => ?_)
              refine W.eq (g2 := F0 m 77 ls [.int (iz z_22), .int (iz (EzL26 (((EzL26 ((k + 1).toNat) 10) + 1).toNat) 12)), .ref (Eo (((EzL26 ((k + 1).toNat) 10) + 1).toNat) 0)]) rfl ?_
              try dsimp only at hq_21
              have hq_21 := hq_21.symm
              subst hq_21
              refine ki_iadd hx hb dX5_countByRows_77 ?_
              have hP := eP_un0 hj7 hP
              have hD := eD_un0 hj7 hD
              have hP := eP_foc hj11 hP
              have hD := eD_foc hj11 hD
              refine va_putN (D := (dC, dI)) (ci := 0) (v := .int (iz ((EzL26 (((EzL26 ((k + 1).toNat) 10) + 1).toNat) 12) + (Ez19 ((k + 1).toNat) 3)))) (ty := .int) (C := RX0) (T := TX0) (N := 12) hx hb hts kt_X0 tyX0 tyX0_ok nmX0 hown hK hP hD hS 29 rfl rfl 10 (by decide) (va_Nw.use rfl (kx_nf hG kq_19_xouts_38)) (fun _ h9 => h9) rfl (by decide +kernel) rfl rfl (Nat.le_of_ble_eq_true rfl) dX5_countByRows_78 (fun H locs hP hD hS => ?_)
              have hP : va_P (dC, dI) kxCl (((xU cI cB cE o rL26 nL26 zL26 FL26 G (Eo 0 0)) ++ (eU cI (Eo (((EzL26 ((k + 1).toNat) 10) + 1).toNat)) (Er19 (((EzL26 ((k + 1).toNat) 10) + 1).toNat)) (En19 (((EzL26 ((k + 1).toNat) 10) + 1).toNat)) (va_up (Ez19 (((EzL26 ((k + 1).toNat) 10) + 1).toNat)) 12 ((EzL26 (((EzL26 ((k + 1).toNat) 10) + 1).toNat) 12) + (Ez19 ((k + 1).toNat) 3))) (EF19 (((EzL26 ((k + 1).toNat) 10) + 1).toNat)))) ++ (eR cI N (((EzL26 ((k + 1).toNat) 10) + 1).toNat) Eo Er19 En19 Ez19 EF19)) H := hP
              have hD : va_D A (((xU cI cB cE o rL26 nL26 zL26 FL26 G (Eo 0 0)) ++ (eU cI (Eo (((EzL26 ((k + 1).toNat) 10) + 1).toNat)) (Er19 (((EzL26 ((k + 1).toNat) 10) + 1).toNat)) (En19 (((EzL26 ((k + 1).toNat) 10) + 1).toNat)) (va_up (Ez19 (((EzL26 ((k + 1).toNat) 10) + 1).toNat)) 12 ((EzL26 (((EzL26 ((k + 1).toNat) 10) + 1).toNat) 12) + (Ez19 ((k + 1).toNat) 3))) (EF19 (((EzL26 ((k + 1).toNat) 10) + 1).toNat)))) ++ (eR cI N (((EzL26 ((k + 1).toNat) 10) + 1).toNat) Eo Er19 En19 Ez19 EF19)) := hD
              refine lv_aload_n hx hb dX5_countByRows_81 rfl (lv_at hl 3 rfl) ?_
              refine lv_aload_n hx hb dX5_countByRows_82 rfl (lv_at hl 1 rfl) ?_
              have hez_23 : -2147483648 ≤ Ez19 (((EzL26 ((k + 1).toNat) 10) + 1).toNat) 12 ∧ Ez19 (((EzL26 ((k + 1).toNat) 10) + 1).toNat) 12 < 2147483648 := (hPE19 (((EzL26 ((k + 1).toNat) 10) + 1).toNat) hj11).2.2 12
              have hP : va_P (dC, dI) kxCl (((xU cI cB cE o rL26 nL26 zL26 FL26 G (Eo 0 0)) ++ (eU cI (Eo (((EzL26 ((k + 1).toNat) 10) + 1).toNat)) (Er19 (((EzL26 ((k + 1).toNat) 10) + 1).toNat)) (En19 (((EzL26 ((k + 1).toNat) 10) + 1).toNat)) (va_up (Ez19 (((EzL26 ((k + 1).toNat) 10) + 1).toNat)) 12 ((EzL26 (((EzL26 ((k + 1).toNat) 10) + 1).toNat) 12) + (Ez19 ((k + 1).toNat) 3))) (EF19 (((EzL26 ((k + 1).toNat) 10) + 1).toNat)))) ++ (eR cI N (((EzL26 ((k + 1).toNat) 10) + 1).toNat) Eo Er19 En19 Ez19 EF19)) H := hP
              have hD : va_D A (((xU cI cB cE o rL26 nL26 zL26 FL26 G (Eo 0 0)) ++ (eU cI (Eo (((EzL26 ((k + 1).toNat) 10) + 1).toNat)) (Er19 (((EzL26 ((k + 1).toNat) 10) + 1).toNat)) (En19 (((EzL26 ((k + 1).toNat) 10) + 1).toNat)) (va_up (Ez19 (((EzL26 ((k + 1).toNat) 10) + 1).toNat)) 12 ((EzL26 (((EzL26 ((k + 1).toNat) 10) + 1).toNat) 12) + (Ez19 ((k + 1).toNat) 3))) (EF19 (((EzL26 ((k + 1).toNat) 10) + 1).toNat)))) ++ (eR cI N (((EzL26 ((k + 1).toNat) 10) + 1).toNat) Eo Er19 En19 Ez19 EF19)) := hD
              have hP := eP_unf hj11 hP
              have hD := eD_unf hj11 hD
              have hPE24 := hPE19.up (((EzL26 ((k + 1).toNat) 10) + 1).toNat) ((hPE19 (((EzL26 ((k + 1).toNat) 10) + 1).toNat) hj11).sc 12 (by decide) (show -2147483648 ≤ (EzL26 (((EzL26 ((k + 1).toNat) 10) + 1).toNat) 12) + (Ez19 ((k + 1).toNat) 3) by omega) (show (EzL26 (((EzL26 ((k + 1).toNat) 10) + 1).toNat) 12) + (Ez19 ((k + 1).toNat) 3) < 2147483648 by omega))
              have hef24 := hef19.up (((EzL26 ((k + 1).toNat) 10) + 1).toNat) (z := (va_up (Ez19 (((EzL26 ((k + 1).toNat) 10) + 1).toNat)) 12 ((EzL26 (((EzL26 ((k + 1).toNat) 10) + 1).toNat) 12) + (Ez19 ((k + 1).toNat) 3)))) (n := (En19 (((EzL26 ((k + 1).toNat) 10) + 1).toNat))) (F := (EF19 (((EzL26 ((k + 1).toNat) 10) + 1).toNat))) (fun k hk => (vfr hk _ (by decide) rfl)) (fun k hk => ⟨rfl, rfl⟩)
              generalize eEr24 : va_up Er19 (((EzL26 ((k + 1).toNat) 10) + 1).toNat) (Er19 (((EzL26 ((k + 1).toNat) 10) + 1).toNat)) = Er24 at hP hD
              generalize eEn24 : va_up En19 (((EzL26 ((k + 1).toNat) 10) + 1).toNat) (En19 (((EzL26 ((k + 1).toNat) 10) + 1).toNat)) = En24 at hP hD hPE24 hef24
              generalize eEz24 : va_up Ez19 (((EzL26 ((k + 1).toNat) 10) + 1).toNat) (va_up (Ez19 (((EzL26 ((k + 1).toNat) 10) + 1).toNat)) 12 ((EzL26 (((EzL26 ((k + 1).toNat) 10) + 1).toNat) 12) + (Ez19 ((k + 1).toNat) 3))) = Ez24 at hP hD hPE24 hef24
              generalize eEF24 : va_up EF19 (((EzL26 ((k + 1).toNat) 10) + 1).toNat) (EF19 (((EzL26 ((k + 1).toNat) 10) + 1).toNat)) = EF24 at hP hD hPE24 hef24
              have hcl24_11 : Ez24 (((EzL26 ((k + 1).toNat) 10) + 1).toNat) 11 = Ez19 (((EzL26 ((k + 1).toNat) 10) + 1).toNat) 11 := by rw [← eEz24]; simp (decide := true) only [va_ev, ↓reduceIte]
              have hcl24_12 : Ez24 (((EzL26 ((k + 1).toNat) 10) + 1).toNat) 12 = (EzL26 (((EzL26 ((k + 1).toNat) 10) + 1).toNat) 12) + (Ez19 ((k + 1).toNat) 3) := by rw [← eEz24]; simp (decide := true) only [va_ev, ↓reduceIte]
              have hcl24_13 : Ez24 (((EzL26 ((k + 1).toNat) 10) + 1).toNat) 13 = Ez19 (((EzL26 ((k + 1).toNat) 10) + 1).toNat) 13 := by rw [← eEz24]; simp (decide := true) only [va_ev, ↓reduceIte]
              have hP := eP_foc hj7 hP
              have hD := eD_foc hj7 hD
              have hez_25 : -2147483648 ≤ Ez24 ((k + 1).toNat) 8 ∧ Ez24 ((k + 1).toNat) 8 < 2147483648 := (hPE24 ((k + 1).toNat) hj7).2.2 8
              refine va_getN (D := (dC, dI)) (ci := 0) (v := .int (iz (Ez24 ((k + 1).toNat) 8))) (C := RX0) (T := TX0) (N := 12) hx hb hts kt_X0 hown hK hP 29 rfl rfl 1 (by decide) (va_Nw.use rfl (kx_nf hG kq_18_xrows_14)) (fun _ h9 => h9) rfl dX5_countByRows_83 ?_
              have hP := eP_un0 hj7 hP
              have hD := eD_un0 hj7 hD
              have hev0 : ∀ j i9, Ez19 j i9 = if j = (((EzL26 ((k + 1).toNat) 10) + 1).toNat) ∧ i9 = 11 then (EzL26 (((EzL26 ((k + 1).toNat) 10) + 1).toNat) 11) + (EzL26 ((k + 1).toNat) 4) else EzL26 j i9 := fun j i9 => by rw [← eEz19]; exact wr_up2 EzL26 (((EzL26 ((k + 1).toNat) 10) + 1).toNat) 11 _ j i9
              have hev1 : ∀ j i9, Ez24 j i9 = if j = (((EzL26 ((k + 1).toNat) 10) + 1).toNat) ∧ i9 = 12 then (EzL26 (((EzL26 ((k + 1).toNat) 10) + 1).toNat) 12) + (Ez19 ((k + 1).toNat) 3) else Ez19 j i9 := fun j i9 => by rw [← eEz24]; exact wr_up2 Ez19 (((EzL26 ((k + 1).toNat) 10) + 1).toNat) 12 _ j i9
              have e12a : Ez19 (((EzL26 ((k + 1).toNat) 10) + 1).toNat) 12 = EzL26 (((EzL26 ((k + 1).toNat) 10) + 1).toNat) 12 := (hev0 _ _).trans (if_neg (by omega))
              have e12b : Ez19 ((k + 1).toNat) 3 = EzL26 ((k + 1).toNat) 3 := (hev0 _ _).trans (if_neg (by omega))
              have ea8 : Ez24 ((k + 1).toNat) 8 = EzL26 ((k + 1).toNat) 8 := (hev1 _ _).trans ((if_neg (by omega)).trans ((hev0 _ _).trans (if_neg (by omega))))
              have hxG9 : xG N (zL26 12) G Eo := ⟨by omega, by omega, by omega, fun e9 h9 => hN4 e9 (by omega)⟩
              have hP : va_P (dC, dI) kxCl (xU cI cB cE o rL26 nL26 zL26 FL26 G (Eo 0 0) ++ eP cI N Eo Er24 En24 Ez24 EF24) H := hP
              refine xk_pure (va_runV (As := [.int (iz (Ez24 ((k + 1).toNat) 8))]) (rest := []) ⟨hx, hb, hml, hown, hts⟩ (y_isEntry l dC dI cI cB cE o rL26 nL26 zL26 FL26 G N Eo Er24 En24 Ez24 EF24 (Ez24 ((k + 1).toNat) 8) H.size hRLL26.1 hxG9 hPE24 (by omega) (by omega)) (cwV 1 hts (kx_gV kq_18_xrows_1 kq_18_xrows_2 kq_18_xrows_3 kq_18_xrows_4 kq_18_xrows_5 rfl) rfl rfl rfl (by decide +kernel) ⟨Nat.le_of_ble_eq_true rfl, Nat.le_of_ble_eq_true rfl⟩) ⟨pPre_blind, va_recv hK hP (ci := 5) (q0 := 0) rfl rfl, pPre_give hP hK hG⟩ rfl rfl hl.1 rfl (lv_room (Nat.le_of_ble_eq_true rfl)) dX5_countByRows_86 ⟨show cv + 0 ≤ 100 from (by omega), show sv + 0 ≤ 42000 from (by omega)⟩) hS (fun z_27 locs hq_26 hS => ?_)
              refine W.eq (g2 := F0 m 89 ls [.int (iz z_27)]) rfl ?_
              try dsimp only at hq_26
              rcases hq_26 with ⟨rfl, hq_26⟩ | ⟨rfl, hq_26⟩
              · skip
                refine ki_if_eq (tgt := 113) hx hb dX5_countByRows_89 (by decide) (by omega) (by omega) (fun c_28 => ?_) (fun c_28 => ?_)
                · omega
                · skip
                  refine lv_aload_n hx hb dX5_countByRows_92 rfl (lv_at hl 3 rfl) ?_
                  refine lv_aload_n hx hb dX5_countByRows_93 rfl (lv_at hl 3 rfl) ?_
                  refine lv_aload_n hx hb dX5_countByRows_94 rfl (lv_at hl 1 rfl) ?_
                  have hP := eP_foc hj7 hP
                  have hD := eD_foc hj7 hD
                  refine va_getN (D := (dC, dI)) (ci := 0) (v := .int (iz (Ez24 ((k + 1).toNat) 8))) (C := RX0) (T := TX0) (N := 12) hx hb hts kt_X0 hown hK hP 29 rfl rfl 1 (by decide) (va_Nw.use rfl (kx_nf hG kq_18_xrows_14)) (fun _ h9 => h9) rfl dX5_countByRows_95 ?_
                  have hP := eP_un0 hj7 hP
                  have hD := eD_un0 hj7 hD
                  have hxG9 : xG N (zL26 12) G Eo := ⟨by omega, by omega, by omega, fun e9 h9 => hN4 e9 (by omega)⟩
                  have hP : va_P (dC, dI) kxCl (xU cI cB cE o rL26 nL26 zL26 FL26 G (Eo 0 0) ++ eP cI N Eo Er24 En24 Ez24 EF24) H := hP
                  refine xk_pure (va_runV (As := [.int (iz (Ez24 ((k + 1).toNat) 8))]) (rest := [.ref (o 15)]) ⟨hx, hb, hml, hown, hts⟩ (y_firstOf2 l dC dI cI cB cE o rL26 nL26 zL26 FL26 G N Eo Er24 En24 Ez24 EF24 (Ez24 ((k + 1).toNat) 8) H.size hRLL26.1 hxG9 hPE24 (by omega) (by omega)) (cwV 1 hts (kx_gV kq_18_xrows_15 kq_18_xrows_16 kq_18_xrows_17 kq_18_xrows_4 kq_18_xrows_18 rfl) rfl rfl rfl (by decide +kernel) ⟨Nat.le_of_ble_eq_true rfl, Nat.le_of_ble_eq_true rfl⟩) ⟨pPre_blind, va_recv hK hP (ci := 5) (q0 := 0) rfl rfl, pPre_give hP hK hG⟩ rfl rfl hl.1 rfl (lv_room (Nat.le_of_ble_eq_true rfl)) dX5_countByRows_98 ⟨show cv + 0 ≤ 100 from (by omega), show sv + 0 ≤ 42000 from (by omega)⟩) hS (fun z_30 locs hq_29 hS => ?_)
                  refine W.eq (g2 := F0 m 101 ls [.int (iz z_30), .ref (o 15)]) rfl ?_
                  try dsimp only at hq_29
                  obtain ⟨hq_29, hq_29b⟩ := hq_29
                  subst hq_29
                  refine W.eq (g2 := F0 m 101 ls [.int (iz (rs_fo (zL26 12) Ez24 (Ez24 ((k + 1).toNat) 8))), .ref (o 15)]) rfl ?_
                  obtain ⟨x3, ex3⟩ : ∃ x3 : Int, x3 = rs_sE Ez (Ez ((k + 1).toNat) 8) := ⟨_, rfl⟩
                  have hx3 := hs (Ez ((k + 1).toNat) 8) (by omega) (by omega)
                  have ef9 : rs_fo (zL26 12) Ez24 (Ez24 ((k + 1).toNat) 8) = x3 := (if_pos (by omega)).trans (by rw [ea8, hs8, ex3]; exact (hev1 _ _).trans ((if_neg (by omega)).trans ((hev0 _ _).trans ((if_neg (by omega)).trans (hRLL26.2.2.2.1 _ 10 (by decide))))))
                  rw [ef9]
                  refine W.eq (g2 := F0 m 101 ls [.int (iz x3), .ref (o 15)]) rfl ?_
                  have hx3b : 0 ≤ x3 ∧ x3 < z 12 := by omega
                  have hb13 := (hc9 x3 hx3b.1 hx3b.2).2.2.1
                  have e13a : Ez24 ((x3 + 1).toNat) 13 = EzL26 ((x3 + 1).toNat) 13 := (hev1 _ _).trans ((if_neg (by omega)).trans ((hev0 _ _).trans (if_neg (by omega))))
                  have hxG9 : xG N (zL26 12) G Eo := ⟨by omega, by omega, by omega, fun e9 h9 => hN4 e9 (by omega)⟩
                  have hP : va_P (dC, dI) kxCl (xU cI cB cE o rL26 nL26 zL26 FL26 G (Eo 0 0) ++ eP cI N Eo Er24 En24 Ez24 EF24) H := hP
                  refine xk_pure (va_runV (As := [.int (iz x3)]) (rest := []) ⟨hx, hb, hml, hown, hts⟩ (y_known l dC dI cI cB cE o rL26 nL26 zL26 FL26 G N Eo Er24 En24 Ez24 EF24 x3 H.size hRLL26.1 hxG9 hPE24 (by omega) (by omega)) (cwV 1 hts (kx_gV kq_18_xrows_8 kq_18_xrows_9 kq_18_xrows_10 kq_18_xrows_4 kq_18_xrows_11 rfl) rfl rfl rfl (by decide +kernel) ⟨Nat.le_of_ble_eq_true rfl, Nat.le_of_ble_eq_true rfl⟩) ⟨pPre_blind, va_recv hK hP (ci := 5) (q0 := 0) rfl rfl, pPre_give hP hK hG⟩ rfl rfl hl.1 rfl (lv_room (Nat.le_of_ble_eq_true rfl)) dX5_countByRows_101 ⟨show cv + 0 ≤ 100 from (by omega), show sv + 0 ≤ 42000 from (by omega)⟩) hS (fun z_32 locs hq_31 hS => ?_)
                  refine W.eq (g2 := F0 m 104 ls [.ref z_32.toNat]) rfl ?_
                  try dsimp only at hq_31
                  obtain ⟨j33, hj33, ez33, hje33⟩ := hq_31
                  subst ez33
                  refine W.eq (g2 := F0 m 104 ls [.ref (Eo j33 0)]) rfl ?_
                  have ej33 : j33 = (x3 + 1).toNat := by omega
                  subst ej33
                  refine lv_dup hx hb dX5_countByRows_104 rfl ?_
                  have hP := eP_foc hj33 hP
                  have hD := eD_foc hj33 hD
                  have hez_34 : -2147483648 ≤ Ez24 ((x3 + 1).toNat) 13 ∧ Ez24 ((x3 + 1).toNat) 13 < 2147483648 := (hPE24 ((x3 + 1).toNat) hj33).2.2 13
                  refine va_getN (D := (dC, dI)) (ci := 0) (v := .int (iz (Ez24 ((x3 + 1).toNat) 13))) (C := RX0) (T := TX0) (N := 12) hx hb hts kt_X0 hown hK hP 29 rfl rfl 11 (by decide) (va_Nw.use rfl (kx_nf hG kq_19_xouts_39)) (fun _ h9 => h9) rfl dX5_countByRows_105 ?_
                  refine lv_iconst (v := iz 1) hx hb dX5_countByRows_108 (by decide) ?_
                  refine ki_iadd hx hb dX5_countByRows_109 ?_
                  refine va_putN (D := (dC, dI)) (ci := 0) (v := .int (iz ((Ez24 ((x3 + 1).toNat) 13) + 1))) (ty := .int) (C := RX0) (T := TX0) (N := 12) hx hb hts kt_X0 tyX0 tyX0_ok nmX0 hown hK hP hD hS 29 rfl rfl 11 (by decide) (va_Nw.use rfl (kx_nf hG kq_19_xouts_39)) (fun _ h9 => h9) rfl (by decide +kernel) rfl rfl (Nat.le_of_ble_eq_true rfl) dX5_countByRows_110 (fun H locs hP hD hS => ?_)
                  have hP : va_P (dC, dI) kxCl (((xU cI cB cE o rL26 nL26 zL26 FL26 G (Eo 0 0)) ++ (eU cI (Eo ((x3 + 1).toNat)) (Er24 ((x3 + 1).toNat)) (En24 ((x3 + 1).toNat)) (va_up (Ez24 ((x3 + 1).toNat)) 13 ((Ez24 ((x3 + 1).toNat) 13) + 1)) (EF24 ((x3 + 1).toNat)))) ++ (eR cI N ((x3 + 1).toNat) Eo Er24 En24 Ez24 EF24)) H := hP
                  have hD : va_D A (((xU cI cB cE o rL26 nL26 zL26 FL26 G (Eo 0 0)) ++ (eU cI (Eo ((x3 + 1).toNat)) (Er24 ((x3 + 1).toNat)) (En24 ((x3 + 1).toNat)) (va_up (Ez24 ((x3 + 1).toNat)) 13 ((Ez24 ((x3 + 1).toNat) 13) + 1)) (EF24 ((x3 + 1).toNat)))) ++ (eR cI N ((x3 + 1).toNat) Eo Er24 En24 Ez24 EF24)) := hD
                  have hP : va_P (dC, dI) kxCl (((xU cI cB cE o rL26 nL26 zL26 FL26 G (Eo 0 0)) ++ (eU cI (Eo ((x3 + 1).toNat)) (Er24 ((x3 + 1).toNat)) (En24 ((x3 + 1).toNat)) (va_up (Ez24 ((x3 + 1).toNat)) 13 ((Ez24 ((x3 + 1).toNat) 13) + 1)) (EF24 ((x3 + 1).toNat)))) ++ (eR cI N ((x3 + 1).toNat) Eo Er24 En24 Ez24 EF24)) H := hP
                  have hD : va_D A (((xU cI cB cE o rL26 nL26 zL26 FL26 G (Eo 0 0)) ++ (eU cI (Eo ((x3 + 1).toNat)) (Er24 ((x3 + 1).toNat)) (En24 ((x3 + 1).toNat)) (va_up (Ez24 ((x3 + 1).toNat)) 13 ((Ez24 ((x3 + 1).toNat) 13) + 1)) (EF24 ((x3 + 1).toNat)))) ++ (eR cI N ((x3 + 1).toNat) Eo Er24 En24 Ez24 EF24)) := hD
                  have hP := eP_unf hj33 hP
                  have hD := eD_unf hj33 hD
                  have hPE35 := hPE24.up ((x3 + 1).toNat) ((hPE24 ((x3 + 1).toNat) hj33).sc 13 (by decide) (show -2147483648 ≤ (Ez24 ((x3 + 1).toNat) 13) + 1 by omega) (show (Ez24 ((x3 + 1).toNat) 13) + 1 < 2147483648 by omega))
                  have hef35 := hef24.up ((x3 + 1).toNat) (z := (va_up (Ez24 ((x3 + 1).toNat)) 13 ((Ez24 ((x3 + 1).toNat) 13) + 1))) (n := (En24 ((x3 + 1).toNat))) (F := (EF24 ((x3 + 1).toNat))) (fun k hk => (vfr hk _ (by decide) rfl)) (fun k hk => ⟨rfl, rfl⟩)
                  generalize eEr35 : va_up Er24 ((x3 + 1).toNat) (Er24 ((x3 + 1).toNat)) = Er35 at hP hD
                  generalize eEn35 : va_up En24 ((x3 + 1).toNat) (En24 ((x3 + 1).toNat)) = En35 at hP hD hPE35 hef35
                  generalize eEz35 : va_up Ez24 ((x3 + 1).toNat) (va_up (Ez24 ((x3 + 1).toNat)) 13 ((Ez24 ((x3 + 1).toNat) 13) + 1)) = Ez35 at hP hD hPE35 hef35
                  generalize eEF35 : va_up EF24 ((x3 + 1).toNat) (EF24 ((x3 + 1).toNat)) = EF35 at hP hD hPE35 hef35
                  have hcl35_11 : Ez35 ((x3 + 1).toNat) 11 = Ez24 ((x3 + 1).toNat) 11 := by rw [← eEz35]; simp (decide := true) only [va_ev, ↓reduceIte]
                  have hcl35_12 : Ez35 ((x3 + 1).toNat) 12 = Ez24 ((x3 + 1).toNat) 12 := by rw [← eEz35]; simp (decide := true) only [va_ev, ↓reduceIte]
                  have hcl35_13 : Ez35 ((x3 + 1).toNat) 13 = (Ez24 ((x3 + 1).toNat) 13) + 1 := by rw [← eEz35]; simp (decide := true) only [va_ev, ↓reduceIte]
                  have hev2 : ∀ j i9, Ez35 j i9 = if j = ((x3 + 1).toNat) ∧ i9 = 13 then (Ez24 ((x3 + 1).toNat) 13) + 1 else Ez24 j i9 := fun j i9 => by rw [← eEz35]; exact wr_up2 Ez24 ((x3 + 1).toNat) 13 _ j i9
                  have hq11 : ∀ r, 0 ≤ r → r < z 12 → Ez35 ((r + 1).toNat) 11 = EzL26 ((r + 1).toNat) 11 + (if r = EzL26 ((k + 1).toNat) 10 then EzL26 ((k + 1).toNat) 4 else 0) := fun r a b => by rw [hev2, if_neg (by omega), hev1, if_neg (by omega), hev0]; by_cases c9 : r = EzL26 ((k + 1).toNat) 10; (rw [if_pos c9, if_pos (by rw [c9]; exact ⟨rfl, rfl⟩), c9]); (rw [if_neg c9, if_neg (by omega), Int.add_zero])
                  have hq12 : ∀ r, 0 ≤ r → r < z 12 → Ez35 ((r + 1).toNat) 12 = EzL26 ((r + 1).toNat) 12 + (if r = EzL26 ((k + 1).toNat) 10 then EzL26 ((k + 1).toNat) 3 else 0) := fun r a b => by rw [hev2, if_neg (by omega), hev1]; by_cases c9 : r = EzL26 ((k + 1).toNat) 10; (rw [if_pos c9, if_pos (by rw [c9]; exact ⟨rfl, rfl⟩), e12b, c9]); (rw [if_neg c9, if_neg (by omega), hev0, if_neg (by omega), Int.add_zero])
                  have hq13 : ∀ r, 0 ≤ r → r < z 12 → Ez35 ((r + 1).toNat) 13 = EzL26 ((r + 1).toNat) 13 + (if r = x3 then 1 else 0) := fun r a b => by rw [hev2]; by_cases c9 : r = x3; (rw [if_pos c9, if_pos (by rw [c9]; exact ⟨rfl, rfl⟩), e13a, c9]); (rw [if_neg c9, if_neg (by omega), hev1, if_neg (by omega), hev0, if_neg (by omega), Int.add_zero])
                  refine lv_iinc (v := iz (k + 1)) (lv' := [(1, .int (iz (k + 1))), (3, .ref (Eo (((EzL26 ((k + 1).toNat) 10) + 1).toNat) 0)), (2, .ref (Eo ((k + 1).toNat) 0)), (0, .ref (o 15))]) hx hb dX5_countByRows_113 hl (k := 2) rfl (iz_add k 1) (by decide) rfl (fun ls hl => ?_)
                  refine lv_goto (tgt := 26) hx hb dX5_countByRows_116 (by decide) ?_
                  exact ih26 (k + 1) rL26 nL26 zL26 FL26 Er35 En35 Ez35 EF35 cv sv ⟨⟨hRLL26.1, hRLL26.2.1, hPE35, hef35⟩, ⟨by omega, by omega⟩, (show zL26 12 = z 12 by omega), by omega, fun r a b => by obtain ⟨c1, c2, c3⟩ := hc9 r a b; exact ⟨(by rw [hq11 r a b, show 20 * (k + 1) = 20 * k + 20 by omega]; by_cases c9 : r = EzL26 ((k + 1).toNat) 10; (rw [if_pos c9]; exact wr_C_add c1 (by omega) (by omega) ⟨fun h8 => by have h7 := h8.2; omega, fun h8 => ⟨by show Ez ((k + 1).toNat) 10 = r; omega, by omega⟩⟩); (rw [if_neg c9, Int.add_zero]; exact wr_C_no c1 (by omega) (fun h8 => c9 (by have h7 : Ez ((k + 1).toNat) 10 = r := h8.1; omega)))), (by rw [hq12 r a b, show 5 * (k + 1) = 5 * k + 5 by omega]; by_cases c9 : r = EzL26 ((k + 1).toNat) 10; (rw [if_pos c9]; exact wr_C_add c2 (by omega) (by omega) ⟨fun h8 => by have h7 := h8.2; omega, fun h8 => ⟨by show Ez ((k + 1).toNat) 10 = r; omega, by omega⟩⟩); (rw [if_neg c9, Int.add_zero]; exact wr_C_no c2 (by omega) (fun h8 => c9 (by have h7 : Ez ((k + 1).toNat) 10 = r := h8.1; omega)))), (by rw [hq13 r a b, show 1 * (k + 1) = 1 * k + 1 by omega]; by_cases c9 : r = x3; (rw [if_pos c9]; exact wr_C_add c3 (by omega) (by omega) ⟨fun h8 => by omega, fun h8 => ⟨by omega, by show rs_sE Ez (Ez ((k + 1).toNat) 8) = r; omega⟩⟩); (rw [if_neg c9, Int.add_zero]; exact wr_C_no c3 (by omega) (fun h8 => c9 (by have h7 : rs_sE Ez (Ez ((k + 1).toNat) 8) = r := h8.2; omega))))⟩⟩ (by omega) _ _ hP hD hS ls (lv_sub hl [0, 3] rfl)
              · skip
                refine ki_if_eq (tgt := 113) hx hb dX5_countByRows_89 (by decide) (by omega) (by omega) (fun c_36 => ?_) (fun c_36 => ?_)
                · skip
                  have hq11 : ∀ r, 0 ≤ r → r < z 12 → Ez24 ((r + 1).toNat) 11 = EzL26 ((r + 1).toNat) 11 + (if r = EzL26 ((k + 1).toNat) 10 then EzL26 ((k + 1).toNat) 4 else 0) := fun r a b => by rw [hev1, if_neg (by omega), hev0]; by_cases c9 : r = EzL26 ((k + 1).toNat) 10; (rw [if_pos c9, if_pos (by rw [c9]; exact ⟨rfl, rfl⟩), c9]); (rw [if_neg c9, if_neg (by omega), Int.add_zero])
                  have hq12 : ∀ r, 0 ≤ r → r < z 12 → Ez24 ((r + 1).toNat) 12 = EzL26 ((r + 1).toNat) 12 + (if r = EzL26 ((k + 1).toNat) 10 then EzL26 ((k + 1).toNat) 3 else 0) := fun r a b => by rw [hev1]; by_cases c9 : r = EzL26 ((k + 1).toNat) 10; (rw [if_pos c9, if_pos (by rw [c9]; exact ⟨rfl, rfl⟩), e12b, c9]); (rw [if_neg c9, if_neg (by omega), hev0, if_neg (by omega), Int.add_zero])
                  have hq13 : ∀ r, 0 ≤ r → r < z 12 → Ez24 ((r + 1).toNat) 13 = EzL26 ((r + 1).toNat) 13 := fun r a b => by rw [hev1, if_neg (by omega), hev0, if_neg (by omega)]
                  refine lv_iinc (v := iz (k + 1)) (lv' := [(1, .int (iz (k + 1))), (3, .ref (Eo (((EzL26 ((k + 1).toNat) 10) + 1).toNat) 0)), (2, .ref (Eo ((k + 1).toNat) 0)), (0, .ref (o 15))]) hx hb dX5_countByRows_113 hl (k := 2) rfl (iz_add k 1) (by decide) rfl (fun ls hl => ?_)
                  refine lv_goto (tgt := 26) hx hb dX5_countByRows_116 (by decide) ?_
                  exact ih26 (k + 1) rL26 nL26 zL26 FL26 Er24 En24 Ez24 EF24 cv sv ⟨⟨hRLL26.1, hRLL26.2.1, hPE24, hef24⟩, ⟨by omega, by omega⟩, (show zL26 12 = z 12 by omega), by omega, fun r a b => by obtain ⟨c1, c2, c3⟩ := hc9 r a b; exact ⟨(by rw [hq11 r a b, show 20 * (k + 1) = 20 * k + 20 by omega]; by_cases c9 : r = EzL26 ((k + 1).toNat) 10; (rw [if_pos c9]; exact wr_C_add c1 (by omega) (by omega) ⟨fun h8 => by have h7 := h8.2; omega, fun h8 => ⟨by show Ez ((k + 1).toNat) 10 = r; omega, by omega⟩⟩); (rw [if_neg c9, Int.add_zero]; exact wr_C_no c1 (by omega) (fun h8 => c9 (by have h7 : Ez ((k + 1).toNat) 10 = r := h8.1; omega)))), (by rw [hq12 r a b, show 5 * (k + 1) = 5 * k + 5 by omega]; by_cases c9 : r = EzL26 ((k + 1).toNat) 10; (rw [if_pos c9]; exact wr_C_add c2 (by omega) (by omega) ⟨fun h8 => by have h7 := h8.2; omega, fun h8 => ⟨by show Ez ((k + 1).toNat) 10 = r; omega, by omega⟩⟩); (rw [if_neg c9, Int.add_zero]; exact wr_C_no c2 (by omega) (fun h8 => c9 (by have h7 : Ez ((k + 1).toNat) 10 = r := h8.1; omega)))), (by rw [hq13 r a b, show 1 * (k + 1) = 1 * k + 1 by omega]; exact wr_C_no c3 (by omega) (fun h8 => by have h7 := h8.1; omega))⟩⟩ (by omega) _ _ hP hD hS ls (lv_sub hl [0, 3] rfl)
                · omega
        exact lp26 _ 0 rL2 nL2 zL2 FL2 ErL2 EnL2 EzL2 EFL2 cv sv ⟨⟨hRLL2.1, hRLL2.2.1, hRLL2.2.2.1, hRLL2.2.2.2⟩, ⟨by omega, by omega⟩, (show zL2 12 = z 12 by omega), by omega, fun r a b => by obtain ⟨e1, e2, e3⟩ := hz9 r a (by omega); rw [e1, e2, e3]; exact ⟨wr_C_0 _ (by omega) r, wr_C_0 _ (by omega) r, wr_C_0 _ (by omega) r⟩⟩ (Nat.lt_succ_self _) _ _ hP hD hS ls (lv_sub hl [0, 1] rfl)
      · skip
        refine lv_aload_n hx hb dX5_countByRows_10 rfl (lv_at hl 1 rfl) ?_
        refine lv_iload_n hx hb dX5_countByRows_11 rfl (lv_at hl 0 rfl) ?_
        have hxG9 : xG N (zL2 12) G Eo := ⟨by omega, by omega, by omega, fun e9 h9 => hN4 e9 (by omega)⟩
        have hP : va_P (dC, dI) kxCl (xU cI cB cE o rL2 nL2 zL2 FL2 G (Eo 0 0) ++ eP cI N Eo ErL2 EnL2 EzL2 EFL2) H := hP
        refine xk_pure (va_runV (As := [.int (iz k)]) (rest := []) ⟨hx, hb, hml, hown, hts⟩ (y_known l dC dI cI cB cE o rL2 nL2 zL2 FL2 G N Eo ErL2 EnL2 EzL2 EFL2 k H.size hRLL2.1 hxG9 hRLL2.2.2.1 (by omega) (by omega)) (cwV 1 hts (kx_gV kq_18_xrows_8 kq_18_xrows_9 kq_18_xrows_10 kq_18_xrows_4 kq_18_xrows_11 rfl) rfl rfl rfl (by decide +kernel) ⟨Nat.le_of_ble_eq_true rfl, Nat.le_of_ble_eq_true rfl⟩) ⟨pPre_blind, va_recv hK hP (ci := 5) (q0 := 0) rfl rfl, pPre_give hP hK hG⟩ rfl rfl hl.1 rfl (lv_room (Nat.le_of_ble_eq_true rfl)) dX5_countByRows_12 ⟨show cv + 0 ≤ 100 from (by omega), show sv + 0 ≤ 42000 from (by omega)⟩) hS (fun z_38 locs hq_37 hS => ?_)
        refine W.eq (g2 := F0 m 15 ls [.ref z_38.toNat]) rfl ?_
        try dsimp only at hq_37
        obtain ⟨j39, hj39, ez39, hje39⟩ := hq_37
        subst ez39
        refine W.eq (g2 := F0 m 15 ls [.ref (Eo j39 0)]) rfl ?_
        have ej39 : j39 = (k + 1).toNat := by omega
        subst ej39
        have hP := eP_foc hj39 hP
        have hD := eD_foc hj39 hD
        have hPc := hP.sub (ws' := (eU cI (Eo ((k + 1).toNat)) (ErL2 ((k + 1).toNat)) (EnL2 ((k + 1).toNat)) (EzL2 ((k + 1).toNat)) (EFL2 ((k + 1).toNat)))) [29, 30, 31, 32, 33, 34, 35, 36, 37, 38, 39, 40, 41, 42, 43, 44] rfl
        have hDc := hD.sub (ws' := (eU cI (Eo ((k + 1).toNat)) (ErL2 ((k + 1).toNat)) (EnL2 ((k + 1).toNat)) (EzL2 ((k + 1).toNat)) (EFL2 ((k + 1).toNat)))) [29, 30, 31, 32, 33, 34, 35, 36, 37, 38, 39, 40, 41, 42, 43, 44] (by decide) rfl
        have hFc := va_free (wc := (eU cI (Eo ((k + 1).toNat)) (ErL2 ((k + 1).toNat)) (EnL2 ((k + 1).toNat)) (EzL2 ((k + 1).toNat)) (EFL2 ((k + 1).toNat)))) hD hS hA [29, 30, 31, 32, 33, 34, 35, 36, 37, 38, 39, 40, 41, 42, 43, 44] rfl
        refine xk_call (va_runV (As := []) (rest := []) ⟨hx, hb, hml, hown, hts⟩ (x_clearCounts l dC dI cI cB cE (Eo ((k + 1).toNat)) (ErL2 ((k + 1).toNat)) (EnL2 ((k + 1).toNat)) (EzL2 ((k + 1).toNat)) (EFL2 ((k + 1).toNat))  H.size (hRLL2.2.2.1 ((k + 1).toNat) hj39)) (cwV 0 hts (kx_gV kq_19_xouts_40 kq_19_xouts_41 kq_19_xouts_42 kq_16_xentry_2 kq_19_xouts_43 rfl) rfl rfl rfl (by decide +kernel) ⟨Nat.le_of_ble_eq_true rfl, Nat.le_of_ble_eq_true rfl⟩) ⟨kx_blind, va_recv hK hPc (ci := 0) (q0 := 0) rfl rfl, kx_give (ws := []) (tys := []) hPc hDc hK hG hZ hS hFc⟩ rfl rfl hl.1 rfl (lv_room (Nat.le_of_ble_eq_true rfl)) dX5_countByRows_15 ⟨show cv + 0 ≤ 100 from (by omega), show sv + 0 ≤ 42000 from (by omega)⟩) hS (fun q _ h => hFc q h) hFc (fun u dn_41 dm_42 t H locs ht hvm hq_40 hB hk1 hS => ?_)
        obtain ⟨z11_43, z12_44, z13_45⟩ := u
        obtain ⟨hP1, hK1, hD1⟩ := hB
        rw [ht] at hP1
        obtain ⟨hP, hD⟩ := xj_pool (wr := [(o 15, .inr (5, [.ref (o 16), .ref (Eo 0 0), .int (iz (zL2 12)), .int (iz (zL2 13)), .int (iz (zL2 14)), .ref (o 0), .ref (o 1), .int (iz (zL2 15)), .ref (o 13), .ref (o 14), .int (iz (zL2 16)), .ref (o 2), .ref (o 12), .ref (o 3), .ref (o 10), .ref (o 11)])), (o 16, .inl (cE, 80, .inr (.inr (.inr (.inr G))))), (o 0, .inr (1, [.int (iz 80), .ref (rL2 0), .int (iz (zL2 0))])), (rL2 0, .inl (cI, nL2 0, .inl (iA (FL2 0)))), (o 1, .inr (1, [.int (iz 80), .ref (rL2 1), .int (iz (zL2 1))])), (rL2 1, .inl (cI, nL2 1, .inl (iA (FL2 1)))), (o 2, .inr (1, [.int (iz 80), .ref (rL2 2), .int (iz (zL2 2))])), (rL2 2, .inl (cI, nL2 2, .inl (iA (FL2 2)))), (o 3, .inr (1, [.int (iz 80), .ref (rL2 3), .int (iz (zL2 3))])), (rL2 3, .inl (cI, nL2 3, .inl (iA (FL2 3)))), (o 13, .inr (3, [.ref (o 4), .ref (o 5), .ref (o 6)])), (o 4, .inr (1, [.int (iz 1600), .ref (rL2 4), .int (iz (zL2 4))])), (rL2 4, .inl (cI, nL2 4, .inl (iA (FL2 4)))), (o 5, .inr (1, [.int (iz 1600), .ref (rL2 5), .int (iz (zL2 5))])), (rL2 5, .inl (cI, nL2 5, .inl (iA (FL2 5)))), (o 6, .inr (1, [.int (iz 1600), .ref (rL2 6), .int (iz (zL2 6))])), (rL2 6, .inl (cI, nL2 6, .inl (iA (FL2 6)))), (o 14, .inr (3, [.ref (o 7), .ref (o 8), .ref (o 9)])), (o 7, .inr (1, [.int (iz 1600), .ref (rL2 7), .int (iz (zL2 7))])), (rL2 7, .inl (cI, nL2 7, .inl (iA (FL2 7)))), (o 8, .inr (1, [.int (iz 1600), .ref (rL2 8), .int (iz (zL2 8))])), (rL2 8, .inl (cI, nL2 8, .inl (iA (FL2 8)))), (o 9, .inr (1, [.int (iz 1600), .ref (rL2 9), .int (iz (zL2 9))])), (rL2 9, .inl (cI, nL2 9, .inl (iA (FL2 9)))), (o 12, .inr (4, [.int (iz (zL2 17)), .int (iz (zL2 18)), .int (iz (zL2 19)), .int (iz (zL2 20)), .int (iz (zL2 21))])), (o 10, .inr (2, [.ref (rL2 10), .int (iz (zL2 10)), .int (iz (zL2 22))])), (rL2 10, .inl (cB, nL2 10, .inl (iA (FL2 10)))), (o 11, .inr (2, [.ref (rL2 11), .int (iz (zL2 11)), .int (iz (zL2 23))])), (rL2 11, .inl (cB, nL2 11, .inl (iA (FL2 11))))]) (w1 := (eU cI (Eo ((k + 1).toNat)) (ErL2 ((k + 1).toNat)) (EnL2 ((k + 1).toNat)) (va_up (va_up (va_up (EzL2 ((k + 1).toNat)) 11 z11_43) 12 z12_44) 13 z13_45) (EFL2 ((k + 1).toNat)))) (ws' := ((xU cI cB cE o rL2 nL2 zL2 FL2 G (Eo 0 0)) ++ (eU cI (Eo ((k + 1).toNat)) (ErL2 ((k + 1).toNat)) (EnL2 ((k + 1).toNat)) (va_up (va_up (va_up (EzL2 ((k + 1).toNat)) 11 z11_43) 12 z12_44) 13 z13_45) (EFL2 ((k + 1).toNat))))) hP hD [29, 30, 31, 32, 33, 34, 35, 36, 37, 38, 39, 40, 41, 42, 43, 44] [0, 1, 2, 3, 4, 5, 6, 7, 8, 9, 10, 11, 12, 13, 14, 15, 16, 17, 18, 19, 20, 21, 22, 23, 24, 25, 26, 27, 28] [0, 1, 2, 3, 4, 5, 6, 7, 8, 9, 10, 11, 12, 13, 14, 15, 16, 17, 18, 19, 20, 21, 22, 23, 24, 25, 26, 27, 28, 29, 30, 31, 32, 33, 34, 35, 36, 37, 38, 39, 40, 41, 42, 43, 44] rfl rfl (by decide) (by decide) hk1 hFc hP1 hD1 rfl (by decide)
        refine W.eq (g2 := F0 m 18 ls []) rfl ?_
        try dsimp only at hq_40
        obtain ⟨hd46, hm46, hx46, hy46, hz46⟩ := hq_40
        subst hd46
        subst hm46
        refine lv_iinc (v := iz (k + 1)) (lv' := [(1, .int (iz (k + 1))), (0, .ref (o 15))]) hx hb dX5_countByRows_18 hl (k := 0) rfl (iz_add k 1) (by decide) rfl (fun ls hl => ?_)
        refine lv_goto (tgt := 2) hx hb dX5_countByRows_21 (by decide) ?_
        have hez_47 : -2147483648 ≤ EzL2 ((k + 1).toNat) 11 ∧ EzL2 ((k + 1).toNat) 11 < 2147483648 := (hRLL2.2.2.1 ((k + 1).toNat) hj39).2.2 11
        have hez_48 : -2147483648 ≤ EzL2 ((k + 1).toNat) 12 ∧ EzL2 ((k + 1).toNat) 12 < 2147483648 := (hRLL2.2.2.1 ((k + 1).toNat) hj39).2.2 12
        have hez_49 : -2147483648 ≤ EzL2 ((k + 1).toNat) 13 ∧ EzL2 ((k + 1).toNat) 13 < 2147483648 := (hRLL2.2.2.1 ((k + 1).toNat) hj39).2.2 13
        have hP : va_P (dC, dI) kxCl (((xU cI cB cE o rL2 nL2 zL2 FL2 G (Eo 0 0)) ++ (eU cI (Eo ((k + 1).toNat)) (ErL2 ((k + 1).toNat)) (EnL2 ((k + 1).toNat)) (va_up (va_up (va_up (EzL2 ((k + 1).toNat)) 11 z11_43) 12 z12_44) 13 z13_45) (EFL2 ((k + 1).toNat)))) ++ (eR cI N ((k + 1).toNat) Eo ErL2 EnL2 EzL2 EFL2)) H := hP
        have hD : va_D A (((xU cI cB cE o rL2 nL2 zL2 FL2 G (Eo 0 0)) ++ (eU cI (Eo ((k + 1).toNat)) (ErL2 ((k + 1).toNat)) (EnL2 ((k + 1).toNat)) (va_up (va_up (va_up (EzL2 ((k + 1).toNat)) 11 z11_43) 12 z12_44) 13 z13_45) (EFL2 ((k + 1).toNat)))) ++ (eR cI N ((k + 1).toNat) Eo ErL2 EnL2 EzL2 EFL2)) := hD
        have hP := eP_unf hj39 hP
        have hD := eD_unf hj39 hD
        have hPE50 := hRLL2.2.2.1.up ((k + 1).toNat) ((((hRLL2.2.2.1 ((k + 1).toNat) hj39).sc 11 (by decide) (show -2147483648 ≤ z11_43 by omega) (show z11_43 < 2147483648 by omega)).sc 12 (by decide) (show -2147483648 ≤ z12_44 by omega) (show z12_44 < 2147483648 by omega)).sc 13 (by decide) (show -2147483648 ≤ z13_45 by omega) (show z13_45 < 2147483648 by omega))
        have hef50 := hRLL2.2.2.2.up ((k + 1).toNat) (z := (va_up (va_up (va_up (EzL2 ((k + 1).toNat)) 11 z11_43) 12 z12_44) 13 z13_45)) (n := (EnL2 ((k + 1).toNat))) (F := (EFL2 ((k + 1).toNat))) (fun k hk => (vfr hk _ (by decide) (vfr hk _ (by decide) (vfr hk _ (by decide) rfl)))) (fun k hk => ⟨rfl, rfl⟩)
        generalize eEr50 : va_up ErL2 ((k + 1).toNat) (ErL2 ((k + 1).toNat)) = Er50 at hP hD
        generalize eEn50 : va_up EnL2 ((k + 1).toNat) (EnL2 ((k + 1).toNat)) = En50 at hP hD hPE50 hef50
        generalize eEz50 : va_up EzL2 ((k + 1).toNat) (va_up (va_up (va_up (EzL2 ((k + 1).toNat)) 11 z11_43) 12 z12_44) 13 z13_45) = Ez50 at hP hD hPE50 hef50
        generalize eEF50 : va_up EFL2 ((k + 1).toNat) (EFL2 ((k + 1).toNat)) = EF50 at hP hD hPE50 hef50
        have hcl50_11 : Ez50 ((k + 1).toNat) 11 = z11_43 := by rw [← eEz50]; simp (decide := true) only [va_ev, ↓reduceIte]
        have hcl50_12 : Ez50 ((k + 1).toNat) 12 = z12_44 := by rw [← eEz50]; simp (decide := true) only [va_ev, ↓reduceIte]
        have hcl50_13 : Ez50 ((k + 1).toNat) 13 = z13_45 := by rw [← eEz50]; simp (decide := true) only [va_ev, ↓reduceIte]
        exact ih2 (k + 1) rL2 nL2 zL2 FL2 Er50 En50 Ez50 EF50 (cv + 0) (sv + 0) ⟨⟨hRLL2.1, hRLL2.2.1, hPE50, hef50⟩, ⟨by omega, by omega⟩, (show zL2 12 = z 12 by omega), by omega, fun r a b => by by_cases c9 : r = k; (rw [c9, hcl50_11, hcl50_12, hcl50_13]; omega); (rw [← eEz50, va_up_ne _ _ (show (r + 1).toNat ≠ (k + 1).toNat by omega)]; exact hz9 r a (by omega))⟩ (by omega) _ _ hP hD hS ls (lv_sub hl [0, 1] rfl)
  exact lp2 _ 0 r n z F Er En Ez EF 0 0 ⟨⟨hok, hfr, hPE, hef⟩, ⟨by omega, by omega⟩, (show z 12 = z 12 by omega), by omega, fun r a b => absurd b (by omega)⟩ (Nat.lt_succ_self _) _ _ hP hD hS ls (lv_sub hl [0, 1] rfl)
set_option maxHeartbeats 4000000 in
set_option maxRecDepth 100000 in
theorem y_warnOf2 (l : Launch) (dC : Nat → ClassId) (dI : Nat → Nat → Nat) (cI cB cE : ClassId) (o r n : Nat → Nat) (z : Nat → Int) (F : Nat → Int → Int) (G : Nat → Option Nat) (N : Nat) (Eo Er En : Nat → Nat → Nat) (Ez : Nat → Nat → Int) (EF : Nat → Nat → Int → Int) (p0 : Int) (lv : Int → Int) (ab : Int → Int) (pg : Int → Int) (sn : Int → Int) (op : Int → Int) (se : Int → Int → Int) (sz : Nat) (hok : xOk n z F) (hxG : xG N (z 12) G Eo) (hPE : eA N En Ez EF) (hL : rs_lv lv ab (z 12)) (h8 : ∀ e, 0 ≤ e → e < z 12 → Ez ((e + 1).toNat) 8 = ab e) (wH : wr_H (z 12) Ez EF pg sn op se) (hs : ∀ e, 0 ≤ e → e < z 12 → 0 ≤ rs_sE Ez e ∧ rs_sE Ez e ≤ e) (h79 : z 12 ≤ 78) (hN : ∀ r, 0 ≤ r → r < z 12 → wr_N (z 12) Ez r) (hp0 : 0 ≤ p0 ∧ p0 < z 12) (h18 : 0 ≤ z 18 ∧ z 18 ≤ 9000) : Met l yX5_warnOf [.code yX5_warnOf cX5_warnOf 5 none] ({ frames := 3, cells := 100, slots := 42000, locals := 64 }) (va_Pc [.ref (o 15), .int (iz p0)] (kx_Pre dC dI (xU cI cB cE o r n z F G (Eo 0 0) ++ eP cI N Eo Er En Ez EF) (xT cI cB cE) sz)) (xQ (fun _ : (Nat → Nat) × (Nat → Nat) × (Nat → Int) × (Nat → Int → Int) × (Nat → Nat → Nat) × (Nat → Nat → Nat) × (Nat → Nat → Int) × (Nat → Nat → Int → Int) => none) (fun (u : (Nat → Nat) × (Nat → Nat) × (Nat → Int) × (Nat → Int → Int) × (Nat → Nat → Nat) × (Nat → Nat → Nat) × (Nat → Nat → Int) × (Nat → Nat → Int → Int)) (dn dm : Nat) => match u with | (r', n', z', F', Er', En', Ez', EF') => xR [17, 18, 19, 20, 21] [] [] [] N z F En Ez EF n' z' F' En' Ez' EF' ∧ (dn + xg n' ≤ xg n + 0 ∧ dm + xp n' ≤ xp n + 0) ∧ (z' 17 = z 17 ∧ (z 18 ≤ z' 18 ∧ z' 18 ≤ z 18 + 7) ∧ wr_X (z 17) (wr_e (z 12) lv ab (rs_sE Ez) pg sn op se p0) (z 18) (z 19) (z 20) (z 21) (z' 18) (z' 19) (z' 20) (z' 21) ∧ Er = Er' ∧ En = En' ∧ Ez = Ez' ∧ EF = EF')) (fun u t => kx_At dC dI (va_A (xU cI cB cE o r n z F G (Eo 0 0) ++ eP cI N Eo Er En Ez EF) sz) ((fun u : (Nat → Nat) × (Nat → Nat) × (Nat → Int) × (Nat → Int → Int) × (Nat → Nat → Nat) × (Nat → Nat → Nat) × (Nat → Nat → Int) × (Nat → Nat → Int → Int) => match u with | (r', n', z', F', Er', En', Ez', EF') => (xU cI cB cE o r' n' z' F' G (Eo 0 0) ++ eP cI N Eo Er' En' Ez' EF')) u) (xT cI cB cE) t) (va_A (xU cI cB cE o r n z F G (Eo 0 0) ++ eP cI N Eo Er En Ez EF) sz)) 100 42000 (va_A (xU cI cB cE o r n z F G (Eo 0 0) ++ eP cI N Eo Er En Ez EF) sz) := by
  refine Met.ofW (cc := cX5_warnOf) (maxL := 5) (ret := none) (by decide) rfl ?_
  intro p e s m args below meth c s₁ B hml hv
  obtain ⟨rfl, hsz, hP, hK, hD0, hG, hZ⟩ := hv
  have hx := B.exec
  have hb := B.bytes
  have hr := B.returns
  have hts := kx_hts (a := ([.ref (o 15), .int (iz p0)] : List Value).toArray) hG
  have hown : s.vm.findClass RX5 = some m.cls := findClass_of_methodNamed B.named
  have hlocks := B.notSynchronized
  subst hsz
  have hD := hD0.self (sz := s.heap.size)
  generalize hAe : va_A (xU cI cB cE o r n z F G (Eo 0 0) ++ eP cI N Eo Er En Ez EF) s.heap.size = A at hD hZ ⊢
  have hA : ∀ q : Nat, s.heap.size ≤ q → A q := fun q h => by rw [← hAe]; exact Or.inr h
  have hS : va_S A s.heap s.heap [] := va_S.rf
  have hl := lv_entry ([.ref (o 15), .int (iz p0)]) (n := 5) (Nat.le_of_ble_eq_true rfl)
  rw [lg_entry_eq]
  generalize (lg_sl ([.ref (o 15), .int (iz p0)]) ++ List.replicate (5 - (lg_sl ([.ref (o 15), .int (iz p0)])).length) Slot.unset).toArray = ls at hl ⊢
  obtain ⟨hN1, hN2, hN3, hN4⟩ := hxG
  have hef : eFr [] [] En Ez EF En Ez EF := eFr.rf
  have hfr : xFr [17, 18, 19, 20, 21] [] z F z F := xFr.rf
  have hxgl := xg_le n
  have hxpl := xp_le n
  have hl : lv_has ls 5 [(0, .ref (o 15)), (1, .int (iz p0))] := hl
  generalize hQe : MQ below (xQ (fun _ : (Nat → Nat) × (Nat → Nat) × (Nat → Int) × (Nat → Int → Int) × (Nat → Nat → Nat) × (Nat → Nat → Nat) × (Nat → Nat → Int) × (Nat → Nat → Int → Int) => none) (fun (u : (Nat → Nat) × (Nat → Nat) × (Nat → Int) × (Nat → Int → Int) × (Nat → Nat → Nat) × (Nat → Nat → Nat) × (Nat → Nat → Int) × (Nat → Nat → Int → Int)) (dn dm : Nat) => match u with | (r', n', z', F', Er', En', Ez', EF') => xR [17, 18, 19, 20, 21] [] [] [] N z F En Ez EF n' z' F' En' Ez' EF' ∧ (dn + xg n' ≤ xg n + 0 ∧ dm + xp n' ≤ xp n + 0) ∧ (z' 17 = z 17 ∧ (z 18 ≤ z' 18 ∧ z' 18 ≤ z 18 + 7) ∧ wr_X (z 17) (wr_e (z 12) lv ab (rs_sE Ez) pg sn op se p0) (z 18) (z 19) (z 20) (z 21) (z' 18) (z' 19) (z' 20) (z' 21) ∧ Er = Er' ∧ En = En' ∧ Ez = Ez' ∧ EF = EF')) (fun u t => kx_At dC dI A ((fun u : (Nat → Nat) × (Nat → Nat) × (Nat → Int) × (Nat → Int → Int) × (Nat → Nat → Nat) × (Nat → Nat → Nat) × (Nat → Nat → Int) × (Nat → Nat → Int → Int) => match u with | (r', n', z', F', Er', En', Ez', EF') => (xU cI cB cE o r' n' z' F' G (Eo 0 0) ++ eP cI N Eo Er' En' Ez' EF')) u) (xT cI cB cE) t) A) ([.ref (o 15), .int (iz p0)] : List Value).toArray s 100 42000 A = QQ
  have hX0 := wr_X_nil (z 17) (z 18) (z 19) (z 20) (z 21)
  obtain ⟨hwh1, hwh2, hwh3⟩ := wH p0 hp0.1 hp0.2
  replace hwh2 := fun (_ : Unit) => hwh2
  refine lv_aload_n hx hb dX5_warnOf_0 rfl (lv_at hl 0 rfl) ?_
  refine lv_iload_n hx hb dX5_warnOf_1 rfl (lv_at hl 1 rfl) ?_
  have hxz_1 : -2147483648 ≤ z 12 ∧ z 12 < 2147483648 := hok.2.2.2.1 12
  have hxG9 : xG N (z 12) G Eo := ⟨by omega, by omega, by omega, fun e9 h9 => hN4 e9 (by omega)⟩
  have hP : va_P (dC, dI) kxCl (xU cI cB cE o r n z F G (Eo 0 0) ++ eP cI N Eo Er En Ez EF) s.heap := hP
  refine xk_pure (va_runV (As := [.int (iz p0)]) (rest := []) ⟨hx, hb, hml, hown, hts⟩ (y_known l dC dI cI cB cE o r n z F G N Eo Er En Ez EF p0 s.heap.size hok hxG9 hPE (by omega) (by omega)) (cwV 1 hts (kx_gV kq_18_xrows_8 kq_18_xrows_9 kq_18_xrows_10 kq_18_xrows_4 kq_18_xrows_11 rfl) rfl rfl rfl (by decide +kernel) ⟨Nat.le_of_ble_eq_true rfl, Nat.le_of_ble_eq_true rfl⟩) ⟨pPre_blind, va_recv hK hP (ci := 5) (q0 := 0) rfl rfl, pPre_give hP hK hG⟩ rfl rfl hl.1 rfl (lv_room (Nat.le_of_ble_eq_true rfl)) dX5_warnOf_2 ⟨show 0 + 0 ≤ 100 from (by omega), show 0 + 0 ≤ 42000 from (by omega)⟩) hS (fun z_3 locs hq_2 hS => ?_)
  refine W.eq (g2 := F0 m 5 ls [.ref z_3.toNat]) rfl ?_
  try dsimp only at hq_2
  obtain ⟨j4, hj4, ez4, hje4⟩ := hq_2
  subst ez4
  refine W.eq (g2 := F0 m 5 ls [.ref (Eo j4 0)]) rfl ?_
  have ej4 : j4 = (p0 + 1).toNat := by omega
  subst ej4
  refine lv_astore_n (lv' := [(2, .ref (Eo ((p0 + 1).toNat) 0)), (0, .ref (o 15)), (1, .int (iz p0))]) hx hb dX5_warnOf_5 rfl hl (by decide) rfl (fun ls hl => ?_)
  refine lv_aload_n hx hb dX5_warnOf_6 rfl (lv_at hl 0 rfl) ?_
  have hP := eP_foc hj4 hP
  have hD := eD_foc hj4 hD
  have hez_5 : -2147483648 ≤ Ez ((p0 + 1).toNat) 9 ∧ Ez ((p0 + 1).toNat) 9 < 2147483648 := (hPE ((p0 + 1).toNat) hj4).2.2 9
  refine va_getN (D := (dC, dI)) (ci := 0) (v := .int (iz (Ez ((p0 + 1).toNat) 9))) (C := RX0) (T := TX0) (N := 12) hx hb hts kt_X0 hown hK hP 29 rfl rfl 7 (by decide) (va_Nw.use rfl (kx_nf hG kq_19_xouts_44)) (fun _ h9 => h9) rfl dX5_warnOf_7 ?_
  refine ki_if_lt (tgt := 36) hx hb dX5_warnOf_10 (by decide) (by omega) (by omega) (fun c_6 => ?_) (fun c_6 => ?_)
  · skip
    have hs36 : 0 ≤ Ez ((p0 + 1).toNat) 3 ∧ Ez ((p0 + 1).toNat) 3 ≤ ((En ((p0 + 1).toNat) 3 : Nat) : Int) ∧ ((En ((p0 + 1).toNat) 3 : Nat) : Int) ≤ 5 := (hPE ((p0 + 1).toNat) hj4).1 3 (by decide)
    have hop0 : op p0 = 0 := by have h9 := hwh2 (); omega
    refine lv_iconst (v := iz 0) hx hb dX5_warnOf_36 (by decide) ?_
    refine lv_istore_n (lv' := [(3, .int (iz 0)), (2, .ref (Eo ((p0 + 1).toNat) 0)), (0, .ref (o 15)), (1, .int (iz p0))]) hx hb dX5_warnOf_37 rfl hl (by decide) rfl (fun ls hl => ?_)
    have hP := eP_un0 hj4 hP
    have hD := eD_un0 hj4 hD
    have lp38 : ∀ (n0 : Nat) (k : Int) (rL38 : Nat → Nat) (nL38 : Nat → Nat) (zL38 : Nat → Int) (FL38 : Nat → Int → Int) (cv : Nat) (sv : Nat), ((xR [17, 18, 19, 20, 21] [] [] [] N z F En Ez EF nL38 zL38 FL38 En Ez EF) ∧ (cv + xg nL38 ≤ xg n + (0) ∧ sv + xp nL38 ≤ xp n + (0)) ∧ (zL38 12 = z 12) ∧ (0 ≤ k ∧ k ≤ sn p0) ∧ (zL38 17 = z 17) ∧ (z 18 ≤ zL38 18 ∧ zL38 18 ≤ z 18 + 1 + k) ∧ (wr_X (z 17) (wr_o op p0 ++ wr_s (z 12) (rs_sE Ez) pg se p0 (k).toNat 0) (z 18) (z 19) (z 20) (z 21) (zL38 18) (zL38 19) (zL38 20) (zL38 21))) → (Ez ((p0 + 1).toNat) 3 - k).toNat < n0 → ∀ (H : Heap) (locs : List Loc), va_P (dC, dI) kxCl ((xU cI cB cE o rL38 nL38 zL38 FL38 G (Eo 0 0)) ++ (eP cI N Eo Er En Ez EF)) H → va_D A ((xU cI cB cE o rL38 nL38 zL38 FL38 G (Eo 0 0)) ++ (eP cI N Eo Er En Ez EF)) → va_S A s.heap H locs → ∀ ls : Array Slot, lv_has ls 5 [(3, .int (iz k)), (2, .ref (Eo ((p0 + 1).toNat) 0)), (0, .ref (o 15)), (1, .int (iz p0))] → W p l e (headSpec [.code yX5_warnOf cX5_warnOf 5 none] ({ frames := 3, cells := 100, slots := 42000, locals := 64 })).room s m ([.ref (o 15), .int (iz p0)] : List Value).toArray below meth c H locs cv sv QQ (F0 m 38 ls []) := by
      intro n0
      induction n0 with
      | zero => intro k rL38 nL38 zL38 FL38 cv sv hinv hm0; exact absurd hm0 (Nat.not_lt_zero _)
      | succ n0 ih38 =>
        intro k rL38 nL38 zL38 FL38 cv sv hinv hm0 H locs hP hD hS ls hl
        obtain ⟨hRLL38, hCLL38, hZLL38, hk, h17, h18L, hX⟩ := hinv
        have hs39 : 0 ≤ Ez ((p0 + 1).toNat) 3 ∧ Ez ((p0 + 1).toNat) 3 ≤ (En ((p0 + 1).toNat) 3 : Int) ∧ (En ((p0 + 1).toNat) 3 : Int) ≤ 5 := (hPE ((p0 + 1).toNat) hj4).1 3 (by decide)
        refine lv_iload_n hx hb dX5_warnOf_38 rfl (lv_at hl 0 rfl) ?_
        refine lv_aload_n hx hb dX5_warnOf_39 rfl (lv_at hl 1 rfl) ?_
        have hP := eP_foc hj4 hP
        have hD := eD_foc hj4 hD
        refine va_getN (D := (dC, dI)) (ci := 0) (v := .ref (Eo ((p0 + 1).toNat) 4)) (C := RX0) (T := TX0) (N := 12) hx hb hts kt_X0 hown hK hP 29 rfl rfl 6 (by decide) (va_Nw.use rfl (kx_nf hG kq_19_xouts_32)) (fun _ h9 => h9) rfl dX5_warnOf_40 ?_
        have he_7 : 0 ≤ Ez ((p0 + 1).toNat) 3 ∧ Ez ((p0 + 1).toNat) 3 ≤ ((En ((p0 + 1).toNat) 3 : Nat) : Int) ∧ ((En ((p0 + 1).toNat) 3 : Nat) : Int) ≤ 5 := (hRLL38.2.2.1 ((p0 + 1).toNat) hj4).1 3 (by decide)
        have hPc := hP.sub (ws' := (iU cI 5 (Eo ((p0 + 1).toNat) 4) (Er ((p0 + 1).toNat) 3) (En ((p0 + 1).toNat) 3) (Ez ((p0 + 1).toNat) 3) (EF ((p0 + 1).toNat) 3))) [36, 37] rfl
        refine xk_pure (va_runV (As := []) (rest := [.int (iz k)]) ⟨hx, hb, hml, hown, hts⟩ (x_size l dC dI cI cB cE 5 (Eo ((p0 + 1).toNat) 4) (Er ((p0 + 1).toNat) 3) (En ((p0 + 1).toNat) 3) (Ez ((p0 + 1).toNat) 3) (EF ((p0 + 1).toNat) 3)  H.size ) (cwV 0 hts (kx_gV kq_18_xrows_40 kq_15_xspan_10 kq_15_xspan_11 kq_13_xints_6 kq_15_xspan_12 rfl) rfl rfl rfl (by decide +kernel) ⟨Nat.le_of_ble_eq_true rfl, Nat.le_of_ble_eq_true rfl⟩) ⟨pPre_blind, va_recv hK hPc (ci := 1) (q0 := 0) rfl rfl, pPre_give hPc hK hG⟩ rfl rfl hl.1 rfl (lv_room (Nat.le_of_ble_eq_true rfl)) dX5_warnOf_43 ⟨show cv + 0 ≤ 100 from (by omega), show sv + 0 ≤ 42000 from (by omega)⟩) hS (fun z_9 locs hq_8 hS => ?_)
        refine W.eq (g2 := F0 m 46 ls [.int (iz z_9), .int (iz k)]) rfl ?_
        try dsimp only at hq_8
        have hq_8 := hq_8.symm
        subst hq_8
        refine ki_icmp_ge (tgt := 92) hx hb dX5_warnOf_46 (by decide) (by omega) (by omega) (by omega) (by omega) (fun c_10 => ?_) (fun c_10 => ?_)
        · skip
          refine lv_aload_n hx hb dX5_warnOf_92 rfl (lv_at hl 1 rfl) ?_
          have hez_11 : -2147483648 ≤ Ez ((p0 + 1).toNat) 10 ∧ Ez ((p0 + 1).toNat) 10 < 2147483648 := (hRLL38.2.2.1 ((p0 + 1).toNat) hj4).2.2 10
          refine va_getN (D := (dC, dI)) (ci := 0) (v := .int (iz (Ez ((p0 + 1).toNat) 10))) (C := RX0) (T := TX0) (N := 12) hx hb hts kt_X0 hown hK hP 29 rfl rfl 8 (by decide) (va_Nw.use rfl (kx_nf hG kq_18_xrows_13)) (fun _ h9 => h9) rfl dX5_warnOf_93 ?_
          refine lv_iload_n hx hb dX5_warnOf_96 rfl (lv_at hl 3 rfl) ?_
          refine ki_icmp_ne (tgt := 117) hx hb dX5_warnOf_97 (by decide) (by omega) (by omega) (by omega) (by omega) (fun c_12 => ?_) (fun c_12 => ?_)
          · skip
            have hP := eP_un0 hj4 hP
            have hD := eD_un0 hj4 hD
            rw [← hQe]
            have hzo17 : zL38 17 = zL38 17 := rfl
            have hzo18 : zL38 18 = zL38 18 := rfl
            have hzo19 : zL38 19 = zL38 19 := rfl
            have hzo20 : zL38 20 = zL38 20 := rfl
            have hzo21 : zL38 21 = zL38 21 := rfl
            exact xk_vret (ov := (fun _ : (Nat → Nat) × (Nat → Nat) × (Nat → Int) × (Nat → Int → Int) × (Nat → Nat → Nat) × (Nat → Nat → Nat) × (Nat → Nat → Int) × (Nat → Nat → Int → Int) => none)) (post := (fun (u : (Nat → Nat) × (Nat → Nat) × (Nat → Int) × (Nat → Int → Int) × (Nat → Nat → Nat) × (Nat → Nat → Nat) × (Nat → Nat → Int) × (Nat → Nat → Int → Int)) (dn dm : Nat) => match u with | (r', n', z', F', Er', En', Ez', EF') => xR [17, 18, 19, 20, 21] [] [] [] N z F En Ez EF n' z' F' En' Ez' EF' ∧ (dn + xg n' ≤ xg n + 0 ∧ dm + xp n' ≤ xp n + 0) ∧ (z' 17 = z 17 ∧ (z 18 ≤ z' 18 ∧ z' 18 ≤ z 18 + 7) ∧ wr_X (z 17) (wr_e (z 12) lv ab (rs_sE Ez) pg sn op se p0) (z 18) (z 19) (z 20) (z 21) (z' 18) (z' 19) (z' 20) (z' 21) ∧ Er = Er' ∧ En = En' ∧ Ez = Ez' ∧ EF = EF'))) (ws := (fun u : (Nat → Nat) × (Nat → Nat) × (Nat → Int) × (Nat → Int → Int) × (Nat → Nat → Nat) × (Nat → Nat → Nat) × (Nat → Nat → Int) × (Nat → Nat → Int → Int) => match u with | (r', n', z', F', Er', En', Ez', EF') => (xU cI cB cE o r' n' z' F' G (Eo 0 0) ++ eP cI N Eo Er' En' Ez' EF'))) (tys := xT cI cB cE) (rL38, nL38, zL38, FL38, Er, En, Ez, EF) hx hb hr hlocks rfl hP hD hK hS dX5_warnOf_117 (fun dn dm hdn hdm => ⟨⟨hRLL38.1, hRLL38.2.1, hRLL38.2.2.1, hRLL38.2.2.2⟩, ⟨by omega, by omega⟩, ⟨by omega, by omega, (by first | exact wr_X_eq hX (wr_e_n (show sn p0 = k by omega) (fun h9 => absurd (show Ez ((p0 + 1).toNat) 10 = p0 from h9.1) (by omega))) | (rw [hzo18, hzo19, hzo20, hzo21]; exact wr_X_eq hX (wr_e_n (show sn p0 = k by omega) (fun h9 => absurd (show Ez ((p0 + 1).toNat) 10 = p0 from h9.1) (by omega))))), rfl, rfl, rfl, rfl⟩⟩) (by omega) (by omega)
          · skip
            refine lv_aload_n hx hb dX5_warnOf_100 rfl (lv_at hl 1 rfl) ?_
            have hPc := hP.sub (ws' := (eU cI (Eo ((p0 + 1).toNat)) (Er ((p0 + 1).toNat)) (En ((p0 + 1).toNat)) (Ez ((p0 + 1).toNat)) (EF ((p0 + 1).toNat)))) [29, 30, 31, 32, 33, 34, 35, 36, 37, 38, 39, 40, 41, 42, 43, 44] rfl
            refine xk_pure (va_runV (As := []) (rest := []) ⟨hx, hb, hml, hown, hts⟩ (x_isEmptyRow2 l dC dI cI cB cE (Eo ((p0 + 1).toNat)) (Er ((p0 + 1).toNat)) (En ((p0 + 1).toNat)) (Ez ((p0 + 1).toNat)) (EF ((p0 + 1).toNat))  H.size (hRLL38.2.2.1 ((p0 + 1).toNat) hj4)) (cwV 0 hts (kx_gV kq_19_xouts_45 kq_19_xouts_46 kq_19_xouts_47 kq_16_xentry_2 kq_19_xouts_48 rfl) rfl rfl rfl (by decide +kernel) ⟨Nat.le_of_ble_eq_true rfl, Nat.le_of_ble_eq_true rfl⟩) ⟨pPre_blind, va_recv hK hPc (ci := 0) (q0 := 0) rfl rfl, pPre_give hPc hK hG⟩ rfl rfl hl.1 rfl (lv_room (Nat.le_of_ble_eq_true rfl)) dX5_warnOf_101 ⟨show cv + 0 ≤ 100 from (by omega), show sv + 0 ≤ 42000 from (by omega)⟩) hS (fun z_14 locs hq_13 hS => ?_)
            refine W.eq (g2 := F0 m 104 ls [.int (iz z_14)]) rfl ?_
            try dsimp only at hq_13
            have hbr9 := wr_br_N wH hL h8 (hN p0 hp0.1 hp0.2) (show Ez ((p0 + 1).toNat) 10 = p0 by omega)
            rcases hq_13 with ⟨rfl, hq_13⟩ | ⟨rfl, hq_13⟩
            · skip
              refine ki_if_eq (tgt := 117) hx hb dX5_warnOf_104 (by decide) (by omega) (by omega) (fun c_15 => ?_) (fun c_15 => ?_)
              · omega
              · skip
                refine lv_aload_n hx hb dX5_warnOf_107 rfl (lv_at hl 2 rfl) ?_
                refine va_get (D := (dC, dI)) (ci := 5) (v := .ref (o 12)) (C := RX5) (T := TX5) (N := 16) hx hb hts kt_X5 hown hK hP 0 rfl rfl 12 (by decide) (kx_word hG kq_19_xouts_49 rfl) (fun _ h9 => h9) rfl dX5_warnOf_108 ?_
                refine lv_iconst (v := iz 3) hx hb dX5_warnOf_111 (by decide) ?_
                refine lv_iload_n hx hb dX5_warnOf_112 rfl (lv_at hl 3 rfl) ?_
                refine lv_iconst (v := iz 0) hx hb dX5_warnOf_113 (by decide) ?_
                have hxz_16 : -2147483648 ≤ zL38 17 ∧ zL38 17 < 2147483648 := hRLL38.1.2.2.2.1 17
                have hxz_17 : -2147483648 ≤ zL38 18 ∧ zL38 18 < 2147483648 := hRLL38.1.2.2.2.1 18
                have hxz_18 : -2147483648 ≤ zL38 19 ∧ zL38 19 < 2147483648 := hRLL38.1.2.2.2.1 19
                have hxz_19 : -2147483648 ≤ zL38 20 ∧ zL38 20 < 2147483648 := hRLL38.1.2.2.2.1 20
                have hxz_20 : -2147483648 ≤ zL38 21 ∧ zL38 21 < 2147483648 := hRLL38.1.2.2.2.1 21
                have hPc := hP.sub (ws' := (wU (o 12) (zL38 17) (zL38 18) (zL38 19) (zL38 20) (zL38 21))) [24] rfl
                have hDc := hD.sub (ws' := (wU (o 12) (zL38 17) (zL38 18) (zL38 19) (zL38 20) (zL38 21))) [24] (by decide) rfl
                have hFc := va_free (wc := (wU (o 12) (zL38 17) (zL38 18) (zL38 19) (zL38 20) (zL38 21))) hD hS hA [24] rfl
                refine xk_call (va_runV (As := [.int (iz 3), .int (iz p0), .int (iz 0)]) (rest := []) ⟨hx, hb, hml, hown, hts⟩ (x_tell2 l dC dI cI cB cE (o 12) (zL38 17) (zL38 18) (zL38 19) (zL38 20) (zL38 21) 3 p0 0 H.size (by omega) (by omega) (by omega) (by omega) (by omega) (by omega) (by omega) (by omega) (by omega) (by omega) (by omega) (by omega)) (cwV 3 hts (kx_gV kq_19_xouts_50 kq_19_xouts_51 kq_19_xouts_52 kq_19_xouts_53 kq_19_xouts_54 rfl) rfl rfl rfl (by decide +kernel) ⟨Nat.le_of_ble_eq_true rfl, Nat.le_of_ble_eq_true rfl⟩) ⟨kx_blind, va_recv hK hPc (ci := 4) (q0 := 0) rfl rfl, kx_give (ws := []) (tys := []) hPc hDc hK hG hZ hS hFc⟩ rfl rfl hl.1 rfl (lv_room (Nat.le_of_ble_eq_true rfl)) dX5_warnOf_114 ⟨show cv + 0 ≤ 100 from (by omega), show sv + 0 ≤ 42000 from (by omega)⟩) hS (fun q _ h => hFc q h) hFc (fun u dn_22 dm_23 t H locs ht hvm hq_21 hB hk1 hS => ?_)
                obtain ⟨z2_24, z3_25, z4_26, z5_27⟩ := u
                obtain ⟨hP1, hK1, hD1⟩ := hB
                rw [ht] at hP1
                obtain ⟨hP, hD⟩ := xj_pool (wr := [(o 15, .inr (5, [.ref (o 16), .ref (Eo 0 0), .int (iz (zL38 12)), .int (iz (zL38 13)), .int (iz (zL38 14)), .ref (o 0), .ref (o 1), .int (iz (zL38 15)), .ref (o 13), .ref (o 14), .int (iz (zL38 16)), .ref (o 2), .ref (o 12), .ref (o 3), .ref (o 10), .ref (o 11)])), (o 16, .inl (cE, 80, .inr (.inr (.inr (.inr G))))), (o 0, .inr (1, [.int (iz 80), .ref (rL38 0), .int (iz (zL38 0))])), (rL38 0, .inl (cI, nL38 0, .inl (iA (FL38 0)))), (o 1, .inr (1, [.int (iz 80), .ref (rL38 1), .int (iz (zL38 1))])), (rL38 1, .inl (cI, nL38 1, .inl (iA (FL38 1)))), (o 2, .inr (1, [.int (iz 80), .ref (rL38 2), .int (iz (zL38 2))])), (rL38 2, .inl (cI, nL38 2, .inl (iA (FL38 2)))), (o 3, .inr (1, [.int (iz 80), .ref (rL38 3), .int (iz (zL38 3))])), (rL38 3, .inl (cI, nL38 3, .inl (iA (FL38 3)))), (o 13, .inr (3, [.ref (o 4), .ref (o 5), .ref (o 6)])), (o 4, .inr (1, [.int (iz 1600), .ref (rL38 4), .int (iz (zL38 4))])), (rL38 4, .inl (cI, nL38 4, .inl (iA (FL38 4)))), (o 5, .inr (1, [.int (iz 1600), .ref (rL38 5), .int (iz (zL38 5))])), (rL38 5, .inl (cI, nL38 5, .inl (iA (FL38 5)))), (o 6, .inr (1, [.int (iz 1600), .ref (rL38 6), .int (iz (zL38 6))])), (rL38 6, .inl (cI, nL38 6, .inl (iA (FL38 6)))), (o 14, .inr (3, [.ref (o 7), .ref (o 8), .ref (o 9)])), (o 7, .inr (1, [.int (iz 1600), .ref (rL38 7), .int (iz (zL38 7))])), (rL38 7, .inl (cI, nL38 7, .inl (iA (FL38 7)))), (o 8, .inr (1, [.int (iz 1600), .ref (rL38 8), .int (iz (zL38 8))])), (rL38 8, .inl (cI, nL38 8, .inl (iA (FL38 8)))), (o 9, .inr (1, [.int (iz 1600), .ref (rL38 9), .int (iz (zL38 9))])), (rL38 9, .inl (cI, nL38 9, .inl (iA (FL38 9)))), (o 10, .inr (2, [.ref (rL38 10), .int (iz (zL38 10)), .int (iz (zL38 22))])), (rL38 10, .inl (cB, nL38 10, .inl (iA (FL38 10)))), (o 11, .inr (2, [.ref (rL38 11), .int (iz (zL38 11)), .int (iz (zL38 23))])), (rL38 11, .inl (cB, nL38 11, .inl (iA (FL38 11)))), (Eo ((p0 + 1).toNat) 0, .inr (0, [.int (iz (Ez ((p0 + 1).toNat) 7)), .int (iz (Ez ((p0 + 1).toNat) 8)), .ref (Eo ((p0 + 1).toNat) 1), .ref (Eo ((p0 + 1).toNat) 2), .ref (Eo ((p0 + 1).toNat) 3), .ref (Eo ((p0 + 1).toNat) 5), .ref (Eo ((p0 + 1).toNat) 4), .int (iz (Ez ((p0 + 1).toNat) 9)), .int (iz (Ez ((p0 + 1).toNat) 10)), .int (iz (Ez ((p0 + 1).toNat) 11)), .int (iz (Ez ((p0 + 1).toNat) 12)), .int (iz (Ez ((p0 + 1).toNat) 13))])), (Eo ((p0 + 1).toNat) 1, .inr (1, [.int (iz 20), .ref (Er ((p0 + 1).toNat) 0), .int (iz (Ez ((p0 + 1).toNat) 0))])), (Er ((p0 + 1).toNat) 0, .inl (cI, En ((p0 + 1).toNat) 0, .inl (iA (EF ((p0 + 1).toNat) 0)))), (Eo ((p0 + 1).toNat) 2, .inr (1, [.int (iz 20), .ref (Er ((p0 + 1).toNat) 1), .int (iz (Ez ((p0 + 1).toNat) 1))])), (Er ((p0 + 1).toNat) 1, .inl (cI, En ((p0 + 1).toNat) 1, .inl (iA (EF ((p0 + 1).toNat) 1)))), (Eo ((p0 + 1).toNat) 3, .inr (1, [.int (iz 40), .ref (Er ((p0 + 1).toNat) 2), .int (iz (Ez ((p0 + 1).toNat) 2))])), (Er ((p0 + 1).toNat) 2, .inl (cI, En ((p0 + 1).toNat) 2, .inl (iA (EF ((p0 + 1).toNat) 2)))), (Eo ((p0 + 1).toNat) 4, .inr (1, [.int (iz 5), .ref (Er ((p0 + 1).toNat) 3), .int (iz (Ez ((p0 + 1).toNat) 3))])), (Er ((p0 + 1).toNat) 3, .inl (cI, En ((p0 + 1).toNat) 3, .inl (iA (EF ((p0 + 1).toNat) 3)))), (Eo ((p0 + 1).toNat) 5, .inr (3, [.ref (Eo ((p0 + 1).toNat) 6), .ref (Eo ((p0 + 1).toNat) 7), .ref (Eo ((p0 + 1).toNat) 8)])), (Eo ((p0 + 1).toNat) 6, .inr (1, [.int (iz 20), .ref (Er ((p0 + 1).toNat) 4), .int (iz (Ez ((p0 + 1).toNat) 4))])), (Er ((p0 + 1).toNat) 4, .inl (cI, En ((p0 + 1).toNat) 4, .inl (iA (EF ((p0 + 1).toNat) 4)))), (Eo ((p0 + 1).toNat) 7, .inr (1, [.int (iz 20), .ref (Er ((p0 + 1).toNat) 5), .int (iz (Ez ((p0 + 1).toNat) 5))])), (Er ((p0 + 1).toNat) 5, .inl (cI, En ((p0 + 1).toNat) 5, .inl (iA (EF ((p0 + 1).toNat) 5)))), (Eo ((p0 + 1).toNat) 8, .inr (1, [.int (iz 20), .ref (Er ((p0 + 1).toNat) 6), .int (iz (Ez ((p0 + 1).toNat) 6))])), (Er ((p0 + 1).toNat) 6, .inl (cI, En ((p0 + 1).toNat) 6, .inl (iA (EF ((p0 + 1).toNat) 6))))]) (w1 := (wU (o 12) (zL38 17) z2_24 z3_25 z4_26 z5_27)) (ws' := ((xU cI cB cE o rL38 nL38 (va_up (va_up (va_up (va_up zL38 18 z2_24) 19 z3_25) 20 z4_26) 21 z5_27) FL38 G (Eo 0 0)) ++ (eU cI (Eo ((p0 + 1).toNat)) (Er ((p0 + 1).toNat)) (En ((p0 + 1).toNat)) (Ez ((p0 + 1).toNat)) (EF ((p0 + 1).toNat))))) hP hD [24] [0, 1, 2, 3, 4, 5, 6, 7, 8, 9, 10, 11, 12, 13, 14, 15, 16, 17, 18, 19, 20, 21, 22, 23, 25, 26, 27, 28, 29, 30, 31, 32, 33, 34, 35, 36, 37, 38, 39, 40, 41, 42, 43, 44] [0, 1, 2, 3, 4, 5, 6, 7, 8, 9, 10, 11, 12, 13, 14, 15, 16, 17, 18, 19, 20, 21, 22, 23, 44, 24, 25, 26, 27, 28, 29, 30, 31, 32, 33, 34, 35, 36, 37, 38, 39, 40, 41, 42, 43] rfl rfl (by decide) (by decide) hk1 hFc hP1 hD1 rfl (by decide)
                refine W.eq (g2 := F0 m 117 ls []) rfl ?_
                try dsimp only at hq_21
                obtain ⟨hd28, hm28, hw28, hv28⟩ := hq_21
                subst hd28
                subst hm28
                rw [h17] at hv28
                have hbv28 : (-2147483648 ≤ z2_24 ∧ z2_24 < 2147483648) ∧ (-2147483648 ≤ z3_25 ∧ z3_25 < 2147483648) ∧ (-2147483648 ≤ z4_26 ∧ z4_26 < 2147483648) ∧ (-2147483648 ≤ z5_27 ∧ z5_27 < 2147483648) := by omega
                have hX28 := wr_X_tell hX hw28 hv28
                replace hv28 := fun (_ : Unit) => hv28
                have hP := eP_un0 hj4 hP
                have hD := eD_un0 hj4 hD
                have hok29 : xOk nL38 (va_up (va_up (va_up (va_up zL38 18 z2_24) 19 z3_25) 20 z4_26) 21 z5_27) FL38 := ((((hRLL38.1.s 18 (by decide) (show -2147483648 ≤ z2_24 ∧ z2_24 < 2147483648 by omega) (by omega)).s 19 (by decide) (show -2147483648 ≤ z3_25 ∧ z3_25 < 2147483648 by omega) (by omega)).s 20 (by decide) (show -2147483648 ≤ z4_26 ∧ z4_26 < 2147483648 by omega) (by omega)).s 21 (by decide) (show -2147483648 ≤ z5_27 ∧ z5_27 < 2147483648 by omega) (by omega))
                have hfr29 : xFr [17, 18, 19, 20, 21] [] z F (va_up (va_up (va_up (va_up zL38 18 z2_24) 19 z3_25) 20 z4_26) 21 z5_27) FL38 := ((((hRLL38.2.1.uz 18 (by decide) _).uz 19 (by decide) _).uz 20 (by decide) _).uz 21 (by decide) _)
                rw [← hQe]
                have hzo17 : (va_up (va_up (va_up (va_up zL38 18 z2_24) 19 z3_25) 20 z4_26) 21 z5_27) 17 = zL38 17 := rfl
                have hzo18 : (va_up (va_up (va_up (va_up zL38 18 z2_24) 19 z3_25) 20 z4_26) 21 z5_27) 18 = z2_24 := rfl
                have hzo19 : (va_up (va_up (va_up (va_up zL38 18 z2_24) 19 z3_25) 20 z4_26) 21 z5_27) 19 = z3_25 := rfl
                have hzo20 : (va_up (va_up (va_up (va_up zL38 18 z2_24) 19 z3_25) 20 z4_26) 21 z5_27) 20 = z4_26 := rfl
                have hzo21 : (va_up (va_up (va_up (va_up zL38 18 z2_24) 19 z3_25) 20 z4_26) 21 z5_27) 21 = z5_27 := rfl
                exact xk_vret (ov := (fun _ : (Nat → Nat) × (Nat → Nat) × (Nat → Int) × (Nat → Int → Int) × (Nat → Nat → Nat) × (Nat → Nat → Nat) × (Nat → Nat → Int) × (Nat → Nat → Int → Int) => none)) (post := (fun (u : (Nat → Nat) × (Nat → Nat) × (Nat → Int) × (Nat → Int → Int) × (Nat → Nat → Nat) × (Nat → Nat → Nat) × (Nat → Nat → Int) × (Nat → Nat → Int → Int)) (dn dm : Nat) => match u with | (r', n', z', F', Er', En', Ez', EF') => xR [17, 18, 19, 20, 21] [] [] [] N z F En Ez EF n' z' F' En' Ez' EF' ∧ (dn + xg n' ≤ xg n + 0 ∧ dm + xp n' ≤ xp n + 0) ∧ (z' 17 = z 17 ∧ (z 18 ≤ z' 18 ∧ z' 18 ≤ z 18 + 7) ∧ wr_X (z 17) (wr_e (z 12) lv ab (rs_sE Ez) pg sn op se p0) (z 18) (z 19) (z 20) (z 21) (z' 18) (z' 19) (z' 20) (z' 21) ∧ Er = Er' ∧ En = En' ∧ Ez = Ez' ∧ EF = EF'))) (ws := (fun u : (Nat → Nat) × (Nat → Nat) × (Nat → Int) × (Nat → Int → Int) × (Nat → Nat → Nat) × (Nat → Nat → Nat) × (Nat → Nat → Int) × (Nat → Nat → Int → Int) => match u with | (r', n', z', F', Er', En', Ez', EF') => (xU cI cB cE o r' n' z' F' G (Eo 0 0) ++ eP cI N Eo Er' En' Ez' EF'))) (tys := xT cI cB cE) (rL38, nL38, (va_up (va_up (va_up (va_up zL38 18 z2_24) 19 z3_25) 20 z4_26) 21 z5_27), FL38, Er, En, Ez, EF) hx hb hr hlocks rfl hP hD hK hS dX5_warnOf_117 (fun dn dm hdn hdm => ⟨⟨hok29, hfr29, hRLL38.2.2.1, hRLL38.2.2.2⟩, ⟨by omega, by omega⟩, ⟨by omega, by omega, (by first | exact wr_X_eq hX28 (wr_e_p (show sn p0 = k by omega) (hbr9.mp hq_13)) | (rw [hzo18, hzo19, hzo20, hzo21]; exact wr_X_eq hX28 (wr_e_p (show sn p0 = k by omega) (hbr9.mp hq_13)))), rfl, rfl, rfl, rfl⟩⟩) (by omega) (by omega)
            · skip
              refine ki_if_eq (tgt := 117) hx hb dX5_warnOf_104 (by decide) (by omega) (by omega) (fun c_30 => ?_) (fun c_30 => ?_)
              · skip
                have hP := eP_un0 hj4 hP
                have hD := eD_un0 hj4 hD
                rw [← hQe]
                have hzo17 : zL38 17 = zL38 17 := rfl
                have hzo18 : zL38 18 = zL38 18 := rfl
                have hzo19 : zL38 19 = zL38 19 := rfl
                have hzo20 : zL38 20 = zL38 20 := rfl
                have hzo21 : zL38 21 = zL38 21 := rfl
                exact xk_vret (ov := (fun _ : (Nat → Nat) × (Nat → Nat) × (Nat → Int) × (Nat → Int → Int) × (Nat → Nat → Nat) × (Nat → Nat → Nat) × (Nat → Nat → Int) × (Nat → Nat → Int → Int) => none)) (post := (fun (u : (Nat → Nat) × (Nat → Nat) × (Nat → Int) × (Nat → Int → Int) × (Nat → Nat → Nat) × (Nat → Nat → Nat) × (Nat → Nat → Int) × (Nat → Nat → Int → Int)) (dn dm : Nat) => match u with | (r', n', z', F', Er', En', Ez', EF') => xR [17, 18, 19, 20, 21] [] [] [] N z F En Ez EF n' z' F' En' Ez' EF' ∧ (dn + xg n' ≤ xg n + 0 ∧ dm + xp n' ≤ xp n + 0) ∧ (z' 17 = z 17 ∧ (z 18 ≤ z' 18 ∧ z' 18 ≤ z 18 + 7) ∧ wr_X (z 17) (wr_e (z 12) lv ab (rs_sE Ez) pg sn op se p0) (z 18) (z 19) (z 20) (z 21) (z' 18) (z' 19) (z' 20) (z' 21) ∧ Er = Er' ∧ En = En' ∧ Ez = Ez' ∧ EF = EF'))) (ws := (fun u : (Nat → Nat) × (Nat → Nat) × (Nat → Int) × (Nat → Int → Int) × (Nat → Nat → Nat) × (Nat → Nat → Nat) × (Nat → Nat → Int) × (Nat → Nat → Int → Int) => match u with | (r', n', z', F', Er', En', Ez', EF') => (xU cI cB cE o r' n' z' F' G (Eo 0 0) ++ eP cI N Eo Er' En' Ez' EF'))) (tys := xT cI cB cE) (rL38, nL38, zL38, FL38, Er, En, Ez, EF) hx hb hr hlocks rfl hP hD hK hS dX5_warnOf_117 (fun dn dm hdn hdm => ⟨⟨hRLL38.1, hRLL38.2.1, hRLL38.2.2.1, hRLL38.2.2.2⟩, ⟨by omega, by omega⟩, ⟨by omega, by omega, (by first | exact wr_X_eq hX (wr_e_n (show sn p0 = k by omega) (fun h9 => hq_13 (hbr9.mpr h9))) | (rw [hzo18, hzo19, hzo20, hzo21]; exact wr_X_eq hX (wr_e_n (show sn p0 = k by omega) (fun h9 => hq_13 (hbr9.mpr h9))))), rfl, rfl, rfl, rfl⟩⟩) (by omega) (by omega)
              · omega
        · skip
          refine lv_aload_n hx hb dX5_warnOf_49 rfl (lv_at hl 1 rfl) ?_
          refine va_getN (D := (dC, dI)) (ci := 0) (v := .ref (Eo ((p0 + 1).toNat) 4)) (C := RX0) (T := TX0) (N := 12) hx hb hts kt_X0 hown hK hP 29 rfl rfl 6 (by decide) (va_Nw.use rfl (kx_nf hG kq_19_xouts_32)) (fun _ h9 => h9) rfl dX5_warnOf_50 ?_
          refine lv_iload_n hx hb dX5_warnOf_53 rfl (lv_at hl 0 rfl) ?_
          have hPc := hP.sub (ws' := (iU cI 5 (Eo ((p0 + 1).toNat) 4) (Er ((p0 + 1).toNat) 3) (En ((p0 + 1).toNat) 3) (Ez ((p0 + 1).toNat) 3) (EF ((p0 + 1).toNat) 3))) [36, 37] rfl
          refine xk_pure (va_runV (As := [.int (iz k)]) (rest := []) ⟨hx, hb, hml, hown, hts⟩ (x_get l dC dI cI cB cE 5 (Eo ((p0 + 1).toNat) 4) (Er ((p0 + 1).toNat) 3) (En ((p0 + 1).toNat) 3) (Ez ((p0 + 1).toNat) 3) (EF ((p0 + 1).toNat) 3) k H.size (by omega) ((hRLL38.2.2.1 ((p0 + 1).toNat) hj4).2.1 3) (by omega) (by omega)) (cwV 1 hts (kx_gV kq_18_xrows_41 kq_13_xints_4 kq_13_xints_5 kq_13_xints_6 kq_13_xints_7 rfl) rfl rfl rfl (by decide +kernel) ⟨Nat.le_of_ble_eq_true rfl, Nat.le_of_ble_eq_true rfl⟩) ⟨pPre_blind, va_recv hK hPc (ci := 1) (q0 := 0) rfl rfl, pPre_give hPc hK hG⟩ rfl rfl hl.1 rfl (lv_room (Nat.le_of_ble_eq_true rfl)) dX5_warnOf_54 ⟨show cv + 0 ≤ 100 from (by omega), show sv + 0 ≤ 42000 from (by omega)⟩) hS (fun z_32 locs hq_31 hS => ?_)
          refine W.eq (g2 := F0 m 57 ls [.int (iz z_32)]) rfl ?_
          try dsimp only at hq_31
          have hse9 := hwh3 k (by omega) (by omega)
          have ev_33 : z_32 = se p0 k := by omega
          subst ev_33
          refine W.eq (g2 := F0 m 57 ls [.int (iz (se p0 k))]) rfl ?_
          replace hq_31 := fun (_ : Unit) => hq_31
          refine lv_istore (lv' := [(4, .int (iz (se p0 k))), (3, .int (iz k)), (2, .ref (Eo ((p0 + 1).toNat) 0)), (0, .ref (o 15)), (1, .int (iz p0))]) hx hb dX5_warnOf_57 hl (by decide) rfl (fun ls hl => ?_)
          refine lv_aload_n hx hb dX5_warnOf_59 rfl (lv_at hl 3 rfl) ?_
          refine lv_aload_n hx hb dX5_warnOf_60 rfl (lv_at hl 3 rfl) ?_
          refine lv_iload hx hb dX5_warnOf_61 (lv_at hl 0 rfl) ?_
          have hP := eP_un0 hj4 hP
          have hD := eD_un0 hj4 hD
          have hxz_34 : -2147483648 ≤ zL38 12 ∧ zL38 12 < 2147483648 := hRLL38.1.2.2.2.1 12
          have hxG9 : xG N (zL38 12) G Eo := ⟨by omega, by omega, by omega, fun e9 h9 => hN4 e9 (by omega)⟩
          have hP : va_P (dC, dI) kxCl (xU cI cB cE o rL38 nL38 zL38 FL38 G (Eo 0 0) ++ eP cI N Eo Er En Ez EF) H := hP
          refine xk_pure (va_runV (As := [.int (iz (se p0 k))]) (rest := [.ref (o 15)]) ⟨hx, hb, hml, hown, hts⟩ (y_firstOf2 l dC dI cI cB cE o rL38 nL38 zL38 FL38 G N Eo Er En Ez EF (se p0 k) H.size hRLL38.1 hxG9 hRLL38.2.2.1 (by omega) (by omega)) (cwV 1 hts (kx_gV kq_18_xrows_15 kq_18_xrows_16 kq_18_xrows_17 kq_18_xrows_4 kq_18_xrows_18 rfl) rfl rfl rfl (by decide +kernel) ⟨Nat.le_of_ble_eq_true rfl, Nat.le_of_ble_eq_true rfl⟩) ⟨pPre_blind, va_recv hK hP (ci := 5) (q0 := 0) rfl rfl, pPre_give hP hK hG⟩ rfl rfl hl.1 rfl (lv_room (Nat.le_of_ble_eq_true rfl)) dX5_warnOf_63 ⟨show cv + 0 ≤ 100 from (by omega), show sv + 0 ≤ 42000 from (by omega)⟩) hS (fun z_36 locs hq_35 hS => ?_)
          refine W.eq (g2 := F0 m 66 ls [.int (iz z_36), .ref (o 15)]) rfl ?_
          try dsimp only at hq_35
          obtain ⟨hq_35, hq_35b⟩ := hq_35
          subst hq_35
          refine W.eq (g2 := F0 m 66 ls [.int (iz (rs_fo (zL38 12) Ez (se p0 k))), .ref (o 15)]) rfl ?_
          have hf9 := hs (se p0 k) (by omega) (by omega)
          have ef9 : rs_fo (zL38 12) Ez (se p0 k) = rs_sE Ez (se p0 k) := if_pos (by omega)
          rw [ef9]
          refine W.eq (g2 := F0 m 66 ls [.int (iz (rs_sE Ez (se p0 k))), .ref (o 15)]) rfl ?_
          have hnn9 := wr_np_N wH (hN (rs_sE Ez (se p0 k)) (by omega) (by omega))
          have hxG9 : xG N (zL38 12) G Eo := ⟨by omega, by omega, by omega, fun e9 h9 => hN4 e9 (by omega)⟩
          have hP : va_P (dC, dI) kxCl (xU cI cB cE o rL38 nL38 zL38 FL38 G (Eo 0 0) ++ eP cI N Eo Er En Ez EF) H := hP
          refine xk_pure (va_runV (As := [.int (iz (rs_sE Ez (se p0 k)))]) (rest := []) ⟨hx, hb, hml, hown, hts⟩ (y_known l dC dI cI cB cE o rL38 nL38 zL38 FL38 G N Eo Er En Ez EF (rs_sE Ez (se p0 k)) H.size hRLL38.1 hxG9 hRLL38.2.2.1 (by omega) (by omega)) (cwV 1 hts (kx_gV kq_18_xrows_8 kq_18_xrows_9 kq_18_xrows_10 kq_18_xrows_4 kq_18_xrows_11 rfl) rfl rfl rfl (by decide +kernel) ⟨Nat.le_of_ble_eq_true rfl, Nat.le_of_ble_eq_true rfl⟩) ⟨pPre_blind, va_recv hK hP (ci := 5) (q0 := 0) rfl rfl, pPre_give hP hK hG⟩ rfl rfl hl.1 rfl (lv_room (Nat.le_of_ble_eq_true rfl)) dX5_warnOf_66 ⟨show cv + 0 ≤ 100 from (by omega), show sv + 0 ≤ 42000 from (by omega)⟩) hS (fun z_38 locs hq_37 hS => ?_)
          refine W.eq (g2 := F0 m 69 ls [.ref z_38.toNat]) rfl ?_
          try dsimp only at hq_37
          obtain ⟨j39, hj39, ez39, hje39⟩ := hq_37
          subst ez39
          refine W.eq (g2 := F0 m 69 ls [.ref (Eo j39 0)]) rfl ?_
          have ej39 : j39 = ((rs_sE Ez (se p0 k)) + 1).toNat := by omega
          subst ej39
          have hP := eP_foc hj39 hP
          have hD := eD_foc hj39 hD
          have hez_40 : -2147483648 ≤ Ez (((rs_sE Ez (se p0 k)) + 1).toNat) 11 ∧ Ez (((rs_sE Ez (se p0 k)) + 1).toNat) 11 < 2147483648 := (hRLL38.2.2.1 (((rs_sE Ez (se p0 k)) + 1).toNat) hj39).2.2 11
          refine va_getN (D := (dC, dI)) (ci := 0) (v := .int (iz (Ez (((rs_sE Ez (se p0 k)) + 1).toNat) 11))) (C := RX0) (T := TX0) (N := 12) hx hb hts kt_X0 hown hK hP 29 rfl rfl 9 (by decide) (va_Nw.use rfl (kx_nf hG kq_19_xouts_37)) (fun _ h9 => h9) rfl dX5_warnOf_69 ?_
          refine ki_if_ne (tgt := 86) hx hb dX5_warnOf_72 (by decide) (by omega) (by omega) (fun c_41 => ?_) (fun c_41 => ?_)
          · skip
            have hnp9 : ¬ wr_np (z 12) (rs_sE Ez) pg (rs_sE Ez (se p0 k)) := fun h9 => absurd (hnn9.mpr h9) (by omega)
            refine lv_iinc (v := iz (k + 1)) (lv' := [(3, .int (iz (k + 1))), (4, .int (iz (se p0 k))), (2, .ref (Eo ((p0 + 1).toNat) 0)), (0, .ref (o 15)), (1, .int (iz p0))]) hx hb dX5_warnOf_86 hl (k := 1) rfl (iz_add k 1) (by decide) rfl (fun ls hl => ?_)
            refine lv_goto (tgt := 38) hx hb dX5_warnOf_89 (by decide) ?_
            have hP := eP_un0 hj39 hP
            have hD := eD_un0 hj39 hD
            exact ih38 (k + 1) rL38 nL38 zL38 FL38 cv sv ⟨⟨hRLL38.1, hRLL38.2.1, hRLL38.2.2.1, hRLL38.2.2.2⟩, ⟨by omega, by omega⟩, (show zL38 12 = z 12 by omega), by omega, (show zL38 17 = z 17 by omega), (show z 18 ≤ zL38 18 ∧ zL38 18 ≤ z 18 + 1 + (k + 1) by omega), wr_X_eq hX (by rw [wr_s_n (by omega) hnp9])⟩ (by omega) _ _ hP hD hS ls (lv_sub hl [0, 2, 3, 4] rfl)
          · skip
            have hnp9 : wr_np (z 12) (rs_sE Ez) pg (rs_sE Ez (se p0 k)) := hnn9.mp (by omega)
            refine lv_aload_n hx hb dX5_warnOf_75 rfl (lv_at hl 3 rfl) ?_
            refine va_get (D := (dC, dI)) (ci := 5) (v := .ref (o 12)) (C := RX5) (T := TX5) (N := 16) hx hb hts kt_X5 hown hK hP 0 rfl rfl 12 (by decide) (kx_word hG kq_19_xouts_49 rfl) (fun _ h9 => h9) rfl dX5_warnOf_76 ?_
            refine lv_iconst (v := iz 2) hx hb dX5_warnOf_79 (by decide) ?_
            refine lv_iload_n hx hb dX5_warnOf_80 rfl (lv_at hl 4 rfl) ?_
            refine lv_iload hx hb dX5_warnOf_81 (lv_at hl 0 rfl) ?_
            have hxz_42 : -2147483648 ≤ zL38 17 ∧ zL38 17 < 2147483648 := hRLL38.1.2.2.2.1 17
            have hxz_43 : -2147483648 ≤ zL38 18 ∧ zL38 18 < 2147483648 := hRLL38.1.2.2.2.1 18
            have hxz_44 : -2147483648 ≤ zL38 19 ∧ zL38 19 < 2147483648 := hRLL38.1.2.2.2.1 19
            have hxz_45 : -2147483648 ≤ zL38 20 ∧ zL38 20 < 2147483648 := hRLL38.1.2.2.2.1 20
            have hxz_46 : -2147483648 ≤ zL38 21 ∧ zL38 21 < 2147483648 := hRLL38.1.2.2.2.1 21
            have hPc := hP.sub (ws' := (wU (o 12) (zL38 17) (zL38 18) (zL38 19) (zL38 20) (zL38 21))) [24] rfl
            have hDc := hD.sub (ws' := (wU (o 12) (zL38 17) (zL38 18) (zL38 19) (zL38 20) (zL38 21))) [24] (by decide) rfl
            have hFc := va_free (wc := (wU (o 12) (zL38 17) (zL38 18) (zL38 19) (zL38 20) (zL38 21))) hD hS hA [24] rfl
            refine xk_call (va_runV (As := [.int (iz 2), .int (iz p0), .int (iz (se p0 k))]) (rest := []) ⟨hx, hb, hml, hown, hts⟩ (x_tell2 l dC dI cI cB cE (o 12) (zL38 17) (zL38 18) (zL38 19) (zL38 20) (zL38 21) 2 p0 (se p0 k) H.size (by omega) (by omega) (by omega) (by omega) (by omega) (by omega) (by omega) (by omega) (by omega) (by omega) (by omega) (by omega)) (cwV 3 hts (kx_gV kq_19_xouts_50 kq_19_xouts_51 kq_19_xouts_52 kq_19_xouts_53 kq_19_xouts_54 rfl) rfl rfl rfl (by decide +kernel) ⟨Nat.le_of_ble_eq_true rfl, Nat.le_of_ble_eq_true rfl⟩) ⟨kx_blind, va_recv hK hPc (ci := 4) (q0 := 0) rfl rfl, kx_give (ws := []) (tys := []) hPc hDc hK hG hZ hS hFc⟩ rfl rfl hl.1 rfl (lv_room (Nat.le_of_ble_eq_true rfl)) dX5_warnOf_83 ⟨show cv + 0 ≤ 100 from (by omega), show sv + 0 ≤ 42000 from (by omega)⟩) hS (fun q _ h => hFc q h) hFc (fun u dn_48 dm_49 t H locs ht hvm hq_47 hB hk1 hS => ?_)
            obtain ⟨z2_50, z3_51, z4_52, z5_53⟩ := u
            obtain ⟨hP1, hK1, hD1⟩ := hB
            rw [ht] at hP1
            obtain ⟨hP, hD⟩ := xj_pool (wr := [(o 15, .inr (5, [.ref (o 16), .ref (Eo 0 0), .int (iz (zL38 12)), .int (iz (zL38 13)), .int (iz (zL38 14)), .ref (o 0), .ref (o 1), .int (iz (zL38 15)), .ref (o 13), .ref (o 14), .int (iz (zL38 16)), .ref (o 2), .ref (o 12), .ref (o 3), .ref (o 10), .ref (o 11)])), (o 16, .inl (cE, 80, .inr (.inr (.inr (.inr G))))), (o 0, .inr (1, [.int (iz 80), .ref (rL38 0), .int (iz (zL38 0))])), (rL38 0, .inl (cI, nL38 0, .inl (iA (FL38 0)))), (o 1, .inr (1, [.int (iz 80), .ref (rL38 1), .int (iz (zL38 1))])), (rL38 1, .inl (cI, nL38 1, .inl (iA (FL38 1)))), (o 2, .inr (1, [.int (iz 80), .ref (rL38 2), .int (iz (zL38 2))])), (rL38 2, .inl (cI, nL38 2, .inl (iA (FL38 2)))), (o 3, .inr (1, [.int (iz 80), .ref (rL38 3), .int (iz (zL38 3))])), (rL38 3, .inl (cI, nL38 3, .inl (iA (FL38 3)))), (o 13, .inr (3, [.ref (o 4), .ref (o 5), .ref (o 6)])), (o 4, .inr (1, [.int (iz 1600), .ref (rL38 4), .int (iz (zL38 4))])), (rL38 4, .inl (cI, nL38 4, .inl (iA (FL38 4)))), (o 5, .inr (1, [.int (iz 1600), .ref (rL38 5), .int (iz (zL38 5))])), (rL38 5, .inl (cI, nL38 5, .inl (iA (FL38 5)))), (o 6, .inr (1, [.int (iz 1600), .ref (rL38 6), .int (iz (zL38 6))])), (rL38 6, .inl (cI, nL38 6, .inl (iA (FL38 6)))), (o 14, .inr (3, [.ref (o 7), .ref (o 8), .ref (o 9)])), (o 7, .inr (1, [.int (iz 1600), .ref (rL38 7), .int (iz (zL38 7))])), (rL38 7, .inl (cI, nL38 7, .inl (iA (FL38 7)))), (o 8, .inr (1, [.int (iz 1600), .ref (rL38 8), .int (iz (zL38 8))])), (rL38 8, .inl (cI, nL38 8, .inl (iA (FL38 8)))), (o 9, .inr (1, [.int (iz 1600), .ref (rL38 9), .int (iz (zL38 9))])), (rL38 9, .inl (cI, nL38 9, .inl (iA (FL38 9)))), (o 10, .inr (2, [.ref (rL38 10), .int (iz (zL38 10)), .int (iz (zL38 22))])), (rL38 10, .inl (cB, nL38 10, .inl (iA (FL38 10)))), (o 11, .inr (2, [.ref (rL38 11), .int (iz (zL38 11)), .int (iz (zL38 23))])), (rL38 11, .inl (cB, nL38 11, .inl (iA (FL38 11)))), (Eo (((rs_sE Ez (se p0 k)) + 1).toNat) 0, .inr (0, [.int (iz (Ez (((rs_sE Ez (se p0 k)) + 1).toNat) 7)), .int (iz (Ez (((rs_sE Ez (se p0 k)) + 1).toNat) 8)), .ref (Eo (((rs_sE Ez (se p0 k)) + 1).toNat) 1), .ref (Eo (((rs_sE Ez (se p0 k)) + 1).toNat) 2), .ref (Eo (((rs_sE Ez (se p0 k)) + 1).toNat) 3), .ref (Eo (((rs_sE Ez (se p0 k)) + 1).toNat) 5), .ref (Eo (((rs_sE Ez (se p0 k)) + 1).toNat) 4), .int (iz (Ez (((rs_sE Ez (se p0 k)) + 1).toNat) 9)), .int (iz (Ez (((rs_sE Ez (se p0 k)) + 1).toNat) 10)), .int (iz (Ez (((rs_sE Ez (se p0 k)) + 1).toNat) 11)), .int (iz (Ez (((rs_sE Ez (se p0 k)) + 1).toNat) 12)), .int (iz (Ez (((rs_sE Ez (se p0 k)) + 1).toNat) 13))])), (Eo (((rs_sE Ez (se p0 k)) + 1).toNat) 1, .inr (1, [.int (iz 20), .ref (Er (((rs_sE Ez (se p0 k)) + 1).toNat) 0), .int (iz (Ez (((rs_sE Ez (se p0 k)) + 1).toNat) 0))])), (Er (((rs_sE Ez (se p0 k)) + 1).toNat) 0, .inl (cI, En (((rs_sE Ez (se p0 k)) + 1).toNat) 0, .inl (iA (EF (((rs_sE Ez (se p0 k)) + 1).toNat) 0)))), (Eo (((rs_sE Ez (se p0 k)) + 1).toNat) 2, .inr (1, [.int (iz 20), .ref (Er (((rs_sE Ez (se p0 k)) + 1).toNat) 1), .int (iz (Ez (((rs_sE Ez (se p0 k)) + 1).toNat) 1))])), (Er (((rs_sE Ez (se p0 k)) + 1).toNat) 1, .inl (cI, En (((rs_sE Ez (se p0 k)) + 1).toNat) 1, .inl (iA (EF (((rs_sE Ez (se p0 k)) + 1).toNat) 1)))), (Eo (((rs_sE Ez (se p0 k)) + 1).toNat) 3, .inr (1, [.int (iz 40), .ref (Er (((rs_sE Ez (se p0 k)) + 1).toNat) 2), .int (iz (Ez (((rs_sE Ez (se p0 k)) + 1).toNat) 2))])), (Er (((rs_sE Ez (se p0 k)) + 1).toNat) 2, .inl (cI, En (((rs_sE Ez (se p0 k)) + 1).toNat) 2, .inl (iA (EF (((rs_sE Ez (se p0 k)) + 1).toNat) 2)))), (Eo (((rs_sE Ez (se p0 k)) + 1).toNat) 4, .inr (1, [.int (iz 5), .ref (Er (((rs_sE Ez (se p0 k)) + 1).toNat) 3), .int (iz (Ez (((rs_sE Ez (se p0 k)) + 1).toNat) 3))])), (Er (((rs_sE Ez (se p0 k)) + 1).toNat) 3, .inl (cI, En (((rs_sE Ez (se p0 k)) + 1).toNat) 3, .inl (iA (EF (((rs_sE Ez (se p0 k)) + 1).toNat) 3)))), (Eo (((rs_sE Ez (se p0 k)) + 1).toNat) 5, .inr (3, [.ref (Eo (((rs_sE Ez (se p0 k)) + 1).toNat) 6), .ref (Eo (((rs_sE Ez (se p0 k)) + 1).toNat) 7), .ref (Eo (((rs_sE Ez (se p0 k)) + 1).toNat) 8)])), (Eo (((rs_sE Ez (se p0 k)) + 1).toNat) 6, .inr (1, [.int (iz 20), .ref (Er (((rs_sE Ez (se p0 k)) + 1).toNat) 4), .int (iz (Ez (((rs_sE Ez (se p0 k)) + 1).toNat) 4))])), (Er (((rs_sE Ez (se p0 k)) + 1).toNat) 4, .inl (cI, En (((rs_sE Ez (se p0 k)) + 1).toNat) 4, .inl (iA (EF (((rs_sE Ez (se p0 k)) + 1).toNat) 4)))), (Eo (((rs_sE Ez (se p0 k)) + 1).toNat) 7, .inr (1, [.int (iz 20), .ref (Er (((rs_sE Ez (se p0 k)) + 1).toNat) 5), .int (iz (Ez (((rs_sE Ez (se p0 k)) + 1).toNat) 5))])), (Er (((rs_sE Ez (se p0 k)) + 1).toNat) 5, .inl (cI, En (((rs_sE Ez (se p0 k)) + 1).toNat) 5, .inl (iA (EF (((rs_sE Ez (se p0 k)) + 1).toNat) 5)))), (Eo (((rs_sE Ez (se p0 k)) + 1).toNat) 8, .inr (1, [.int (iz 20), .ref (Er (((rs_sE Ez (se p0 k)) + 1).toNat) 6), .int (iz (Ez (((rs_sE Ez (se p0 k)) + 1).toNat) 6))])), (Er (((rs_sE Ez (se p0 k)) + 1).toNat) 6, .inl (cI, En (((rs_sE Ez (se p0 k)) + 1).toNat) 6, .inl (iA (EF (((rs_sE Ez (se p0 k)) + 1).toNat) 6))))]) (w1 := (wU (o 12) (zL38 17) z2_50 z3_51 z4_52 z5_53)) (ws' := ((xU cI cB cE o rL38 nL38 (va_up (va_up (va_up (va_up zL38 18 z2_50) 19 z3_51) 20 z4_52) 21 z5_53) FL38 G (Eo 0 0)) ++ (eU cI (Eo (((rs_sE Ez (se p0 k)) + 1).toNat)) (Er (((rs_sE Ez (se p0 k)) + 1).toNat)) (En (((rs_sE Ez (se p0 k)) + 1).toNat)) (Ez (((rs_sE Ez (se p0 k)) + 1).toNat)) (EF (((rs_sE Ez (se p0 k)) + 1).toNat))))) hP hD [24] [0, 1, 2, 3, 4, 5, 6, 7, 8, 9, 10, 11, 12, 13, 14, 15, 16, 17, 18, 19, 20, 21, 22, 23, 25, 26, 27, 28, 29, 30, 31, 32, 33, 34, 35, 36, 37, 38, 39, 40, 41, 42, 43, 44] [0, 1, 2, 3, 4, 5, 6, 7, 8, 9, 10, 11, 12, 13, 14, 15, 16, 17, 18, 19, 20, 21, 22, 23, 44, 24, 25, 26, 27, 28, 29, 30, 31, 32, 33, 34, 35, 36, 37, 38, 39, 40, 41, 42, 43] rfl rfl (by decide) (by decide) hk1 hFc hP1 hD1 rfl (by decide)
            refine W.eq (g2 := F0 m 86 ls []) rfl ?_
            try dsimp only at hq_47
            obtain ⟨hd54, hm54, hw54, hv54⟩ := hq_47
            subst hd54
            subst hm54
            rw [h17] at hv54
            have hbv54 : (-2147483648 ≤ z2_50 ∧ z2_50 < 2147483648) ∧ (-2147483648 ≤ z3_51 ∧ z3_51 < 2147483648) ∧ (-2147483648 ≤ z4_52 ∧ z4_52 < 2147483648) ∧ (-2147483648 ≤ z5_53 ∧ z5_53 < 2147483648) := by omega
            have hX54 := wr_X_tell hX hw54 hv54
            replace hv54 := fun (_ : Unit) => hv54
            refine lv_iinc (v := iz (k + 1)) (lv' := [(3, .int (iz (k + 1))), (4, .int (iz (se p0 k))), (2, .ref (Eo ((p0 + 1).toNat) 0)), (0, .ref (o 15)), (1, .int (iz p0))]) hx hb dX5_warnOf_86 hl (k := 1) rfl (iz_add k 1) (by decide) rfl (fun ls hl => ?_)
            refine lv_goto (tgt := 38) hx hb dX5_warnOf_89 (by decide) ?_
            have hP := eP_un0 hj39 hP
            have hD := eD_un0 hj39 hD
            have hok55 : xOk nL38 (va_up (va_up (va_up (va_up zL38 18 z2_50) 19 z3_51) 20 z4_52) 21 z5_53) FL38 := ((((hRLL38.1.s 18 (by decide) (show -2147483648 ≤ z2_50 ∧ z2_50 < 2147483648 by omega) (by omega)).s 19 (by decide) (show -2147483648 ≤ z3_51 ∧ z3_51 < 2147483648 by omega) (by omega)).s 20 (by decide) (show -2147483648 ≤ z4_52 ∧ z4_52 < 2147483648 by omega) (by omega)).s 21 (by decide) (show -2147483648 ≤ z5_53 ∧ z5_53 < 2147483648 by omega) (by omega))
            have hfr55 : xFr [17, 18, 19, 20, 21] [] z F (va_up (va_up (va_up (va_up zL38 18 z2_50) 19 z3_51) 20 z4_52) 21 z5_53) FL38 := ((((hRLL38.2.1.uz 18 (by decide) _).uz 19 (by decide) _).uz 20 (by decide) _).uz 21 (by decide) _)
            exact ih38 (k + 1) rL38 nL38 (va_up (va_up (va_up (va_up zL38 18 z2_50) 19 z3_51) 20 z4_52) 21 z5_53) FL38 (cv + 0) (sv + 0) ⟨⟨hok55, hfr55, hRLL38.2.2.1, hRLL38.2.2.2⟩, ⟨by omega, by omega⟩, (show zL38 12 = z 12 by omega), by omega, (show zL38 17 = z 17 by omega), (show z 18 ≤ z2_50 ∧ z2_50 ≤ z 18 + 1 + (k + 1) by omega), wr_X_eq hX54 (by rw [wr_s_p (by omega) hnp9, ← List.append_assoc])⟩ (by omega) _ _ hP hD hS ls (lv_sub hl [0, 2, 3, 4] rfl)
    exact lp38 _ 0 r n z F 0 0 ⟨⟨hok, hfr, hPE, hef⟩, ⟨by omega, by omega⟩, (show z 12 = z 12 by omega), by omega, (show z 17 = z 17 by omega), (show z 18 ≤ z 18 ∧ z 18 ≤ z 18 + 1 + 0 by omega), wr_X_eq hX0 (by rw [wr_o_n (show ¬ 0 < op p0 by omega)]; rfl)⟩ (Nat.lt_succ_self _) _ _ hP hD hS ls (lv_sub hl [0, 1, 2, 3] rfl)
  · skip
    refine lv_aload_n hx hb dX5_warnOf_13 rfl (lv_at hl 1 rfl) ?_
    refine va_get (D := (dC, dI)) (ci := 5) (v := .ref (o 12)) (C := RX5) (T := TX5) (N := 16) hx hb hts kt_X5 hown hK hP 0 rfl rfl 12 (by decide) (kx_word hG kq_19_xouts_49 rfl) (fun _ h9 => h9) rfl dX5_warnOf_14 ?_
    refine lv_iconst (v := iz 1) hx hb dX5_warnOf_17 (by decide) ?_
    refine lv_iload_n hx hb dX5_warnOf_18 rfl (lv_at hl 2 rfl) ?_
    refine lv_aload_n hx hb dX5_warnOf_19 rfl (lv_at hl 0 rfl) ?_
    refine va_getN (D := (dC, dI)) (ci := 0) (v := .ref (Eo ((p0 + 1).toNat) 5)) (C := RX0) (T := TX0) (N := 12) hx hb hts kt_X0 hown hK hP 29 rfl rfl 5 (by decide) (va_Nw.use rfl (kx_nf hG kq_19_xouts_22)) (fun _ h9 => h9) rfl dX5_warnOf_20 ?_
    refine lv_aload_n hx hb dX5_warnOf_23 rfl (lv_at hl 0 rfl) ?_
    refine va_getN (D := (dC, dI)) (ci := 0) (v := .int (iz (Ez ((p0 + 1).toNat) 9))) (C := RX0) (T := TX0) (N := 12) hx hb hts kt_X0 hown hK hP 29 rfl rfl 7 (by decide) (va_Nw.use rfl (kx_nf hG kq_19_xouts_44)) (fun _ h9 => h9) rfl dX5_warnOf_24 ?_
    have he_56 : 0 ≤ Ez ((p0 + 1).toNat) 4 ∧ Ez ((p0 + 1).toNat) 4 ≤ ((En ((p0 + 1).toNat) 4 : Nat) : Int) ∧ ((En ((p0 + 1).toNat) 4 : Nat) : Int) ≤ 20 := (hPE ((p0 + 1).toNat) hj4).1 4 (by decide)
    have he_57 : 0 ≤ Ez ((p0 + 1).toNat) 5 ∧ Ez ((p0 + 1).toNat) 5 ≤ ((En ((p0 + 1).toNat) 5 : Nat) : Int) ∧ ((En ((p0 + 1).toNat) 5 : Nat) : Int) ≤ 20 := (hPE ((p0 + 1).toNat) hj4).1 5 (by decide)
    have he_58 : 0 ≤ Ez ((p0 + 1).toNat) 6 ∧ Ez ((p0 + 1).toNat) 6 ≤ ((En ((p0 + 1).toNat) 6 : Nat) : Int) ∧ ((En ((p0 + 1).toNat) 6 : Nat) : Int) ≤ 20 := (hPE ((p0 + 1).toNat) hj4).1 6 (by decide)
    have hPc := hP.sub (ws' := (sU cI 20 (Eo ((p0 + 1).toNat) 5) (Eo ((p0 + 1).toNat) 6) (Eo ((p0 + 1).toNat) 7) (Eo ((p0 + 1).toNat) 8) (Er ((p0 + 1).toNat) 4) (Er ((p0 + 1).toNat) 5) (Er ((p0 + 1).toNat) 6) (En ((p0 + 1).toNat) 4) (En ((p0 + 1).toNat) 5) (En ((p0 + 1).toNat) 6) (Ez ((p0 + 1).toNat) 4) (Ez ((p0 + 1).toNat) 5) (Ez ((p0 + 1).toNat) 6) (EF ((p0 + 1).toNat) 4) (EF ((p0 + 1).toNat) 5) (EF ((p0 + 1).toNat) 6))) [38, 39, 40, 41, 42, 43, 44] rfl
    refine xk_pure (va_runV (As := [.int (iz (Ez ((p0 + 1).toNat) 9))]) (rest := [.int (iz p0), .int (iz 1), .ref (o 12)]) ⟨hx, hb, hml, hown, hts⟩ (x_sfrom l dC dI cI cB cE 20 (Eo ((p0 + 1).toNat) 5) (Eo ((p0 + 1).toNat) 6) (Eo ((p0 + 1).toNat) 7) (Eo ((p0 + 1).toNat) 8) (Er ((p0 + 1).toNat) 4) (Er ((p0 + 1).toNat) 5) (Er ((p0 + 1).toNat) 6) (En ((p0 + 1).toNat) 4) (En ((p0 + 1).toNat) 5) (En ((p0 + 1).toNat) 6) (Ez ((p0 + 1).toNat) 4) (Ez ((p0 + 1).toNat) 5) (Ez ((p0 + 1).toNat) 6) (EF ((p0 + 1).toNat) 4) (EF ((p0 + 1).toNat) 5) (EF ((p0 + 1).toNat) 6) (Ez ((p0 + 1).toNat) 9) s.heap.size (by omega) ((hPE ((p0 + 1).toNat) hj4).2.1 4) (by omega) ((hPE ((p0 + 1).toNat) hj4).2.1 5) (by omega) ((hPE ((p0 + 1).toNat) hj4).2.1 6) (by omega) (by omega)) (cwV 1 hts (kx_gV kq_19_xouts_8 kq_15_xspan_56 kq_15_xspan_57 kq_15_xspan_53 kq_15_xspan_58 rfl) rfl rfl rfl (by decide +kernel) ⟨Nat.le_of_ble_eq_true rfl, Nat.le_of_ble_eq_true rfl⟩) ⟨pPre_blind, va_recv hK hPc (ci := 3) (q0 := 0) rfl rfl, pPre_give hPc hK hG⟩ rfl rfl hl.1 rfl (lv_room (Nat.le_of_ble_eq_true rfl)) dX5_warnOf_27 ⟨show 0 + 0 ≤ 100 from (by omega), show 0 + 0 ≤ 42000 from (by omega)⟩) hS (fun z_60 locs hq_59 hS => ?_)
    refine W.eq (g2 := F0 m 30 ls [.int (iz z_60), .int (iz p0), .int (iz 1), .ref (o 12)]) rfl ?_
    try dsimp only at hq_59
    have hwh4 := hwh2 ()
    have hop9 : z_60 = 100000 + op p0 ∧ 0 < op p0 ∧ op p0 ≤ 99999 := by omega
    replace hwh4 := fun (_ : Unit) => hwh4
    replace hq_59 := fun (_ : Unit) => hq_59
    refine lv_ldc (v := 100000) hx hb hown (kx_word hG kq_19_xouts_55 rfl) dX5_warnOf_30 ?_
    refine ki_is (show (100000 : Int32) = iz 100000 by decide) ?_
    refine ki_irem hx hb dX5_warnOf_32 (by omega) (by omega) (by omega) (by omega) ?_
    have hrm9 : z_60 % 100000 = op p0 := by omega
    rw [hrm9]
    refine W.eq (g2 := F0 m 33 ls [.int (iz (op p0)), .int (iz p0), .int (iz 1), .ref (o 12)]) rfl ?_
    have hxz_61 : -2147483648 ≤ z 17 ∧ z 17 < 2147483648 := hok.2.2.2.1 17
    have hxz_62 : -2147483648 ≤ z 18 ∧ z 18 < 2147483648 := hok.2.2.2.1 18
    have hxz_63 : -2147483648 ≤ z 19 ∧ z 19 < 2147483648 := hok.2.2.2.1 19
    have hxz_64 : -2147483648 ≤ z 20 ∧ z 20 < 2147483648 := hok.2.2.2.1 20
    have hxz_65 : -2147483648 ≤ z 21 ∧ z 21 < 2147483648 := hok.2.2.2.1 21
    have hPc := hP.sub (ws' := (wU (o 12) (z 17) (z 18) (z 19) (z 20) (z 21))) [24] rfl
    have hDc := hD.sub (ws' := (wU (o 12) (z 17) (z 18) (z 19) (z 20) (z 21))) [24] (by decide) rfl
    have hFc := va_free (wc := (wU (o 12) (z 17) (z 18) (z 19) (z 20) (z 21))) hD hS hA [24] rfl
    refine xk_call (va_runV (As := [.int (iz 1), .int (iz p0), .int (iz (op p0))]) (rest := []) ⟨hx, hb, hml, hown, hts⟩ (x_tell2 l dC dI cI cB cE (o 12) (z 17) (z 18) (z 19) (z 20) (z 21) 1 p0 (op p0) s.heap.size (by omega) (by omega) (by omega) (by omega) (by omega) (by omega) (by omega) (by omega) (by omega) (by omega) (by omega) (by omega)) (cwV 3 hts (kx_gV kq_19_xouts_50 kq_19_xouts_51 kq_19_xouts_52 kq_19_xouts_53 kq_19_xouts_54 rfl) rfl rfl rfl (by decide +kernel) ⟨Nat.le_of_ble_eq_true rfl, Nat.le_of_ble_eq_true rfl⟩) ⟨kx_blind, va_recv hK hPc (ci := 4) (q0 := 0) rfl rfl, kx_give (ws := []) (tys := []) hPc hDc hK hG hZ hS hFc⟩ rfl rfl hl.1 rfl (lv_room (Nat.le_of_ble_eq_true rfl)) dX5_warnOf_33 ⟨show 0 + 0 ≤ 100 from (by omega), show 0 + 0 ≤ 42000 from (by omega)⟩) hS (fun q _ h => hFc q h) hFc (fun u dn_67 dm_68 t H locs ht hvm hq_66 hB hk1 hS => ?_)
    obtain ⟨z2_69, z3_70, z4_71, z5_72⟩ := u
    obtain ⟨hP1, hK1, hD1⟩ := hB
    rw [ht] at hP1
    obtain ⟨hP, hD⟩ := xj_pool (wr := [(o 15, .inr (5, [.ref (o 16), .ref (Eo 0 0), .int (iz (z 12)), .int (iz (z 13)), .int (iz (z 14)), .ref (o 0), .ref (o 1), .int (iz (z 15)), .ref (o 13), .ref (o 14), .int (iz (z 16)), .ref (o 2), .ref (o 12), .ref (o 3), .ref (o 10), .ref (o 11)])), (o 16, .inl (cE, 80, .inr (.inr (.inr (.inr G))))), (o 0, .inr (1, [.int (iz 80), .ref (r 0), .int (iz (z 0))])), (r 0, .inl (cI, n 0, .inl (iA (F 0)))), (o 1, .inr (1, [.int (iz 80), .ref (r 1), .int (iz (z 1))])), (r 1, .inl (cI, n 1, .inl (iA (F 1)))), (o 2, .inr (1, [.int (iz 80), .ref (r 2), .int (iz (z 2))])), (r 2, .inl (cI, n 2, .inl (iA (F 2)))), (o 3, .inr (1, [.int (iz 80), .ref (r 3), .int (iz (z 3))])), (r 3, .inl (cI, n 3, .inl (iA (F 3)))), (o 13, .inr (3, [.ref (o 4), .ref (o 5), .ref (o 6)])), (o 4, .inr (1, [.int (iz 1600), .ref (r 4), .int (iz (z 4))])), (r 4, .inl (cI, n 4, .inl (iA (F 4)))), (o 5, .inr (1, [.int (iz 1600), .ref (r 5), .int (iz (z 5))])), (r 5, .inl (cI, n 5, .inl (iA (F 5)))), (o 6, .inr (1, [.int (iz 1600), .ref (r 6), .int (iz (z 6))])), (r 6, .inl (cI, n 6, .inl (iA (F 6)))), (o 14, .inr (3, [.ref (o 7), .ref (o 8), .ref (o 9)])), (o 7, .inr (1, [.int (iz 1600), .ref (r 7), .int (iz (z 7))])), (r 7, .inl (cI, n 7, .inl (iA (F 7)))), (o 8, .inr (1, [.int (iz 1600), .ref (r 8), .int (iz (z 8))])), (r 8, .inl (cI, n 8, .inl (iA (F 8)))), (o 9, .inr (1, [.int (iz 1600), .ref (r 9), .int (iz (z 9))])), (r 9, .inl (cI, n 9, .inl (iA (F 9)))), (o 10, .inr (2, [.ref (r 10), .int (iz (z 10)), .int (iz (z 22))])), (r 10, .inl (cB, n 10, .inl (iA (F 10)))), (o 11, .inr (2, [.ref (r 11), .int (iz (z 11)), .int (iz (z 23))])), (r 11, .inl (cB, n 11, .inl (iA (F 11)))), (Eo ((p0 + 1).toNat) 0, .inr (0, [.int (iz (Ez ((p0 + 1).toNat) 7)), .int (iz (Ez ((p0 + 1).toNat) 8)), .ref (Eo ((p0 + 1).toNat) 1), .ref (Eo ((p0 + 1).toNat) 2), .ref (Eo ((p0 + 1).toNat) 3), .ref (Eo ((p0 + 1).toNat) 5), .ref (Eo ((p0 + 1).toNat) 4), .int (iz (Ez ((p0 + 1).toNat) 9)), .int (iz (Ez ((p0 + 1).toNat) 10)), .int (iz (Ez ((p0 + 1).toNat) 11)), .int (iz (Ez ((p0 + 1).toNat) 12)), .int (iz (Ez ((p0 + 1).toNat) 13))])), (Eo ((p0 + 1).toNat) 1, .inr (1, [.int (iz 20), .ref (Er ((p0 + 1).toNat) 0), .int (iz (Ez ((p0 + 1).toNat) 0))])), (Er ((p0 + 1).toNat) 0, .inl (cI, En ((p0 + 1).toNat) 0, .inl (iA (EF ((p0 + 1).toNat) 0)))), (Eo ((p0 + 1).toNat) 2, .inr (1, [.int (iz 20), .ref (Er ((p0 + 1).toNat) 1), .int (iz (Ez ((p0 + 1).toNat) 1))])), (Er ((p0 + 1).toNat) 1, .inl (cI, En ((p0 + 1).toNat) 1, .inl (iA (EF ((p0 + 1).toNat) 1)))), (Eo ((p0 + 1).toNat) 3, .inr (1, [.int (iz 40), .ref (Er ((p0 + 1).toNat) 2), .int (iz (Ez ((p0 + 1).toNat) 2))])), (Er ((p0 + 1).toNat) 2, .inl (cI, En ((p0 + 1).toNat) 2, .inl (iA (EF ((p0 + 1).toNat) 2)))), (Eo ((p0 + 1).toNat) 4, .inr (1, [.int (iz 5), .ref (Er ((p0 + 1).toNat) 3), .int (iz (Ez ((p0 + 1).toNat) 3))])), (Er ((p0 + 1).toNat) 3, .inl (cI, En ((p0 + 1).toNat) 3, .inl (iA (EF ((p0 + 1).toNat) 3)))), (Eo ((p0 + 1).toNat) 5, .inr (3, [.ref (Eo ((p0 + 1).toNat) 6), .ref (Eo ((p0 + 1).toNat) 7), .ref (Eo ((p0 + 1).toNat) 8)])), (Eo ((p0 + 1).toNat) 6, .inr (1, [.int (iz 20), .ref (Er ((p0 + 1).toNat) 4), .int (iz (Ez ((p0 + 1).toNat) 4))])), (Er ((p0 + 1).toNat) 4, .inl (cI, En ((p0 + 1).toNat) 4, .inl (iA (EF ((p0 + 1).toNat) 4)))), (Eo ((p0 + 1).toNat) 7, .inr (1, [.int (iz 20), .ref (Er ((p0 + 1).toNat) 5), .int (iz (Ez ((p0 + 1).toNat) 5))])), (Er ((p0 + 1).toNat) 5, .inl (cI, En ((p0 + 1).toNat) 5, .inl (iA (EF ((p0 + 1).toNat) 5)))), (Eo ((p0 + 1).toNat) 8, .inr (1, [.int (iz 20), .ref (Er ((p0 + 1).toNat) 6), .int (iz (Ez ((p0 + 1).toNat) 6))])), (Er ((p0 + 1).toNat) 6, .inl (cI, En ((p0 + 1).toNat) 6, .inl (iA (EF ((p0 + 1).toNat) 6))))]) (w1 := (wU (o 12) (z 17) z2_69 z3_70 z4_71 z5_72)) (ws' := ((xU cI cB cE o r n (va_up (va_up (va_up (va_up z 18 z2_69) 19 z3_70) 20 z4_71) 21 z5_72) F G (Eo 0 0)) ++ (eU cI (Eo ((p0 + 1).toNat)) (Er ((p0 + 1).toNat)) (En ((p0 + 1).toNat)) (Ez ((p0 + 1).toNat)) (EF ((p0 + 1).toNat))))) hP hD [24] [0, 1, 2, 3, 4, 5, 6, 7, 8, 9, 10, 11, 12, 13, 14, 15, 16, 17, 18, 19, 20, 21, 22, 23, 25, 26, 27, 28, 29, 30, 31, 32, 33, 34, 35, 36, 37, 38, 39, 40, 41, 42, 43, 44] [0, 1, 2, 3, 4, 5, 6, 7, 8, 9, 10, 11, 12, 13, 14, 15, 16, 17, 18, 19, 20, 21, 22, 23, 44, 24, 25, 26, 27, 28, 29, 30, 31, 32, 33, 34, 35, 36, 37, 38, 39, 40, 41, 42, 43] rfl rfl (by decide) (by decide) hk1 hFc hP1 hD1 rfl (by decide)
    refine W.eq (g2 := F0 m 36 ls []) rfl ?_
    try dsimp only at hq_66
    obtain ⟨hd73, hm73, hw73, hv73⟩ := hq_66
    subst hd73
    subst hm73
    have hbv73 : (-2147483648 ≤ z2_69 ∧ z2_69 < 2147483648) ∧ (-2147483648 ≤ z3_70 ∧ z3_70 < 2147483648) ∧ (-2147483648 ≤ z4_71 ∧ z4_71 < 2147483648) ∧ (-2147483648 ≤ z5_72 ∧ z5_72 < 2147483648) := by omega
    have hX73 := wr_X_tell hX0 hw73 hv73
    replace hv73 := fun (_ : Unit) => hv73
    have hs36 : 0 ≤ Ez ((p0 + 1).toNat) 3 ∧ Ez ((p0 + 1).toNat) 3 ≤ ((En ((p0 + 1).toNat) 3 : Nat) : Int) ∧ ((En ((p0 + 1).toNat) 3 : Nat) : Int) ≤ 5 := (hPE ((p0 + 1).toNat) hj4).1 3 (by decide)
    refine lv_iconst (v := iz 0) hx hb dX5_warnOf_36 (by decide) ?_
    refine lv_istore_n (lv' := [(3, .int (iz 0)), (2, .ref (Eo ((p0 + 1).toNat) 0)), (0, .ref (o 15)), (1, .int (iz p0))]) hx hb dX5_warnOf_37 rfl hl (by decide) rfl (fun ls hl => ?_)
    have hP := eP_un0 hj4 hP
    have hD := eD_un0 hj4 hD
    have hok74 : xOk n (va_up (va_up (va_up (va_up z 18 z2_69) 19 z3_70) 20 z4_71) 21 z5_72) F := ((((hok.s 18 (by decide) (show -2147483648 ≤ z2_69 ∧ z2_69 < 2147483648 by omega) (by omega)).s 19 (by decide) (show -2147483648 ≤ z3_70 ∧ z3_70 < 2147483648 by omega) (by omega)).s 20 (by decide) (show -2147483648 ≤ z4_71 ∧ z4_71 < 2147483648 by omega) (by omega)).s 21 (by decide) (show -2147483648 ≤ z5_72 ∧ z5_72 < 2147483648 by omega) (by omega))
    have hfr74 : xFr [17, 18, 19, 20, 21] [] z F (va_up (va_up (va_up (va_up z 18 z2_69) 19 z3_70) 20 z4_71) 21 z5_72) F := ((((hfr.uz 18 (by decide) _).uz 19 (by decide) _).uz 20 (by decide) _).uz 21 (by decide) _)
    have lp38 : ∀ (n0 : Nat) (k : Int) (rL38 : Nat → Nat) (nL38 : Nat → Nat) (zL38 : Nat → Int) (FL38 : Nat → Int → Int) (cv : Nat) (sv : Nat), ((xR [17, 18, 19, 20, 21] [] [] [] N z F En Ez EF nL38 zL38 FL38 En Ez EF) ∧ (cv + xg nL38 ≤ xg n + (0) ∧ sv + xp nL38 ≤ xp n + (0)) ∧ (zL38 12 = z 12) ∧ (0 ≤ k ∧ k ≤ sn p0) ∧ (zL38 17 = z 17) ∧ (z 18 ≤ zL38 18 ∧ zL38 18 ≤ z 18 + 1 + k) ∧ (wr_X (z 17) (wr_o op p0 ++ wr_s (z 12) (rs_sE Ez) pg se p0 (k).toNat 0) (z 18) (z 19) (z 20) (z 21) (zL38 18) (zL38 19) (zL38 20) (zL38 21))) → (Ez ((p0 + 1).toNat) 3 - k).toNat < n0 → ∀ (H : Heap) (locs : List Loc), va_P (dC, dI) kxCl ((xU cI cB cE o rL38 nL38 zL38 FL38 G (Eo 0 0)) ++ (eP cI N Eo Er En Ez EF)) H → va_D A ((xU cI cB cE o rL38 nL38 zL38 FL38 G (Eo 0 0)) ++ (eP cI N Eo Er En Ez EF)) → va_S A s.heap H locs → ∀ ls : Array Slot, lv_has ls 5 [(3, .int (iz k)), (2, .ref (Eo ((p0 + 1).toNat) 0)), (0, .ref (o 15)), (1, .int (iz p0))] → W p l e (headSpec [.code yX5_warnOf cX5_warnOf 5 none] ({ frames := 3, cells := 100, slots := 42000, locals := 64 })).room s m ([.ref (o 15), .int (iz p0)] : List Value).toArray below meth c H locs cv sv QQ (F0 m 38 ls []) := by
      intro n0
      induction n0 with
      | zero => intro k rL38 nL38 zL38 FL38 cv sv hinv hm0; exact absurd hm0 (Nat.not_lt_zero _)
      | succ n0 ih38 =>
        intro k rL38 nL38 zL38 FL38 cv sv hinv hm0 H locs hP hD hS ls hl
        obtain ⟨hRLL38, hCLL38, hZLL38, hk, h17, h18L, hX⟩ := hinv
        have hs39 : 0 ≤ Ez ((p0 + 1).toNat) 3 ∧ Ez ((p0 + 1).toNat) 3 ≤ (En ((p0 + 1).toNat) 3 : Int) ∧ (En ((p0 + 1).toNat) 3 : Int) ≤ 5 := (hPE ((p0 + 1).toNat) hj4).1 3 (by decide)
        refine lv_iload_n hx hb dX5_warnOf_38 rfl (lv_at hl 0 rfl) ?_
        refine lv_aload_n hx hb dX5_warnOf_39 rfl (lv_at hl 1 rfl) ?_
        have hP := eP_foc hj4 hP
        have hD := eD_foc hj4 hD
        refine va_getN (D := (dC, dI)) (ci := 0) (v := .ref (Eo ((p0 + 1).toNat) 4)) (C := RX0) (T := TX0) (N := 12) hx hb hts kt_X0 hown hK hP 29 rfl rfl 6 (by decide) (va_Nw.use rfl (kx_nf hG kq_19_xouts_32)) (fun _ h9 => h9) rfl dX5_warnOf_40 ?_
        have he_75 : 0 ≤ Ez ((p0 + 1).toNat) 3 ∧ Ez ((p0 + 1).toNat) 3 ≤ ((En ((p0 + 1).toNat) 3 : Nat) : Int) ∧ ((En ((p0 + 1).toNat) 3 : Nat) : Int) ≤ 5 := (hRLL38.2.2.1 ((p0 + 1).toNat) hj4).1 3 (by decide)
        have hPc := hP.sub (ws' := (iU cI 5 (Eo ((p0 + 1).toNat) 4) (Er ((p0 + 1).toNat) 3) (En ((p0 + 1).toNat) 3) (Ez ((p0 + 1).toNat) 3) (EF ((p0 + 1).toNat) 3))) [36, 37] rfl
        refine xk_pure (va_runV (As := []) (rest := [.int (iz k)]) ⟨hx, hb, hml, hown, hts⟩ (x_size l dC dI cI cB cE 5 (Eo ((p0 + 1).toNat) 4) (Er ((p0 + 1).toNat) 3) (En ((p0 + 1).toNat) 3) (Ez ((p0 + 1).toNat) 3) (EF ((p0 + 1).toNat) 3)  H.size ) (cwV 0 hts (kx_gV kq_18_xrows_40 kq_15_xspan_10 kq_15_xspan_11 kq_13_xints_6 kq_15_xspan_12 rfl) rfl rfl rfl (by decide +kernel) ⟨Nat.le_of_ble_eq_true rfl, Nat.le_of_ble_eq_true rfl⟩) ⟨pPre_blind, va_recv hK hPc (ci := 1) (q0 := 0) rfl rfl, pPre_give hPc hK hG⟩ rfl rfl hl.1 rfl (lv_room (Nat.le_of_ble_eq_true rfl)) dX5_warnOf_43 ⟨show cv + 0 ≤ 100 from (by omega), show sv + 0 ≤ 42000 from (by omega)⟩) hS (fun z_77 locs hq_76 hS => ?_)
        refine W.eq (g2 := F0 m 46 ls [.int (iz z_77), .int (iz k)]) rfl ?_
        try dsimp only at hq_76
        have hq_76 := hq_76.symm
        subst hq_76
        refine ki_icmp_ge (tgt := 92) hx hb dX5_warnOf_46 (by decide) (by omega) (by omega) (by omega) (by omega) (fun c_78 => ?_) (fun c_78 => ?_)
        · skip
          refine lv_aload_n hx hb dX5_warnOf_92 rfl (lv_at hl 1 rfl) ?_
          have hez_79 : -2147483648 ≤ Ez ((p0 + 1).toNat) 10 ∧ Ez ((p0 + 1).toNat) 10 < 2147483648 := (hRLL38.2.2.1 ((p0 + 1).toNat) hj4).2.2 10
          refine va_getN (D := (dC, dI)) (ci := 0) (v := .int (iz (Ez ((p0 + 1).toNat) 10))) (C := RX0) (T := TX0) (N := 12) hx hb hts kt_X0 hown hK hP 29 rfl rfl 8 (by decide) (va_Nw.use rfl (kx_nf hG kq_18_xrows_13)) (fun _ h9 => h9) rfl dX5_warnOf_93 ?_
          refine lv_iload_n hx hb dX5_warnOf_96 rfl (lv_at hl 3 rfl) ?_
          refine ki_icmp_ne (tgt := 117) hx hb dX5_warnOf_97 (by decide) (by omega) (by omega) (by omega) (by omega) (fun c_80 => ?_) (fun c_80 => ?_)
          · skip
            have hP := eP_un0 hj4 hP
            have hD := eD_un0 hj4 hD
            rw [← hQe]
            have hzo17 : zL38 17 = zL38 17 := rfl
            have hzo18 : zL38 18 = zL38 18 := rfl
            have hzo19 : zL38 19 = zL38 19 := rfl
            have hzo20 : zL38 20 = zL38 20 := rfl
            have hzo21 : zL38 21 = zL38 21 := rfl
            exact xk_vret (ov := (fun _ : (Nat → Nat) × (Nat → Nat) × (Nat → Int) × (Nat → Int → Int) × (Nat → Nat → Nat) × (Nat → Nat → Nat) × (Nat → Nat → Int) × (Nat → Nat → Int → Int) => none)) (post := (fun (u : (Nat → Nat) × (Nat → Nat) × (Nat → Int) × (Nat → Int → Int) × (Nat → Nat → Nat) × (Nat → Nat → Nat) × (Nat → Nat → Int) × (Nat → Nat → Int → Int)) (dn dm : Nat) => match u with | (r', n', z', F', Er', En', Ez', EF') => xR [17, 18, 19, 20, 21] [] [] [] N z F En Ez EF n' z' F' En' Ez' EF' ∧ (dn + xg n' ≤ xg n + 0 ∧ dm + xp n' ≤ xp n + 0) ∧ (z' 17 = z 17 ∧ (z 18 ≤ z' 18 ∧ z' 18 ≤ z 18 + 7) ∧ wr_X (z 17) (wr_e (z 12) lv ab (rs_sE Ez) pg sn op se p0) (z 18) (z 19) (z 20) (z 21) (z' 18) (z' 19) (z' 20) (z' 21) ∧ Er = Er' ∧ En = En' ∧ Ez = Ez' ∧ EF = EF'))) (ws := (fun u : (Nat → Nat) × (Nat → Nat) × (Nat → Int) × (Nat → Int → Int) × (Nat → Nat → Nat) × (Nat → Nat → Nat) × (Nat → Nat → Int) × (Nat → Nat → Int → Int) => match u with | (r', n', z', F', Er', En', Ez', EF') => (xU cI cB cE o r' n' z' F' G (Eo 0 0) ++ eP cI N Eo Er' En' Ez' EF'))) (tys := xT cI cB cE) (rL38, nL38, zL38, FL38, Er, En, Ez, EF) hx hb hr hlocks rfl hP hD hK hS dX5_warnOf_117 (fun dn dm hdn hdm => ⟨⟨hRLL38.1, hRLL38.2.1, hRLL38.2.2.1, hRLL38.2.2.2⟩, ⟨by omega, by omega⟩, ⟨by omega, by omega, (by first | exact wr_X_eq hX (wr_e_n (show sn p0 = k by omega) (fun h9 => absurd (show Ez ((p0 + 1).toNat) 10 = p0 from h9.1) (by omega))) | (rw [hzo18, hzo19, hzo20, hzo21]; exact wr_X_eq hX (wr_e_n (show sn p0 = k by omega) (fun h9 => absurd (show Ez ((p0 + 1).toNat) 10 = p0 from h9.1) (by omega))))), rfl, rfl, rfl, rfl⟩⟩) (by omega) (by omega)
          · skip
            refine lv_aload_n hx hb dX5_warnOf_100 rfl (lv_at hl 1 rfl) ?_
            have hPc := hP.sub (ws' := (eU cI (Eo ((p0 + 1).toNat)) (Er ((p0 + 1).toNat)) (En ((p0 + 1).toNat)) (Ez ((p0 + 1).toNat)) (EF ((p0 + 1).toNat)))) [29, 30, 31, 32, 33, 34, 35, 36, 37, 38, 39, 40, 41, 42, 43, 44] rfl
            refine xk_pure (va_runV (As := []) (rest := []) ⟨hx, hb, hml, hown, hts⟩ (x_isEmptyRow2 l dC dI cI cB cE (Eo ((p0 + 1).toNat)) (Er ((p0 + 1).toNat)) (En ((p0 + 1).toNat)) (Ez ((p0 + 1).toNat)) (EF ((p0 + 1).toNat))  H.size (hRLL38.2.2.1 ((p0 + 1).toNat) hj4)) (cwV 0 hts (kx_gV kq_19_xouts_45 kq_19_xouts_46 kq_19_xouts_47 kq_16_xentry_2 kq_19_xouts_48 rfl) rfl rfl rfl (by decide +kernel) ⟨Nat.le_of_ble_eq_true rfl, Nat.le_of_ble_eq_true rfl⟩) ⟨pPre_blind, va_recv hK hPc (ci := 0) (q0 := 0) rfl rfl, pPre_give hPc hK hG⟩ rfl rfl hl.1 rfl (lv_room (Nat.le_of_ble_eq_true rfl)) dX5_warnOf_101 ⟨show cv + 0 ≤ 100 from (by omega), show sv + 0 ≤ 42000 from (by omega)⟩) hS (fun z_82 locs hq_81 hS => ?_)
            refine W.eq (g2 := F0 m 104 ls [.int (iz z_82)]) rfl ?_
            try dsimp only at hq_81
            have hbr9 := wr_br_N wH hL h8 (hN p0 hp0.1 hp0.2) (show Ez ((p0 + 1).toNat) 10 = p0 by omega)
            rcases hq_81 with ⟨rfl, hq_81⟩ | ⟨rfl, hq_81⟩
            · skip
              refine ki_if_eq (tgt := 117) hx hb dX5_warnOf_104 (by decide) (by omega) (by omega) (fun c_83 => ?_) (fun c_83 => ?_)
              · omega
              · skip
                refine lv_aload_n hx hb dX5_warnOf_107 rfl (lv_at hl 2 rfl) ?_
                refine va_get (D := (dC, dI)) (ci := 5) (v := .ref (o 12)) (C := RX5) (T := TX5) (N := 16) hx hb hts kt_X5 hown hK hP 0 rfl rfl 12 (by decide) (kx_word hG kq_19_xouts_49 rfl) (fun _ h9 => h9) rfl dX5_warnOf_108 ?_
                refine lv_iconst (v := iz 3) hx hb dX5_warnOf_111 (by decide) ?_
                refine lv_iload_n hx hb dX5_warnOf_112 rfl (lv_at hl 3 rfl) ?_
                refine lv_iconst (v := iz 0) hx hb dX5_warnOf_113 (by decide) ?_
                have hxz_84 : -2147483648 ≤ zL38 17 ∧ zL38 17 < 2147483648 := hRLL38.1.2.2.2.1 17
                have hxz_85 : -2147483648 ≤ zL38 18 ∧ zL38 18 < 2147483648 := hRLL38.1.2.2.2.1 18
                have hxz_86 : -2147483648 ≤ zL38 19 ∧ zL38 19 < 2147483648 := hRLL38.1.2.2.2.1 19
                have hxz_87 : -2147483648 ≤ zL38 20 ∧ zL38 20 < 2147483648 := hRLL38.1.2.2.2.1 20
                have hxz_88 : -2147483648 ≤ zL38 21 ∧ zL38 21 < 2147483648 := hRLL38.1.2.2.2.1 21
                have hPc := hP.sub (ws' := (wU (o 12) (zL38 17) (zL38 18) (zL38 19) (zL38 20) (zL38 21))) [24] rfl
                have hDc := hD.sub (ws' := (wU (o 12) (zL38 17) (zL38 18) (zL38 19) (zL38 20) (zL38 21))) [24] (by decide) rfl
                have hFc := va_free (wc := (wU (o 12) (zL38 17) (zL38 18) (zL38 19) (zL38 20) (zL38 21))) hD hS hA [24] rfl
                refine xk_call (va_runV (As := [.int (iz 3), .int (iz p0), .int (iz 0)]) (rest := []) ⟨hx, hb, hml, hown, hts⟩ (x_tell2 l dC dI cI cB cE (o 12) (zL38 17) (zL38 18) (zL38 19) (zL38 20) (zL38 21) 3 p0 0 H.size (by omega) (by omega) (by omega) (by omega) (by omega) (by omega) (by omega) (by omega) (by omega) (by omega) (by omega) (by omega)) (cwV 3 hts (kx_gV kq_19_xouts_50 kq_19_xouts_51 kq_19_xouts_52 kq_19_xouts_53 kq_19_xouts_54 rfl) rfl rfl rfl (by decide +kernel) ⟨Nat.le_of_ble_eq_true rfl, Nat.le_of_ble_eq_true rfl⟩) ⟨kx_blind, va_recv hK hPc (ci := 4) (q0 := 0) rfl rfl, kx_give (ws := []) (tys := []) hPc hDc hK hG hZ hS hFc⟩ rfl rfl hl.1 rfl (lv_room (Nat.le_of_ble_eq_true rfl)) dX5_warnOf_114 ⟨show cv + 0 ≤ 100 from (by omega), show sv + 0 ≤ 42000 from (by omega)⟩) hS (fun q _ h => hFc q h) hFc (fun u dn_90 dm_91 t H locs ht hvm hq_89 hB hk1 hS => ?_)
                obtain ⟨z2_92, z3_93, z4_94, z5_95⟩ := u
                obtain ⟨hP1, hK1, hD1⟩ := hB
                rw [ht] at hP1
                obtain ⟨hP, hD⟩ := xj_pool (wr := [(o 15, .inr (5, [.ref (o 16), .ref (Eo 0 0), .int (iz (zL38 12)), .int (iz (zL38 13)), .int (iz (zL38 14)), .ref (o 0), .ref (o 1), .int (iz (zL38 15)), .ref (o 13), .ref (o 14), .int (iz (zL38 16)), .ref (o 2), .ref (o 12), .ref (o 3), .ref (o 10), .ref (o 11)])), (o 16, .inl (cE, 80, .inr (.inr (.inr (.inr G))))), (o 0, .inr (1, [.int (iz 80), .ref (rL38 0), .int (iz (zL38 0))])), (rL38 0, .inl (cI, nL38 0, .inl (iA (FL38 0)))), (o 1, .inr (1, [.int (iz 80), .ref (rL38 1), .int (iz (zL38 1))])), (rL38 1, .inl (cI, nL38 1, .inl (iA (FL38 1)))), (o 2, .inr (1, [.int (iz 80), .ref (rL38 2), .int (iz (zL38 2))])), (rL38 2, .inl (cI, nL38 2, .inl (iA (FL38 2)))), (o 3, .inr (1, [.int (iz 80), .ref (rL38 3), .int (iz (zL38 3))])), (rL38 3, .inl (cI, nL38 3, .inl (iA (FL38 3)))), (o 13, .inr (3, [.ref (o 4), .ref (o 5), .ref (o 6)])), (o 4, .inr (1, [.int (iz 1600), .ref (rL38 4), .int (iz (zL38 4))])), (rL38 4, .inl (cI, nL38 4, .inl (iA (FL38 4)))), (o 5, .inr (1, [.int (iz 1600), .ref (rL38 5), .int (iz (zL38 5))])), (rL38 5, .inl (cI, nL38 5, .inl (iA (FL38 5)))), (o 6, .inr (1, [.int (iz 1600), .ref (rL38 6), .int (iz (zL38 6))])), (rL38 6, .inl (cI, nL38 6, .inl (iA (FL38 6)))), (o 14, .inr (3, [.ref (o 7), .ref (o 8), .ref (o 9)])), (o 7, .inr (1, [.int (iz 1600), .ref (rL38 7), .int (iz (zL38 7))])), (rL38 7, .inl (cI, nL38 7, .inl (iA (FL38 7)))), (o 8, .inr (1, [.int (iz 1600), .ref (rL38 8), .int (iz (zL38 8))])), (rL38 8, .inl (cI, nL38 8, .inl (iA (FL38 8)))), (o 9, .inr (1, [.int (iz 1600), .ref (rL38 9), .int (iz (zL38 9))])), (rL38 9, .inl (cI, nL38 9, .inl (iA (FL38 9)))), (o 10, .inr (2, [.ref (rL38 10), .int (iz (zL38 10)), .int (iz (zL38 22))])), (rL38 10, .inl (cB, nL38 10, .inl (iA (FL38 10)))), (o 11, .inr (2, [.ref (rL38 11), .int (iz (zL38 11)), .int (iz (zL38 23))])), (rL38 11, .inl (cB, nL38 11, .inl (iA (FL38 11)))), (Eo ((p0 + 1).toNat) 0, .inr (0, [.int (iz (Ez ((p0 + 1).toNat) 7)), .int (iz (Ez ((p0 + 1).toNat) 8)), .ref (Eo ((p0 + 1).toNat) 1), .ref (Eo ((p0 + 1).toNat) 2), .ref (Eo ((p0 + 1).toNat) 3), .ref (Eo ((p0 + 1).toNat) 5), .ref (Eo ((p0 + 1).toNat) 4), .int (iz (Ez ((p0 + 1).toNat) 9)), .int (iz (Ez ((p0 + 1).toNat) 10)), .int (iz (Ez ((p0 + 1).toNat) 11)), .int (iz (Ez ((p0 + 1).toNat) 12)), .int (iz (Ez ((p0 + 1).toNat) 13))])), (Eo ((p0 + 1).toNat) 1, .inr (1, [.int (iz 20), .ref (Er ((p0 + 1).toNat) 0), .int (iz (Ez ((p0 + 1).toNat) 0))])), (Er ((p0 + 1).toNat) 0, .inl (cI, En ((p0 + 1).toNat) 0, .inl (iA (EF ((p0 + 1).toNat) 0)))), (Eo ((p0 + 1).toNat) 2, .inr (1, [.int (iz 20), .ref (Er ((p0 + 1).toNat) 1), .int (iz (Ez ((p0 + 1).toNat) 1))])), (Er ((p0 + 1).toNat) 1, .inl (cI, En ((p0 + 1).toNat) 1, .inl (iA (EF ((p0 + 1).toNat) 1)))), (Eo ((p0 + 1).toNat) 3, .inr (1, [.int (iz 40), .ref (Er ((p0 + 1).toNat) 2), .int (iz (Ez ((p0 + 1).toNat) 2))])), (Er ((p0 + 1).toNat) 2, .inl (cI, En ((p0 + 1).toNat) 2, .inl (iA (EF ((p0 + 1).toNat) 2)))), (Eo ((p0 + 1).toNat) 4, .inr (1, [.int (iz 5), .ref (Er ((p0 + 1).toNat) 3), .int (iz (Ez ((p0 + 1).toNat) 3))])), (Er ((p0 + 1).toNat) 3, .inl (cI, En ((p0 + 1).toNat) 3, .inl (iA (EF ((p0 + 1).toNat) 3)))), (Eo ((p0 + 1).toNat) 5, .inr (3, [.ref (Eo ((p0 + 1).toNat) 6), .ref (Eo ((p0 + 1).toNat) 7), .ref (Eo ((p0 + 1).toNat) 8)])), (Eo ((p0 + 1).toNat) 6, .inr (1, [.int (iz 20), .ref (Er ((p0 + 1).toNat) 4), .int (iz (Ez ((p0 + 1).toNat) 4))])), (Er ((p0 + 1).toNat) 4, .inl (cI, En ((p0 + 1).toNat) 4, .inl (iA (EF ((p0 + 1).toNat) 4)))), (Eo ((p0 + 1).toNat) 7, .inr (1, [.int (iz 20), .ref (Er ((p0 + 1).toNat) 5), .int (iz (Ez ((p0 + 1).toNat) 5))])), (Er ((p0 + 1).toNat) 5, .inl (cI, En ((p0 + 1).toNat) 5, .inl (iA (EF ((p0 + 1).toNat) 5)))), (Eo ((p0 + 1).toNat) 8, .inr (1, [.int (iz 20), .ref (Er ((p0 + 1).toNat) 6), .int (iz (Ez ((p0 + 1).toNat) 6))])), (Er ((p0 + 1).toNat) 6, .inl (cI, En ((p0 + 1).toNat) 6, .inl (iA (EF ((p0 + 1).toNat) 6))))]) (w1 := (wU (o 12) (zL38 17) z2_92 z3_93 z4_94 z5_95)) (ws' := ((xU cI cB cE o rL38 nL38 (va_up (va_up (va_up (va_up zL38 18 z2_92) 19 z3_93) 20 z4_94) 21 z5_95) FL38 G (Eo 0 0)) ++ (eU cI (Eo ((p0 + 1).toNat)) (Er ((p0 + 1).toNat)) (En ((p0 + 1).toNat)) (Ez ((p0 + 1).toNat)) (EF ((p0 + 1).toNat))))) hP hD [24] [0, 1, 2, 3, 4, 5, 6, 7, 8, 9, 10, 11, 12, 13, 14, 15, 16, 17, 18, 19, 20, 21, 22, 23, 25, 26, 27, 28, 29, 30, 31, 32, 33, 34, 35, 36, 37, 38, 39, 40, 41, 42, 43, 44] [0, 1, 2, 3, 4, 5, 6, 7, 8, 9, 10, 11, 12, 13, 14, 15, 16, 17, 18, 19, 20, 21, 22, 23, 44, 24, 25, 26, 27, 28, 29, 30, 31, 32, 33, 34, 35, 36, 37, 38, 39, 40, 41, 42, 43] rfl rfl (by decide) (by decide) hk1 hFc hP1 hD1 rfl (by decide)
                refine W.eq (g2 := F0 m 117 ls []) rfl ?_
                try dsimp only at hq_89
                obtain ⟨hd96, hm96, hw96, hv96⟩ := hq_89
                subst hd96
                subst hm96
                rw [h17] at hv96
                have hbv96 : (-2147483648 ≤ z2_92 ∧ z2_92 < 2147483648) ∧ (-2147483648 ≤ z3_93 ∧ z3_93 < 2147483648) ∧ (-2147483648 ≤ z4_94 ∧ z4_94 < 2147483648) ∧ (-2147483648 ≤ z5_95 ∧ z5_95 < 2147483648) := by omega
                have hX96 := wr_X_tell hX hw96 hv96
                replace hv96 := fun (_ : Unit) => hv96
                have hP := eP_un0 hj4 hP
                have hD := eD_un0 hj4 hD
                have hok97 : xOk nL38 (va_up (va_up (va_up (va_up zL38 18 z2_92) 19 z3_93) 20 z4_94) 21 z5_95) FL38 := ((((hRLL38.1.s 18 (by decide) (show -2147483648 ≤ z2_92 ∧ z2_92 < 2147483648 by omega) (by omega)).s 19 (by decide) (show -2147483648 ≤ z3_93 ∧ z3_93 < 2147483648 by omega) (by omega)).s 20 (by decide) (show -2147483648 ≤ z4_94 ∧ z4_94 < 2147483648 by omega) (by omega)).s 21 (by decide) (show -2147483648 ≤ z5_95 ∧ z5_95 < 2147483648 by omega) (by omega))
                have hfr97 : xFr [17, 18, 19, 20, 21] [] z F (va_up (va_up (va_up (va_up zL38 18 z2_92) 19 z3_93) 20 z4_94) 21 z5_95) FL38 := ((((hRLL38.2.1.uz 18 (by decide) _).uz 19 (by decide) _).uz 20 (by decide) _).uz 21 (by decide) _)
                rw [← hQe]
                have hzo17 : (va_up (va_up (va_up (va_up zL38 18 z2_92) 19 z3_93) 20 z4_94) 21 z5_95) 17 = zL38 17 := rfl
                have hzo18 : (va_up (va_up (va_up (va_up zL38 18 z2_92) 19 z3_93) 20 z4_94) 21 z5_95) 18 = z2_92 := rfl
                have hzo19 : (va_up (va_up (va_up (va_up zL38 18 z2_92) 19 z3_93) 20 z4_94) 21 z5_95) 19 = z3_93 := rfl
                have hzo20 : (va_up (va_up (va_up (va_up zL38 18 z2_92) 19 z3_93) 20 z4_94) 21 z5_95) 20 = z4_94 := rfl
                have hzo21 : (va_up (va_up (va_up (va_up zL38 18 z2_92) 19 z3_93) 20 z4_94) 21 z5_95) 21 = z5_95 := rfl
                exact xk_vret (ov := (fun _ : (Nat → Nat) × (Nat → Nat) × (Nat → Int) × (Nat → Int → Int) × (Nat → Nat → Nat) × (Nat → Nat → Nat) × (Nat → Nat → Int) × (Nat → Nat → Int → Int) => none)) (post := (fun (u : (Nat → Nat) × (Nat → Nat) × (Nat → Int) × (Nat → Int → Int) × (Nat → Nat → Nat) × (Nat → Nat → Nat) × (Nat → Nat → Int) × (Nat → Nat → Int → Int)) (dn dm : Nat) => match u with | (r', n', z', F', Er', En', Ez', EF') => xR [17, 18, 19, 20, 21] [] [] [] N z F En Ez EF n' z' F' En' Ez' EF' ∧ (dn + xg n' ≤ xg n + 0 ∧ dm + xp n' ≤ xp n + 0) ∧ (z' 17 = z 17 ∧ (z 18 ≤ z' 18 ∧ z' 18 ≤ z 18 + 7) ∧ wr_X (z 17) (wr_e (z 12) lv ab (rs_sE Ez) pg sn op se p0) (z 18) (z 19) (z 20) (z 21) (z' 18) (z' 19) (z' 20) (z' 21) ∧ Er = Er' ∧ En = En' ∧ Ez = Ez' ∧ EF = EF'))) (ws := (fun u : (Nat → Nat) × (Nat → Nat) × (Nat → Int) × (Nat → Int → Int) × (Nat → Nat → Nat) × (Nat → Nat → Nat) × (Nat → Nat → Int) × (Nat → Nat → Int → Int) => match u with | (r', n', z', F', Er', En', Ez', EF') => (xU cI cB cE o r' n' z' F' G (Eo 0 0) ++ eP cI N Eo Er' En' Ez' EF'))) (tys := xT cI cB cE) (rL38, nL38, (va_up (va_up (va_up (va_up zL38 18 z2_92) 19 z3_93) 20 z4_94) 21 z5_95), FL38, Er, En, Ez, EF) hx hb hr hlocks rfl hP hD hK hS dX5_warnOf_117 (fun dn dm hdn hdm => ⟨⟨hok97, hfr97, hRLL38.2.2.1, hRLL38.2.2.2⟩, ⟨by omega, by omega⟩, ⟨by omega, by omega, (by first | exact wr_X_eq hX96 (wr_e_p (show sn p0 = k by omega) (hbr9.mp hq_81)) | (rw [hzo18, hzo19, hzo20, hzo21]; exact wr_X_eq hX96 (wr_e_p (show sn p0 = k by omega) (hbr9.mp hq_81)))), rfl, rfl, rfl, rfl⟩⟩) (by omega) (by omega)
            · skip
              refine ki_if_eq (tgt := 117) hx hb dX5_warnOf_104 (by decide) (by omega) (by omega) (fun c_98 => ?_) (fun c_98 => ?_)
              · skip
                have hP := eP_un0 hj4 hP
                have hD := eD_un0 hj4 hD
                rw [← hQe]
                have hzo17 : zL38 17 = zL38 17 := rfl
                have hzo18 : zL38 18 = zL38 18 := rfl
                have hzo19 : zL38 19 = zL38 19 := rfl
                have hzo20 : zL38 20 = zL38 20 := rfl
                have hzo21 : zL38 21 = zL38 21 := rfl
                exact xk_vret (ov := (fun _ : (Nat → Nat) × (Nat → Nat) × (Nat → Int) × (Nat → Int → Int) × (Nat → Nat → Nat) × (Nat → Nat → Nat) × (Nat → Nat → Int) × (Nat → Nat → Int → Int) => none)) (post := (fun (u : (Nat → Nat) × (Nat → Nat) × (Nat → Int) × (Nat → Int → Int) × (Nat → Nat → Nat) × (Nat → Nat → Nat) × (Nat → Nat → Int) × (Nat → Nat → Int → Int)) (dn dm : Nat) => match u with | (r', n', z', F', Er', En', Ez', EF') => xR [17, 18, 19, 20, 21] [] [] [] N z F En Ez EF n' z' F' En' Ez' EF' ∧ (dn + xg n' ≤ xg n + 0 ∧ dm + xp n' ≤ xp n + 0) ∧ (z' 17 = z 17 ∧ (z 18 ≤ z' 18 ∧ z' 18 ≤ z 18 + 7) ∧ wr_X (z 17) (wr_e (z 12) lv ab (rs_sE Ez) pg sn op se p0) (z 18) (z 19) (z 20) (z 21) (z' 18) (z' 19) (z' 20) (z' 21) ∧ Er = Er' ∧ En = En' ∧ Ez = Ez' ∧ EF = EF'))) (ws := (fun u : (Nat → Nat) × (Nat → Nat) × (Nat → Int) × (Nat → Int → Int) × (Nat → Nat → Nat) × (Nat → Nat → Nat) × (Nat → Nat → Int) × (Nat → Nat → Int → Int) => match u with | (r', n', z', F', Er', En', Ez', EF') => (xU cI cB cE o r' n' z' F' G (Eo 0 0) ++ eP cI N Eo Er' En' Ez' EF'))) (tys := xT cI cB cE) (rL38, nL38, zL38, FL38, Er, En, Ez, EF) hx hb hr hlocks rfl hP hD hK hS dX5_warnOf_117 (fun dn dm hdn hdm => ⟨⟨hRLL38.1, hRLL38.2.1, hRLL38.2.2.1, hRLL38.2.2.2⟩, ⟨by omega, by omega⟩, ⟨by omega, by omega, (by first | exact wr_X_eq hX (wr_e_n (show sn p0 = k by omega) (fun h9 => hq_81 (hbr9.mpr h9))) | (rw [hzo18, hzo19, hzo20, hzo21]; exact wr_X_eq hX (wr_e_n (show sn p0 = k by omega) (fun h9 => hq_81 (hbr9.mpr h9))))), rfl, rfl, rfl, rfl⟩⟩) (by omega) (by omega)
              · omega
        · skip
          refine lv_aload_n hx hb dX5_warnOf_49 rfl (lv_at hl 1 rfl) ?_
          refine va_getN (D := (dC, dI)) (ci := 0) (v := .ref (Eo ((p0 + 1).toNat) 4)) (C := RX0) (T := TX0) (N := 12) hx hb hts kt_X0 hown hK hP 29 rfl rfl 6 (by decide) (va_Nw.use rfl (kx_nf hG kq_19_xouts_32)) (fun _ h9 => h9) rfl dX5_warnOf_50 ?_
          refine lv_iload_n hx hb dX5_warnOf_53 rfl (lv_at hl 0 rfl) ?_
          have hPc := hP.sub (ws' := (iU cI 5 (Eo ((p0 + 1).toNat) 4) (Er ((p0 + 1).toNat) 3) (En ((p0 + 1).toNat) 3) (Ez ((p0 + 1).toNat) 3) (EF ((p0 + 1).toNat) 3))) [36, 37] rfl
          refine xk_pure (va_runV (As := [.int (iz k)]) (rest := []) ⟨hx, hb, hml, hown, hts⟩ (x_get l dC dI cI cB cE 5 (Eo ((p0 + 1).toNat) 4) (Er ((p0 + 1).toNat) 3) (En ((p0 + 1).toNat) 3) (Ez ((p0 + 1).toNat) 3) (EF ((p0 + 1).toNat) 3) k H.size (by omega) ((hRLL38.2.2.1 ((p0 + 1).toNat) hj4).2.1 3) (by omega) (by omega)) (cwV 1 hts (kx_gV kq_18_xrows_41 kq_13_xints_4 kq_13_xints_5 kq_13_xints_6 kq_13_xints_7 rfl) rfl rfl rfl (by decide +kernel) ⟨Nat.le_of_ble_eq_true rfl, Nat.le_of_ble_eq_true rfl⟩) ⟨pPre_blind, va_recv hK hPc (ci := 1) (q0 := 0) rfl rfl, pPre_give hPc hK hG⟩ rfl rfl hl.1 rfl (lv_room (Nat.le_of_ble_eq_true rfl)) dX5_warnOf_54 ⟨show cv + 0 ≤ 100 from (by omega), show sv + 0 ≤ 42000 from (by omega)⟩) hS (fun z_100 locs hq_99 hS => ?_)
          refine W.eq (g2 := F0 m 57 ls [.int (iz z_100)]) rfl ?_
          try dsimp only at hq_99
          have hse9 := hwh3 k (by omega) (by omega)
          have ev_101 : z_100 = se p0 k := by omega
          subst ev_101
          refine W.eq (g2 := F0 m 57 ls [.int (iz (se p0 k))]) rfl ?_
          replace hq_99 := fun (_ : Unit) => hq_99
          refine lv_istore (lv' := [(4, .int (iz (se p0 k))), (3, .int (iz k)), (2, .ref (Eo ((p0 + 1).toNat) 0)), (0, .ref (o 15)), (1, .int (iz p0))]) hx hb dX5_warnOf_57 hl (by decide) rfl (fun ls hl => ?_)
          refine lv_aload_n hx hb dX5_warnOf_59 rfl (lv_at hl 3 rfl) ?_
          refine lv_aload_n hx hb dX5_warnOf_60 rfl (lv_at hl 3 rfl) ?_
          refine lv_iload hx hb dX5_warnOf_61 (lv_at hl 0 rfl) ?_
          have hP := eP_un0 hj4 hP
          have hD := eD_un0 hj4 hD
          have hxz_102 : -2147483648 ≤ zL38 12 ∧ zL38 12 < 2147483648 := hRLL38.1.2.2.2.1 12
          have hxG9 : xG N (zL38 12) G Eo := ⟨by omega, by omega, by omega, fun e9 h9 => hN4 e9 (by omega)⟩
          have hP : va_P (dC, dI) kxCl (xU cI cB cE o rL38 nL38 zL38 FL38 G (Eo 0 0) ++ eP cI N Eo Er En Ez EF) H := hP
          refine xk_pure (va_runV (As := [.int (iz (se p0 k))]) (rest := [.ref (o 15)]) ⟨hx, hb, hml, hown, hts⟩ (y_firstOf2 l dC dI cI cB cE o rL38 nL38 zL38 FL38 G N Eo Er En Ez EF (se p0 k) H.size hRLL38.1 hxG9 hRLL38.2.2.1 (by omega) (by omega)) (cwV 1 hts (kx_gV kq_18_xrows_15 kq_18_xrows_16 kq_18_xrows_17 kq_18_xrows_4 kq_18_xrows_18 rfl) rfl rfl rfl (by decide +kernel) ⟨Nat.le_of_ble_eq_true rfl, Nat.le_of_ble_eq_true rfl⟩) ⟨pPre_blind, va_recv hK hP (ci := 5) (q0 := 0) rfl rfl, pPre_give hP hK hG⟩ rfl rfl hl.1 rfl (lv_room (Nat.le_of_ble_eq_true rfl)) dX5_warnOf_63 ⟨show cv + 0 ≤ 100 from (by omega), show sv + 0 ≤ 42000 from (by omega)⟩) hS (fun z_104 locs hq_103 hS => ?_)
          refine W.eq (g2 := F0 m 66 ls [.int (iz z_104), .ref (o 15)]) rfl ?_
          try dsimp only at hq_103
          obtain ⟨hq_103, hq_103b⟩ := hq_103
          subst hq_103
          refine W.eq (g2 := F0 m 66 ls [.int (iz (rs_fo (zL38 12) Ez (se p0 k))), .ref (o 15)]) rfl ?_
          have hf9 := hs (se p0 k) (by omega) (by omega)
          have ef9 : rs_fo (zL38 12) Ez (se p0 k) = rs_sE Ez (se p0 k) := if_pos (by omega)
          rw [ef9]
          refine W.eq (g2 := F0 m 66 ls [.int (iz (rs_sE Ez (se p0 k))), .ref (o 15)]) rfl ?_
          have hnn9 := wr_np_N wH (hN (rs_sE Ez (se p0 k)) (by omega) (by omega))
          have hxG9 : xG N (zL38 12) G Eo := ⟨by omega, by omega, by omega, fun e9 h9 => hN4 e9 (by omega)⟩
          have hP : va_P (dC, dI) kxCl (xU cI cB cE o rL38 nL38 zL38 FL38 G (Eo 0 0) ++ eP cI N Eo Er En Ez EF) H := hP
          refine xk_pure (va_runV (As := [.int (iz (rs_sE Ez (se p0 k)))]) (rest := []) ⟨hx, hb, hml, hown, hts⟩ (y_known l dC dI cI cB cE o rL38 nL38 zL38 FL38 G N Eo Er En Ez EF (rs_sE Ez (se p0 k)) H.size hRLL38.1 hxG9 hRLL38.2.2.1 (by omega) (by omega)) (cwV 1 hts (kx_gV kq_18_xrows_8 kq_18_xrows_9 kq_18_xrows_10 kq_18_xrows_4 kq_18_xrows_11 rfl) rfl rfl rfl (by decide +kernel) ⟨Nat.le_of_ble_eq_true rfl, Nat.le_of_ble_eq_true rfl⟩) ⟨pPre_blind, va_recv hK hP (ci := 5) (q0 := 0) rfl rfl, pPre_give hP hK hG⟩ rfl rfl hl.1 rfl (lv_room (Nat.le_of_ble_eq_true rfl)) dX5_warnOf_66 ⟨show cv + 0 ≤ 100 from (by omega), show sv + 0 ≤ 42000 from (by omega)⟩) hS (fun z_106 locs hq_105 hS => ?_)
          refine W.eq (g2 := F0 m 69 ls [.ref z_106.toNat]) rfl ?_
          try dsimp only at hq_105
          obtain ⟨j107, hj107, ez107, hje107⟩ := hq_105
          subst ez107
          refine W.eq (g2 := F0 m 69 ls [.ref (Eo j107 0)]) rfl ?_
          have ej107 : j107 = ((rs_sE Ez (se p0 k)) + 1).toNat := by omega
          subst ej107
          have hP := eP_foc hj107 hP
          have hD := eD_foc hj107 hD
          have hez_108 : -2147483648 ≤ Ez (((rs_sE Ez (se p0 k)) + 1).toNat) 11 ∧ Ez (((rs_sE Ez (se p0 k)) + 1).toNat) 11 < 2147483648 := (hRLL38.2.2.1 (((rs_sE Ez (se p0 k)) + 1).toNat) hj107).2.2 11
          refine va_getN (D := (dC, dI)) (ci := 0) (v := .int (iz (Ez (((rs_sE Ez (se p0 k)) + 1).toNat) 11))) (C := RX0) (T := TX0) (N := 12) hx hb hts kt_X0 hown hK hP 29 rfl rfl 9 (by decide) (va_Nw.use rfl (kx_nf hG kq_19_xouts_37)) (fun _ h9 => h9) rfl dX5_warnOf_69 ?_
          refine ki_if_ne (tgt := 86) hx hb dX5_warnOf_72 (by decide) (by omega) (by omega) (fun c_109 => ?_) (fun c_109 => ?_)
          · skip
            have hnp9 : ¬ wr_np (z 12) (rs_sE Ez) pg (rs_sE Ez (se p0 k)) := fun h9 => absurd (hnn9.mpr h9) (by omega)
            refine lv_iinc (v := iz (k + 1)) (lv' := [(3, .int (iz (k + 1))), (4, .int (iz (se p0 k))), (2, .ref (Eo ((p0 + 1).toNat) 0)), (0, .ref (o 15)), (1, .int (iz p0))]) hx hb dX5_warnOf_86 hl (k := 1) rfl (iz_add k 1) (by decide) rfl (fun ls hl => ?_)
            refine lv_goto (tgt := 38) hx hb dX5_warnOf_89 (by decide) ?_
            have hP := eP_un0 hj107 hP
            have hD := eD_un0 hj107 hD
            exact ih38 (k + 1) rL38 nL38 zL38 FL38 cv sv ⟨⟨hRLL38.1, hRLL38.2.1, hRLL38.2.2.1, hRLL38.2.2.2⟩, ⟨by omega, by omega⟩, (show zL38 12 = z 12 by omega), by omega, (show zL38 17 = z 17 by omega), (show z 18 ≤ zL38 18 ∧ zL38 18 ≤ z 18 + 1 + (k + 1) by omega), wr_X_eq hX (by rw [wr_s_n (by omega) hnp9])⟩ (by omega) _ _ hP hD hS ls (lv_sub hl [0, 2, 3, 4] rfl)
          · skip
            have hnp9 : wr_np (z 12) (rs_sE Ez) pg (rs_sE Ez (se p0 k)) := hnn9.mp (by omega)
            refine lv_aload_n hx hb dX5_warnOf_75 rfl (lv_at hl 3 rfl) ?_
            refine va_get (D := (dC, dI)) (ci := 5) (v := .ref (o 12)) (C := RX5) (T := TX5) (N := 16) hx hb hts kt_X5 hown hK hP 0 rfl rfl 12 (by decide) (kx_word hG kq_19_xouts_49 rfl) (fun _ h9 => h9) rfl dX5_warnOf_76 ?_
            refine lv_iconst (v := iz 2) hx hb dX5_warnOf_79 (by decide) ?_
            refine lv_iload_n hx hb dX5_warnOf_80 rfl (lv_at hl 4 rfl) ?_
            refine lv_iload hx hb dX5_warnOf_81 (lv_at hl 0 rfl) ?_
            have hxz_110 : -2147483648 ≤ zL38 17 ∧ zL38 17 < 2147483648 := hRLL38.1.2.2.2.1 17
            have hxz_111 : -2147483648 ≤ zL38 18 ∧ zL38 18 < 2147483648 := hRLL38.1.2.2.2.1 18
            have hxz_112 : -2147483648 ≤ zL38 19 ∧ zL38 19 < 2147483648 := hRLL38.1.2.2.2.1 19
            have hxz_113 : -2147483648 ≤ zL38 20 ∧ zL38 20 < 2147483648 := hRLL38.1.2.2.2.1 20
            have hxz_114 : -2147483648 ≤ zL38 21 ∧ zL38 21 < 2147483648 := hRLL38.1.2.2.2.1 21
            have hPc := hP.sub (ws' := (wU (o 12) (zL38 17) (zL38 18) (zL38 19) (zL38 20) (zL38 21))) [24] rfl
            have hDc := hD.sub (ws' := (wU (o 12) (zL38 17) (zL38 18) (zL38 19) (zL38 20) (zL38 21))) [24] (by decide) rfl
            have hFc := va_free (wc := (wU (o 12) (zL38 17) (zL38 18) (zL38 19) (zL38 20) (zL38 21))) hD hS hA [24] rfl
            refine xk_call (va_runV (As := [.int (iz 2), .int (iz p0), .int (iz (se p0 k))]) (rest := []) ⟨hx, hb, hml, hown, hts⟩ (x_tell2 l dC dI cI cB cE (o 12) (zL38 17) (zL38 18) (zL38 19) (zL38 20) (zL38 21) 2 p0 (se p0 k) H.size (by omega) (by omega) (by omega) (by omega) (by omega) (by omega) (by omega) (by omega) (by omega) (by omega) (by omega) (by omega)) (cwV 3 hts (kx_gV kq_19_xouts_50 kq_19_xouts_51 kq_19_xouts_52 kq_19_xouts_53 kq_19_xouts_54 rfl) rfl rfl rfl (by decide +kernel) ⟨Nat.le_of_ble_eq_true rfl, Nat.le_of_ble_eq_true rfl⟩) ⟨kx_blind, va_recv hK hPc (ci := 4) (q0 := 0) rfl rfl, kx_give (ws := []) (tys := []) hPc hDc hK hG hZ hS hFc⟩ rfl rfl hl.1 rfl (lv_room (Nat.le_of_ble_eq_true rfl)) dX5_warnOf_83 ⟨show cv + 0 ≤ 100 from (by omega), show sv + 0 ≤ 42000 from (by omega)⟩) hS (fun q _ h => hFc q h) hFc (fun u dn_116 dm_117 t H locs ht hvm hq_115 hB hk1 hS => ?_)
            obtain ⟨z2_118, z3_119, z4_120, z5_121⟩ := u
            obtain ⟨hP1, hK1, hD1⟩ := hB
            rw [ht] at hP1
            obtain ⟨hP, hD⟩ := xj_pool (wr := [(o 15, .inr (5, [.ref (o 16), .ref (Eo 0 0), .int (iz (zL38 12)), .int (iz (zL38 13)), .int (iz (zL38 14)), .ref (o 0), .ref (o 1), .int (iz (zL38 15)), .ref (o 13), .ref (o 14), .int (iz (zL38 16)), .ref (o 2), .ref (o 12), .ref (o 3), .ref (o 10), .ref (o 11)])), (o 16, .inl (cE, 80, .inr (.inr (.inr (.inr G))))), (o 0, .inr (1, [.int (iz 80), .ref (rL38 0), .int (iz (zL38 0))])), (rL38 0, .inl (cI, nL38 0, .inl (iA (FL38 0)))), (o 1, .inr (1, [.int (iz 80), .ref (rL38 1), .int (iz (zL38 1))])), (rL38 1, .inl (cI, nL38 1, .inl (iA (FL38 1)))), (o 2, .inr (1, [.int (iz 80), .ref (rL38 2), .int (iz (zL38 2))])), (rL38 2, .inl (cI, nL38 2, .inl (iA (FL38 2)))), (o 3, .inr (1, [.int (iz 80), .ref (rL38 3), .int (iz (zL38 3))])), (rL38 3, .inl (cI, nL38 3, .inl (iA (FL38 3)))), (o 13, .inr (3, [.ref (o 4), .ref (o 5), .ref (o 6)])), (o 4, .inr (1, [.int (iz 1600), .ref (rL38 4), .int (iz (zL38 4))])), (rL38 4, .inl (cI, nL38 4, .inl (iA (FL38 4)))), (o 5, .inr (1, [.int (iz 1600), .ref (rL38 5), .int (iz (zL38 5))])), (rL38 5, .inl (cI, nL38 5, .inl (iA (FL38 5)))), (o 6, .inr (1, [.int (iz 1600), .ref (rL38 6), .int (iz (zL38 6))])), (rL38 6, .inl (cI, nL38 6, .inl (iA (FL38 6)))), (o 14, .inr (3, [.ref (o 7), .ref (o 8), .ref (o 9)])), (o 7, .inr (1, [.int (iz 1600), .ref (rL38 7), .int (iz (zL38 7))])), (rL38 7, .inl (cI, nL38 7, .inl (iA (FL38 7)))), (o 8, .inr (1, [.int (iz 1600), .ref (rL38 8), .int (iz (zL38 8))])), (rL38 8, .inl (cI, nL38 8, .inl (iA (FL38 8)))), (o 9, .inr (1, [.int (iz 1600), .ref (rL38 9), .int (iz (zL38 9))])), (rL38 9, .inl (cI, nL38 9, .inl (iA (FL38 9)))), (o 10, .inr (2, [.ref (rL38 10), .int (iz (zL38 10)), .int (iz (zL38 22))])), (rL38 10, .inl (cB, nL38 10, .inl (iA (FL38 10)))), (o 11, .inr (2, [.ref (rL38 11), .int (iz (zL38 11)), .int (iz (zL38 23))])), (rL38 11, .inl (cB, nL38 11, .inl (iA (FL38 11)))), (Eo (((rs_sE Ez (se p0 k)) + 1).toNat) 0, .inr (0, [.int (iz (Ez (((rs_sE Ez (se p0 k)) + 1).toNat) 7)), .int (iz (Ez (((rs_sE Ez (se p0 k)) + 1).toNat) 8)), .ref (Eo (((rs_sE Ez (se p0 k)) + 1).toNat) 1), .ref (Eo (((rs_sE Ez (se p0 k)) + 1).toNat) 2), .ref (Eo (((rs_sE Ez (se p0 k)) + 1).toNat) 3), .ref (Eo (((rs_sE Ez (se p0 k)) + 1).toNat) 5), .ref (Eo (((rs_sE Ez (se p0 k)) + 1).toNat) 4), .int (iz (Ez (((rs_sE Ez (se p0 k)) + 1).toNat) 9)), .int (iz (Ez (((rs_sE Ez (se p0 k)) + 1).toNat) 10)), .int (iz (Ez (((rs_sE Ez (se p0 k)) + 1).toNat) 11)), .int (iz (Ez (((rs_sE Ez (se p0 k)) + 1).toNat) 12)), .int (iz (Ez (((rs_sE Ez (se p0 k)) + 1).toNat) 13))])), (Eo (((rs_sE Ez (se p0 k)) + 1).toNat) 1, .inr (1, [.int (iz 20), .ref (Er (((rs_sE Ez (se p0 k)) + 1).toNat) 0), .int (iz (Ez (((rs_sE Ez (se p0 k)) + 1).toNat) 0))])), (Er (((rs_sE Ez (se p0 k)) + 1).toNat) 0, .inl (cI, En (((rs_sE Ez (se p0 k)) + 1).toNat) 0, .inl (iA (EF (((rs_sE Ez (se p0 k)) + 1).toNat) 0)))), (Eo (((rs_sE Ez (se p0 k)) + 1).toNat) 2, .inr (1, [.int (iz 20), .ref (Er (((rs_sE Ez (se p0 k)) + 1).toNat) 1), .int (iz (Ez (((rs_sE Ez (se p0 k)) + 1).toNat) 1))])), (Er (((rs_sE Ez (se p0 k)) + 1).toNat) 1, .inl (cI, En (((rs_sE Ez (se p0 k)) + 1).toNat) 1, .inl (iA (EF (((rs_sE Ez (se p0 k)) + 1).toNat) 1)))), (Eo (((rs_sE Ez (se p0 k)) + 1).toNat) 3, .inr (1, [.int (iz 40), .ref (Er (((rs_sE Ez (se p0 k)) + 1).toNat) 2), .int (iz (Ez (((rs_sE Ez (se p0 k)) + 1).toNat) 2))])), (Er (((rs_sE Ez (se p0 k)) + 1).toNat) 2, .inl (cI, En (((rs_sE Ez (se p0 k)) + 1).toNat) 2, .inl (iA (EF (((rs_sE Ez (se p0 k)) + 1).toNat) 2)))), (Eo (((rs_sE Ez (se p0 k)) + 1).toNat) 4, .inr (1, [.int (iz 5), .ref (Er (((rs_sE Ez (se p0 k)) + 1).toNat) 3), .int (iz (Ez (((rs_sE Ez (se p0 k)) + 1).toNat) 3))])), (Er (((rs_sE Ez (se p0 k)) + 1).toNat) 3, .inl (cI, En (((rs_sE Ez (se p0 k)) + 1).toNat) 3, .inl (iA (EF (((rs_sE Ez (se p0 k)) + 1).toNat) 3)))), (Eo (((rs_sE Ez (se p0 k)) + 1).toNat) 5, .inr (3, [.ref (Eo (((rs_sE Ez (se p0 k)) + 1).toNat) 6), .ref (Eo (((rs_sE Ez (se p0 k)) + 1).toNat) 7), .ref (Eo (((rs_sE Ez (se p0 k)) + 1).toNat) 8)])), (Eo (((rs_sE Ez (se p0 k)) + 1).toNat) 6, .inr (1, [.int (iz 20), .ref (Er (((rs_sE Ez (se p0 k)) + 1).toNat) 4), .int (iz (Ez (((rs_sE Ez (se p0 k)) + 1).toNat) 4))])), (Er (((rs_sE Ez (se p0 k)) + 1).toNat) 4, .inl (cI, En (((rs_sE Ez (se p0 k)) + 1).toNat) 4, .inl (iA (EF (((rs_sE Ez (se p0 k)) + 1).toNat) 4)))), (Eo (((rs_sE Ez (se p0 k)) + 1).toNat) 7, .inr (1, [.int (iz 20), .ref (Er (((rs_sE Ez (se p0 k)) + 1).toNat) 5), .int (iz (Ez (((rs_sE Ez (se p0 k)) + 1).toNat) 5))])), (Er (((rs_sE Ez (se p0 k)) + 1).toNat) 5, .inl (cI, En (((rs_sE Ez (se p0 k)) + 1).toNat) 5, .inl (iA (EF (((rs_sE Ez (se p0 k)) + 1).toNat) 5)))), (Eo (((rs_sE Ez (se p0 k)) + 1).toNat) 8, .inr (1, [.int (iz 20), .ref (Er (((rs_sE Ez (se p0 k)) + 1).toNat) 6), .int (iz (Ez (((rs_sE Ez (se p0 k)) + 1).toNat) 6))])), (Er (((rs_sE Ez (se p0 k)) + 1).toNat) 6, .inl (cI, En (((rs_sE Ez (se p0 k)) + 1).toNat) 6, .inl (iA (EF (((rs_sE Ez (se p0 k)) + 1).toNat) 6))))]) (w1 := (wU (o 12) (zL38 17) z2_118 z3_119 z4_120 z5_121)) (ws' := ((xU cI cB cE o rL38 nL38 (va_up (va_up (va_up (va_up zL38 18 z2_118) 19 z3_119) 20 z4_120) 21 z5_121) FL38 G (Eo 0 0)) ++ (eU cI (Eo (((rs_sE Ez (se p0 k)) + 1).toNat)) (Er (((rs_sE Ez (se p0 k)) + 1).toNat)) (En (((rs_sE Ez (se p0 k)) + 1).toNat)) (Ez (((rs_sE Ez (se p0 k)) + 1).toNat)) (EF (((rs_sE Ez (se p0 k)) + 1).toNat))))) hP hD [24] [0, 1, 2, 3, 4, 5, 6, 7, 8, 9, 10, 11, 12, 13, 14, 15, 16, 17, 18, 19, 20, 21, 22, 23, 25, 26, 27, 28, 29, 30, 31, 32, 33, 34, 35, 36, 37, 38, 39, 40, 41, 42, 43, 44] [0, 1, 2, 3, 4, 5, 6, 7, 8, 9, 10, 11, 12, 13, 14, 15, 16, 17, 18, 19, 20, 21, 22, 23, 44, 24, 25, 26, 27, 28, 29, 30, 31, 32, 33, 34, 35, 36, 37, 38, 39, 40, 41, 42, 43] rfl rfl (by decide) (by decide) hk1 hFc hP1 hD1 rfl (by decide)
            refine W.eq (g2 := F0 m 86 ls []) rfl ?_
            try dsimp only at hq_115
            obtain ⟨hd122, hm122, hw122, hv122⟩ := hq_115
            subst hd122
            subst hm122
            rw [h17] at hv122
            have hbv122 : (-2147483648 ≤ z2_118 ∧ z2_118 < 2147483648) ∧ (-2147483648 ≤ z3_119 ∧ z3_119 < 2147483648) ∧ (-2147483648 ≤ z4_120 ∧ z4_120 < 2147483648) ∧ (-2147483648 ≤ z5_121 ∧ z5_121 < 2147483648) := by omega
            have hX122 := wr_X_tell hX hw122 hv122
            replace hv122 := fun (_ : Unit) => hv122
            refine lv_iinc (v := iz (k + 1)) (lv' := [(3, .int (iz (k + 1))), (4, .int (iz (se p0 k))), (2, .ref (Eo ((p0 + 1).toNat) 0)), (0, .ref (o 15)), (1, .int (iz p0))]) hx hb dX5_warnOf_86 hl (k := 1) rfl (iz_add k 1) (by decide) rfl (fun ls hl => ?_)
            refine lv_goto (tgt := 38) hx hb dX5_warnOf_89 (by decide) ?_
            have hP := eP_un0 hj107 hP
            have hD := eD_un0 hj107 hD
            have hok123 : xOk nL38 (va_up (va_up (va_up (va_up zL38 18 z2_118) 19 z3_119) 20 z4_120) 21 z5_121) FL38 := ((((hRLL38.1.s 18 (by decide) (show -2147483648 ≤ z2_118 ∧ z2_118 < 2147483648 by omega) (by omega)).s 19 (by decide) (show -2147483648 ≤ z3_119 ∧ z3_119 < 2147483648 by omega) (by omega)).s 20 (by decide) (show -2147483648 ≤ z4_120 ∧ z4_120 < 2147483648 by omega) (by omega)).s 21 (by decide) (show -2147483648 ≤ z5_121 ∧ z5_121 < 2147483648 by omega) (by omega))
            have hfr123 : xFr [17, 18, 19, 20, 21] [] z F (va_up (va_up (va_up (va_up zL38 18 z2_118) 19 z3_119) 20 z4_120) 21 z5_121) FL38 := ((((hRLL38.2.1.uz 18 (by decide) _).uz 19 (by decide) _).uz 20 (by decide) _).uz 21 (by decide) _)
            exact ih38 (k + 1) rL38 nL38 (va_up (va_up (va_up (va_up zL38 18 z2_118) 19 z3_119) 20 z4_120) 21 z5_121) FL38 (cv + 0) (sv + 0) ⟨⟨hok123, hfr123, hRLL38.2.2.1, hRLL38.2.2.2⟩, ⟨by omega, by omega⟩, (show zL38 12 = z 12 by omega), by omega, (show zL38 17 = z 17 by omega), (show z 18 ≤ z2_118 ∧ z2_118 ≤ z 18 + 1 + (k + 1) by omega), wr_X_eq hX122 (by rw [wr_s_p (by omega) hnp9, ← List.append_assoc])⟩ (by omega) _ _ hP hD hS ls (lv_sub hl [0, 2, 3, 4] rfl)
    exact lp38 _ 0 r n (va_up (va_up (va_up (va_up z 18 z2_69) 19 z3_70) 20 z4_71) 21 z5_72) F (0 + 0) (0 + 0) ⟨⟨hok74, hfr74, hPE, hef⟩, ⟨by omega, by omega⟩, (show z 12 = z 12 by omega), by omega, (show z 17 = z 17 by omega), (show z 18 ≤ z2_69 ∧ z2_69 ≤ z 18 + 1 + 0 by omega), wr_X_eq hX73 (by rw [wr_o_p (show 0 < op p0 by omega)]; rfl)⟩ (Nat.lt_succ_self _) _ _ hP hD hS ls (lv_sub hl [0, 1, 2, 3] rfl)
