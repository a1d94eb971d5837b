/-! the landed class: rows of numbers -/
theorem iz_nat (n : Nat) : Int32.ofNat n = iz (n : Int) := rfl
theorem iz_min {a b : Int} (a1 : -2147483648 ≤ a) (a2 : a < 2147483648) (b1 : -2147483648 ≤ b) (b2 : b < 2147483648) : (if iz b < iz a then iz b else iz a) = iz (min a b) := by
  by_cases h : b < a
  · rw [if_pos ((iz_lt b1 b2 a1 a2).mpr h), Int.min_eq_right (by omega)]
  · rw [if_neg (fun q => h ((iz_lt b1 b2 a1 a2).mp q)), Int.min_eq_left (by omega)]
section XA
variable {p : Program} {l : Launch} {e : Env} {R : Room} {s : State} {m : MethodId} {args : Array Value} {below : List Frame} {meth : Method} {c : Code} {H : Heap} {locs : List Loc} {cells slots : Nat} {Q : State → Prop} {cc : ByteArray} {pc : Nat} {ls : Array Slot} {rest : List Value} {D : va_G} {cl : List vw_C} {ws : va_W} {tys : List (ClassId × FieldType)} {a : Nat}
theorem xk_alen (hexec : p.tables.exec = Jvm.exec) (hb : c.code = cc) (hK : va_K D cl tys s) (hP : va_P D cl ws H) (q0 t0 : Nat) {cA : ClassId} {n : Nat} {x : (Nat → Int32) ⊕ ((Nat → Int64) ⊕ ((Nat → UInt32) ⊕ ((Nat → UInt64) ⊕ (Nat → Option Nat))))} (ha : ws[q0]? = some (a, .inl (cA, n, x))) {ty : FieldType} (ht : tys[t0]? = some (cA, ty)) (hdg : decode cc pc = .ok (.arraylength, 1))
    (kk : W p l e R s m args below meth c H locs cells slots Q (F0 m (pc + 1) ls (.int (iz (n : Int)) :: rest))) : W p l e R s m args below meth c H locs cells slots Q (F0 m pc ls (.ref a :: rest)) :=
  va_alen hexec hb hK hP q0 t0 ha ht (iz_nat n) hdg kk
end XA
theorem kq_13_xints_0 : (Cond.fieldLink RX1 13 "IndexSort$Ints" "size" "I") ∈ lw_tbl := by decide +kernel
theorem kq_13_xints_1 : (Cond.fieldLink RX1 17 "IndexSort$Ints" "limit" "I") ∈ lw_tbl := by decide +kernel
theorem kq_13_xints_2 : (Cond.fieldLink RX1 7 "IndexSort$Ints" "room" "[I") ∈ lw_tbl := by decide +kernel
theorem kq_13_xints_3 : (Cond.methodLink RX1 20 yX1_get) ∈ lw_tbl := by decide +kernel
theorem kq_13_xints_4 : (Cond.instanceMethod yX1_get) ∈ lw_tbl := by decide +kernel
theorem kq_13_xints_5 : (Cond.selects RX1 yX1_get yX1_get) ∈ lw_tbl := by decide +kernel
theorem kq_13_xints_6 : (Cond.initialized RX1) ∈ lw_tbl := by decide +kernel
theorem kq_13_xints_7 : (Cond.code yX1_get cX1_get 2 (some .int)) ∈ lw_tbl := by decide +kernel
theorem kq_13_xints_8 : (Cond.methodLink RX1 24 yX1_set) ∈ lw_tbl := by decide +kernel
theorem kq_13_xints_9 : (Cond.instanceMethod yX1_set) ∈ lw_tbl := by decide +kernel
theorem kq_13_xints_10 : (Cond.selects RX1 yX1_set yX1_set) ∈ lw_tbl := by decide +kernel
theorem kq_13_xints_11 : (Cond.code yX1_set cX1_set 3 none) ∈ lw_tbl := by decide +kernel
set_option maxHeartbeats 4000000 in
set_option maxRecDepth 100000 in
theorem x_size (l : Launch) (dC : Nat → ClassId) (dI : Nat → Nat → Nat) (cI cB cE : ClassId) (L : Int) (o : Nat) (r : Nat) (n : Nat) (z : Int) (F : Int → Int) (sz : Nat) : Met l yX1_size [.code yX1_size cX1_size 1 (some .int)] ({ frames := 0, cells := 0, slots := 0, locals := 0 }) (va_Pc [.ref o] (pPre dC dI (iU cI L o r n z F) (xT cI cB cE) sz)) (pQ (fun z => some (.int (iz z))) (fun (q : Int) => q = z)) 0 0 (fun _ => False) := by
  refine Met.ofW (cc := cX1_size) (maxL := 1) (ret := (some .int)) (by decide) rfl ?_
  intro p e s m args below meth c s₁ B hml hv
  obtain ⟨rfl, hsz, hP, hK, hG⟩ := hv
  have hx := B.exec
  have hb := B.bytes
  have hr := B.returns
  have hts := kx_hts (a := ([.ref o] : List Value).toArray) hG
  have hown : s.vm.findClass RX1 = some m.cls := findClass_of_methodNamed B.named
  have hlocks := B.notSynchronized
  subst hsz
  have hS : va_S (fun _ => False) s.heap s.heap [] := va_S.rf
  have hl := lv_entry ([.ref o]) (n := 1) (Nat.le_of_ble_eq_true rfl)
  rw [lg_entry_eq]
  generalize (lg_sl ([.ref o]) ++ List.replicate (1 - (lg_sl ([.ref o])).length) Slot.unset).toArray = ls at hl ⊢
  have hl : lv_has ls 1 [(0, .ref o)] := hl
  refine lv_aload_n hx hb dX1_size_0 rfl (lv_at hl 0 rfl) ?_
  refine va_get (D := (dC, dI)) (ci := 1) (v := .int (iz z)) (C := RX1) (T := TX1) (N := 3) hx hb hts kt_X1 hown hK hP 0 rfl rfl 2 (by decide) (kx_word hG kq_13_xints_0 rfl) (fun _ h9 => h9) rfl dX1_size_1 ?_
  exact xp_iret (z := z) hx hb hr rfl hlocks rfl hS.2.2 dX1_size_4 rfl
set_option maxHeartbeats 4000000 in
set_option maxRecDepth 100000 in
theorem x_isFull (l : Launch) (dC : Nat → ClassId) (dI : Nat → Nat → Nat) (cI cB cE : ClassId) (L : Int) (o : Nat) (r : Nat) (n : Nat) (z : Int) (F : Int → Int) (sz : Nat) (hok : 0 ≤ z ∧ z ≤ (n : Int) ∧ (n : Int) ≤ L ∧ L ≤ 1600) : Met l yX1_isFull [.code yX1_isFull cX1_isFull 1 (some .boolean)] ({ frames := 0, cells := 0, slots := 0, locals := 0 }) (va_Pc [.ref o] (pPre dC dI (iU cI L o r n z F) (xT cI cB cE) sz)) (pQ (fun z => some (.int (iz z))) (fun (q : Int) => (q = 1 ∧ L ≤ z) ∨ (q = 0 ∧ z < L))) 0 0 (fun _ => False) := by
  refine Met.ofW (cc := cX1_isFull) (maxL := 1) (ret := (some .boolean)) (by decide) rfl ?_
  intro p e s m args below meth c s₁ B hml hv
  obtain ⟨rfl, hsz, hP, hK, hG⟩ := hv
  have hx := B.exec
  have hb := B.bytes
  have hr := B.returns
  have hts := kx_hts (a := ([.ref o] : List Value).toArray) hG
  have hown : s.vm.findClass RX1 = some m.cls := findClass_of_methodNamed B.named
  have hlocks := B.notSynchronized
  subst hsz
  have hS : va_S (fun _ => False) s.heap s.heap [] := va_S.rf
  have hl := lv_entry ([.ref o]) (n := 1) (Nat.le_of_ble_eq_true rfl)
  rw [lg_entry_eq]
  generalize (lg_sl ([.ref o]) ++ List.replicate (1 - (lg_sl ([.ref o])).length) Slot.unset).toArray = ls at hl ⊢
  have hl : lv_has ls 1 [(0, .ref o)] := hl
  refine lv_aload_n hx hb dX1_isFull_0 rfl (lv_at hl 0 rfl) ?_
  refine va_get (D := (dC, dI)) (ci := 1) (v := .int (iz z)) (C := RX1) (T := TX1) (N := 3) hx hb hts kt_X1 hown hK hP 0 rfl rfl 2 (by decide) (kx_word hG kq_13_xints_0 rfl) (fun _ h9 => h9) rfl dX1_isFull_1 ?_
  refine lv_aload_n hx hb dX1_isFull_4 rfl (lv_at hl 0 rfl) ?_
  refine va_get (D := (dC, dI)) (ci := 1) (v := .int (iz L)) (C := RX1) (T := TX1) (N := 3) hx hb hts kt_X1 hown hK hP 0 rfl rfl 0 (by decide) (kx_word hG kq_13_xints_1 rfl) (fun _ h9 => h9) rfl dX1_isFull_5 ?_
  refine ki_icmp_lt (tgt := 15) hx hb dX1_isFull_8 (by decide) (by omega) (by omega) (by omega) (by omega) (fun c_1 => ?_) (fun c_1 => ?_)
  · skip
    refine lv_iconst (v := iz 0) hx hb dX1_isFull_15 (by decide) ?_
    exact xp_iret (z := 0) hx hb hr (mz_bool (by omega)).1 hlocks rfl hS.2.2 dX1_isFull_16 (by omega)
  · skip
    refine lv_iconst (v := iz 1) hx hb dX1_isFull_11 (by decide) ?_
    refine lv_goto (tgt := 16) hx hb dX1_isFull_12 (by decide) ?_
    exact xp_iret (z := 1) hx hb hr (mz_bool (by omega)).1 hlocks rfl hS.2.2 dX1_isFull_16 (by omega)
set_option maxHeartbeats 4000000 in
set_option maxRecDepth 100000 in
theorem x_get (l : Launch) (dC : Nat → ClassId) (dI : Nat → Nat → Nat) (cI cB cE : ClassId) (L : Int) (o : Nat) (r : Nat) (n : Nat) (z : Int) (F : Int → Int) (p0 : Int) (sz : Nat) (hok : 0 ≤ z ∧ z ≤ (n : Int) ∧ (n : Int) ≤ L ∧ L ≤ 1600) (hF : iB F) (hp01 : -2147483648 ≤ p0) (hp02 : p0 < 2147483648) : Met l yX1_get [.code yX1_get cX1_get 2 (some .int)] ({ frames := 0, cells := 0, slots := 0, locals := 0 }) (va_Pc [.ref o, .int (iz p0)] (pPre dC dI (iU cI L o r n z F) (xT cI cB cE) sz)) (pQ (fun z => some (.int (iz z))) (fun (q : Int) => ((0 ≤ p0 ∧ p0 < z ∧ q = F p0) ∨ (¬ (0 ≤ p0 ∧ p0 < z) ∧ q = 0)) ∧ -2147483648 ≤ q ∧ q < 2147483648)) 0 0 (fun _ => False) := by
  refine Met.ofW (cc := cX1_get) (maxL := 2) (ret := (some .int)) (by decide) rfl ?_
  intro p e s m args below meth c s₁ B hml hv
  obtain ⟨rfl, hsz, hP, hK, hG⟩ := hv
  have hx := B.exec
  have hb := B.bytes
  have hr := B.returns
  have hts := kx_hts (a := ([.ref o, .int (iz p0)] : List Value).toArray) hG
  have hown : s.vm.findClass RX1 = some m.cls := findClass_of_methodNamed B.named
  have hlocks := B.notSynchronized
  subst hsz
  have hS : va_S (fun _ => False) s.heap s.heap [] := va_S.rf
  have hl := lv_entry ([.ref o, .int (iz p0)]) (n := 2) (Nat.le_of_ble_eq_true rfl)
  rw [lg_entry_eq]
  generalize (lg_sl ([.ref o, .int (iz p0)]) ++ List.replicate (2 - (lg_sl ([.ref o, .int (iz p0)])).length) Slot.unset).toArray = ls at hl ⊢
  have hl : lv_has ls 2 [(0, .ref o), (1, .int (iz p0))] := hl
  refine lv_iload_n hx hb dX1_get_0 rfl (lv_at hl 1 rfl) ?_
  refine ki_if_lt (tgt := 30) hx hb dX1_get_1 (by decide) (by omega) (by omega) (fun c_1 => ?_) (fun c_1 => ?_)
  · skip
    refine lv_iconst (v := iz 0) hx hb dX1_get_30 (by decide) ?_
    exact xp_iret (z := 0) hx hb hr rfl hlocks rfl hS.2.2 dX1_get_31 (by omega)
  · skip
    refine lv_iload_n hx hb dX1_get_4 rfl (lv_at hl 1 rfl) ?_
    refine lv_aload_n hx hb dX1_get_5 rfl (lv_at hl 0 rfl) ?_
    refine va_get (D := (dC, dI)) (ci := 1) (v := .int (iz z)) (C := RX1) (T := TX1) (N := 3) hx hb hts kt_X1 hown hK hP 0 rfl rfl 2 (by decide) (kx_word hG kq_13_xints_0 rfl) (fun _ h9 => h9) rfl dX1_get_6 ?_
    refine ki_icmp_ge (tgt := 30) hx hb dX1_get_9 (by decide) (by omega) (by omega) (by omega) (by omega) (fun c_2 => ?_) (fun c_2 => ?_)
    · skip
      refine lv_iconst (v := iz 0) hx hb dX1_get_30 (by decide) ?_
      exact xp_iret (z := 0) hx hb hr rfl hlocks rfl hS.2.2 dX1_get_31 (by omega)
    · skip
      refine lv_iload_n hx hb dX1_get_12 rfl (lv_at hl 1 rfl) ?_
      refine lv_aload_n hx hb dX1_get_13 rfl (lv_at hl 0 rfl) ?_
      refine va_get (D := (dC, dI)) (ci := 1) (v := .ref r) (C := RX1) (T := TX1) (N := 3) hx hb hts kt_X1 hown hK hP 0 rfl rfl 1 (by decide) (kx_word hG kq_13_xints_2 rfl) (fun _ h9 => h9) rfl dX1_get_14 ?_
      refine xk_alen hx hb hK hP 1 0 rfl rfl dX1_get_17 ?_
      refine ki_icmp_ge (tgt := 30) hx hb dX1_get_18 (by decide) (by omega) (by omega) (by omega) (by omega) (fun c_3 => ?_) (fun c_3 => ?_)
      · skip
        refine lv_iconst (v := iz 0) hx hb dX1_get_30 (by decide) ?_
        exact xp_iret (z := 0) hx hb hr rfl hlocks rfl hS.2.2 dX1_get_31 (by omega)
      · skip
        refine lv_aload_n hx hb dX1_get_21 rfl (lv_at hl 0 rfl) ?_
        refine va_get (D := (dC, dI)) (ci := 1) (v := .ref r) (C := RX1) (T := TX1) (N := 3) hx hb hts kt_X1 hown hK hP 0 rfl rfl 1 (by decide) (kx_word hG kq_13_xints_2 rfl) (fun _ h9 => h9) rfl dX1_get_22 ?_
        refine lv_iload_n hx hb dX1_get_25 rfl (lv_at hl 1 rfl) ?_
        refine ki_iald (F := F) hx hb hK hP 1 0 rfl rfl (by omega) (by omega) (by omega) dX1_get_26 ?_
        refine lv_goto (tgt := 31) hx hb dX1_get_27 (by decide) ?_
        exact xp_iret (z := F p0) hx hb hr rfl hlocks rfl hS.2.2 dX1_get_31 (⟨Or.inl ⟨by omega, by omega, rfl⟩, hF p0⟩)
set_option maxHeartbeats 4000000 in
set_option maxRecDepth 100000 in
theorem x_clear (l : Launch) (dC : Nat → ClassId) (dI : Nat → Nat → Nat) (cI cB cE : ClassId) (L : Int) (o : Nat) (r : Nat) (n : Nat) (z : Int) (F : Int → Int) (sz : Nat) : Met l yX1_clear [.code yX1_clear cX1_clear 1 none] ({ frames := 0, cells := 0, slots := 0, locals := 0 }) (va_Pc [.ref o] (kx_Pre dC dI (iU cI L o r n z F) (xT cI cB cE) sz)) (xQ (fun _ : Int => none) (fun (u : Int) (dn dm : Nat) => match u with | z' => dn = 0 ∧ dm = 0 ∧ 0 = z') (fun u t => kx_At dC dI (va_A (iU cI L o r n z F) sz) ((fun u : Int => match u with | z' => (iU cI L o r n z' F)) u) (xT cI cB cE) t) (va_A (iU cI L o r n z F) sz)) 0 0 (va_A (iU cI L o r n z F) sz) := by
  refine Met.ofW (cc := cX1_clear) (maxL := 1) (ret := none) (by decide) rfl ?_
  intro p e s m args below meth c s₁ B hml hv
  obtain ⟨rfl, hsz, hP, hK, hD0, hG, hZ⟩ := hv
  have hx := B.exec
  have hb := B.bytes
  have hr := B.returns
  have hts := kx_hts (a := ([.ref o] : List Value).toArray) hG
  have hown : s.vm.findClass RX1 = some m.cls := findClass_of_methodNamed B.named
  have hlocks := B.notSynchronized
  subst hsz
  have hD := hD0.self (sz := s.heap.size)
  generalize hAe : va_A (iU cI L o r n z F) s.heap.size = A at hD hZ ⊢
  have hA : ∀ q : Nat, s.heap.size ≤ q → A q := fun q h => by rw [← hAe]; exact Or.inr h
  have hS : va_S A s.heap s.heap [] := va_S.rf
  have hl := lv_entry ([.ref o]) (n := 1) (Nat.le_of_ble_eq_true rfl)
  rw [lg_entry_eq]
  generalize (lg_sl ([.ref o]) ++ List.replicate (1 - (lg_sl ([.ref o])).length) Slot.unset).toArray = ls at hl ⊢
  have hl : lv_has ls 1 [(0, .ref o)] := hl
  refine lv_aload_n hx hb dX1_clear_0 rfl (lv_at hl 0 rfl) ?_
  refine lv_iconst (v := iz 0) hx hb dX1_clear_1 (by decide) ?_
  refine va_put (D := (dC, dI)) (ci := 1) (v := .int (iz 0)) (ty := .int) (C := RX1) (T := TX1) (N := 3) hx hb hts kt_X1 tyX1 tyX1_ok nmX1 hown hK hP hD hS 0 rfl rfl 2 (by decide) (kx_word hG kq_13_xints_0 rfl) (fun _ h9 => h9) rfl (by decide +kernel) rfl rfl (Nat.le_of_ble_eq_true rfl) dX1_clear_2 (fun H locs hP hD hS => ?_)
  have hP : va_P (dC, dI) kxCl (iU cI L o r n 0 F) H := hP
  have hD : va_D A (iU cI L o r n 0 F) := hD
  exact xk_vret (ov := (fun _ : Int => none)) (post := (fun (u : Int) (dn dm : Nat) => match u with | z' => dn = 0 ∧ dm = 0 ∧ 0 = z')) (ws := (fun u : Int => match u with | z' => (iU cI L o r n z' F))) (tys := xT cI cB cE) 0 hx hb hr hlocks rfl hP hD hK hS dX1_clear_5 (fun dn dm hdn hdm => ⟨by omega, by omega, rfl⟩) (by omega) (by omega)
set_option maxHeartbeats 4000000 in
set_option maxRecDepth 100000 in
theorem x_set (l : Launch) (dC : Nat → ClassId) (dI : Nat → Nat → Nat) (cI cB cE : ClassId) (L : Int) (o : Nat) (r : Nat) (n : Nat) (z : Int) (F : Int → Int) (p0 : Int) (p1 : Int) (sz : Nat) (hok : 0 ≤ z ∧ z ≤ (n : Int) ∧ (n : Int) ≤ L ∧ L ≤ 1600) (hF : iB F) (hp01 : -2147483648 ≤ p0) (hp02 : p0 < 2147483648) (hp11 : -2147483648 ≤ p1) (hp12 : p1 < 2147483648) : Met l yX1_set [.code yX1_set cX1_set 3 none] ({ frames := 0, cells := 0, slots := 0, locals := 0 }) (va_Pc [.ref o, .int (iz p0), .int (iz p1)] (kx_Pre dC dI (iU cI L o r n z F) (xT cI cB cE) sz)) (xQ (fun _ : (Int → Int) => none) (fun (u : (Int → Int)) (dn dm : Nat) => match u with | F' => dn = 0 ∧ dm = 0 ∧ iB F') (fun u t => kx_At dC dI (va_A (iU cI L o r n z F) sz) ((fun u : (Int → Int) => match u with | F' => (iU cI L o r n z F')) u) (xT cI cB cE) t) (va_A (iU cI L o r n z F) sz)) 0 0 (va_A (iU cI L o r n z F) sz) := by
  refine Met.ofW (cc := cX1_set) (maxL := 3) (ret := none) (by decide) rfl ?_
  intro p e s m args below meth c s₁ B hml hv
  obtain ⟨rfl, hsz, hP, hK, hD0, hG, hZ⟩ := hv
  have hx := B.exec
  have hb := B.bytes
  have hr := B.returns
  have hts := kx_hts (a := ([.ref o, .int (iz p0), .int (iz p1)] : List Value).toArray) hG
  have hown : s.vm.findClass RX1 = some m.cls := findClass_of_methodNamed B.named
  have hlocks := B.notSynchronized
  subst hsz
  have hD := hD0.self (sz := s.heap.size)
  generalize hAe : va_A (iU cI L o r n z F) s.heap.size = A at hD hZ ⊢
  have hA : ∀ q : Nat, s.heap.size ≤ q → A q := fun q h => by rw [← hAe]; exact Or.inr h
  have hS : va_S A s.heap s.heap [] := va_S.rf
  have hl := lv_entry ([.ref o, .int (iz p0), .int (iz p1)]) (n := 3) (Nat.le_of_ble_eq_true rfl)
  rw [lg_entry_eq]
  generalize (lg_sl ([.ref o, .int (iz p0), .int (iz p1)]) ++ List.replicate (3 - (lg_sl ([.ref o, .int (iz p0), .int (iz p1)])).length) Slot.unset).toArray = ls at hl ⊢
  have hl : lv_has ls 3 [(0, .ref o), (1, .int (iz p0)), (2, .int (iz p1))] := hl
  refine lv_iload_n hx hb dX1_set_0 rfl (lv_at hl 1 rfl) ?_
  refine ki_if_lt (tgt := 28) hx hb dX1_set_1 (by decide) (by omega) (by omega) (fun c_1 => ?_) (fun c_1 => ?_)
  · skip
    exact xk_vret (ov := (fun _ : (Int → Int) => none)) (post := (fun (u : (Int → Int)) (dn dm : Nat) => match u with | F' => dn = 0 ∧ dm = 0 ∧ iB F')) (ws := (fun u : (Int → Int) => match u with | F' => (iU cI L o r n z F'))) (tys := xT cI cB cE) F hx hb hr hlocks rfl hP hD hK hS dX1_set_28 (fun dn dm hdn hdm => ⟨by omega, by omega, hF⟩) (by omega) (by omega)
  · skip
    refine lv_iload_n hx hb dX1_set_4 rfl (lv_at hl 1 rfl) ?_
    refine lv_aload_n hx hb dX1_set_5 rfl (lv_at hl 0 rfl) ?_
    refine va_get (D := (dC, dI)) (ci := 1) (v := .int (iz z)) (C := RX1) (T := TX1) (N := 3) hx hb hts kt_X1 hown hK hP 0 rfl rfl 2 (by decide) (kx_word hG kq_13_xints_0 rfl) (fun _ h9 => h9) rfl dX1_set_6 ?_
    refine ki_icmp_ge (tgt := 28) hx hb dX1_set_9 (by decide) (by omega) (by omega) (by omega) (by omega) (fun c_2 => ?_) (fun c_2 => ?_)
    · skip
      exact xk_vret (ov := (fun _ : (Int → Int) => none)) (post := (fun (u : (Int → Int)) (dn dm : Nat) => match u with | F' => dn = 0 ∧ dm = 0 ∧ iB F')) (ws := (fun u : (Int → Int) => match u with | F' => (iU cI L o r n z F'))) (tys := xT cI cB cE) F hx hb hr hlocks rfl hP hD hK hS dX1_set_28 (fun dn dm hdn hdm => ⟨by omega, by omega, hF⟩) (by omega) (by omega)
    · skip
      refine lv_iload_n hx hb dX1_set_12 rfl (lv_at hl 1 rfl) ?_
      refine lv_aload_n hx hb dX1_set_13 rfl (lv_at hl 0 rfl) ?_
      refine va_get (D := (dC, dI)) (ci := 1) (v := .ref r) (C := RX1) (T := TX1) (N := 3) hx hb hts kt_X1 hown hK hP 0 rfl rfl 1 (by decide) (kx_word hG kq_13_xints_2 rfl) (fun _ h9 => h9) rfl dX1_set_14 ?_
      refine xk_alen hx hb hK hP 1 0 rfl rfl dX1_set_17 ?_
      refine ki_icmp_ge (tgt := 28) hx hb dX1_set_18 (by decide) (by omega) (by omega) (by omega) (by omega) (fun c_3 => ?_) (fun c_3 => ?_)
      · skip
        exact xk_vret (ov := (fun _ : (Int → Int) => none)) (post := (fun (u : (Int → Int)) (dn dm : Nat) => match u with | F' => dn = 0 ∧ dm = 0 ∧ iB F')) (ws := (fun u : (Int → Int) => match u with | F' => (iU cI L o r n z F'))) (tys := xT cI cB cE) F hx hb hr hlocks rfl hP hD hK hS dX1_set_28 (fun dn dm hdn hdm => ⟨by omega, by omega, hF⟩) (by omega) (by omega)
      · skip
        refine lv_aload_n hx hb dX1_set_21 rfl (lv_at hl 0 rfl) ?_
        refine va_get (D := (dC, dI)) (ci := 1) (v := .ref r) (C := RX1) (T := TX1) (N := 3) hx hb hts kt_X1 hown hK hP 0 rfl rfl 1 (by decide) (kx_word hG kq_13_xints_2 rfl) (fun _ h9 => h9) rfl dX1_set_22 ?_
        refine lv_iload_n hx hb dX1_set_25 rfl (lv_at hl 1 rfl) ?_
        refine lv_iload_n hx hb dX1_set_26 rfl (lv_at hl 2 rfl) ?_
        refine ki_iast (F := F) hx hb hK hP hD hS 1 0 rfl rfl (by omega) (by omega) (by omega) dX1_set_27 (fun H locs hP hD hS => ?_)
        have hP : va_P (dC, dI) kxCl (iU cI L o r n z (upI F p0 p1)) H := hP
        have hD : va_D A (iU cI L o r n z (upI F p0 p1)) := hD
        exact xk_vret (ov := (fun _ : (Int → Int) => none)) (post := (fun (u : (Int → Int)) (dn dm : Nat) => match u with | F' => dn = 0 ∧ dm = 0 ∧ iB F')) (ws := (fun u : (Int → Int) => match u with | F' => (iU cI L o r n z F'))) (tys := xT cI cB cE) (upI F p0 p1) hx hb hr hlocks rfl hP hD hK hS dX1_set_28 (fun dn dm hdn hdm => ⟨by omega, by omega, iB_up hF _ (by omega) (by omega)⟩) (by omega) (by omega)
set_option maxHeartbeats 4000000 in
set_option maxRecDepth 100000 in
theorem x_swap (l : Launch) (dC : Nat → ClassId) (dI : Nat → Nat → Nat) (cI cB cE : ClassId) (L : Int) (o : Nat) (r : Nat) (n : Nat) (z : Int) (F : Int → Int) (p0 : Int) (p1 : Int) (sz : Nat) (hok : 0 ≤ z ∧ z ≤ (n : Int) ∧ (n : Int) ≤ L ∧ L ≤ 1600) (hF : iB F) (hp01 : -2147483648 ≤ p0) (hp02 : p0 < 2147483648) (hp11 : -2147483648 ≤ p1) (hp12 : p1 < 2147483648) : Met l yX1_swap [.code yX1_swap cX1_swap 4 none] ({ frames := 1, cells := 0, slots := 0, locals := 22 }) (va_Pc [.ref o, .int (iz p0), .int (iz p1)] (kx_Pre dC dI (iU cI L o r n z F) (xT cI cB cE) sz)) (xQ (fun _ : (Int → Int) => none) (fun (u : (Int → Int)) (dn dm : Nat) => match u with | F' => dn = 0 ∧ dm = 0 ∧ iB F') (fun u t => kx_At dC dI (va_A (iU cI L o r n z F) sz) ((fun u : (Int → Int) => match u with | F' => (iU cI L o r n z F')) u) (xT cI cB cE) t) (va_A (iU cI L o r n z F) sz)) 0 0 (va_A (iU cI L o r n z F) sz) := by
  refine Met.ofW (cc := cX1_swap) (maxL := 4) (ret := none) (by decide) rfl ?_
  intro p e s m args below meth c s₁ B hml hv
  obtain ⟨rfl, hsz, hP, hK, hD0, hG, hZ⟩ := hv
  have hx := B.exec
  have hb := B.bytes
  have hr := B.returns
  have hts := kx_hts (a := ([.ref o, .int (iz p0), .int (iz p1)] : List Value).toArray) hG
  have hown : s.vm.findClass RX1 = some m.cls := findClass_of_methodNamed B.named
  have hlocks := B.notSynchronized
  subst hsz
  have hD := hD0.self (sz := s.heap.size)
  generalize hAe : va_A (iU cI L o r n z F) s.heap.size = A at hD hZ ⊢
  have hA : ∀ q : Nat, s.heap.size ≤ q → A q := fun q h => by rw [← hAe]; exact Or.inr h
  have hS : va_S A s.heap s.heap [] := va_S.rf
  have hl := lv_entry ([.ref o, .int (iz p0), .int (iz p1)]) (n := 4) (Nat.le_of_ble_eq_true rfl)
  rw [lg_entry_eq]
  generalize (lg_sl ([.ref o, .int (iz p0), .int (iz p1)]) ++ List.replicate (4 - (lg_sl ([.ref o, .int (iz p0), .int (iz p1)])).length) Slot.unset).toArray = ls at hl ⊢
  have hl : lv_has ls 4 [(0, .ref o), (1, .int (iz p0)), (2, .int (iz p1))] := hl
  refine lv_aload_n hx hb dX1_swap_0 rfl (lv_at hl 0 rfl) ?_
  refine lv_iload_n hx hb dX1_swap_1 rfl (lv_at hl 1 rfl) ?_
  have hPc := hP.sub (ws' := (iU cI L o r n z F)) [0, 1] rfl
  refine xk_pure (va_runV (As := [.int (iz p0)]) (rest := []) ⟨hx, hb, hml, hown, hts⟩ (x_get l dC dI cI cB cE L o r n z F p0 s.heap.size hok hF (by omega) (by omega)) (cwV 1 hts (kx_gV kq_13_xints_3 kq_13_xints_4 kq_13_xints_5 kq_13_xints_6 kq_13_xints_7 rfl) rfl rfl rfl (by decide +kernel) ⟨Nat.le_of_ble_eq_true rfl, Nat.le_of_ble_eq_true rfl⟩) ⟨pPre_blind, va_recv hK hPc (ci := 1) (q0 := 0) rfl rfl, pPre_give hPc hK hG⟩ rfl rfl hl.1 rfl (lv_room (Nat.le_of_ble_eq_true rfl)) dX1_swap_2 ⟨show 0 + 0 ≤ 0 from (by omega), show 0 + 0 ≤ 0 from (by omega)⟩) hS (fun z_2 locs hq_1 hS => ?_)
  refine W.eq (g2 := F0 m 5 ls [.int (iz z_2)]) rfl ?_
  try dsimp only at hq_1
  refine lv_istore_n (lv' := [(3, .int (iz z_2)), (0, .ref o), (1, .int (iz p0)), (2, .int (iz p1))]) hx hb dX1_swap_5 rfl hl (by decide) rfl (fun ls hl => ?_)
  refine lv_aload_n hx hb dX1_swap_6 rfl (lv_at hl 1 rfl) ?_
  refine lv_iload_n hx hb dX1_swap_7 rfl (lv_at hl 2 rfl) ?_
  refine lv_aload_n hx hb dX1_swap_8 rfl (lv_at hl 1 rfl) ?_
  refine lv_iload_n hx hb dX1_swap_9 rfl (lv_at hl 3 rfl) ?_
  have hPc := hP.sub (ws' := (iU cI L o r n z F)) [0, 1] rfl
  refine xk_pure (va_runV (As := [.int (iz p1)]) (rest := [.int (iz p0), .ref o]) ⟨hx, hb, hml, hown, hts⟩ (x_get l dC dI cI cB cE L o r n z F p1 s.heap.size hok hF (by omega) (by omega)) (cwV 1 hts (kx_gV kq_13_xints_3 kq_13_xints_4 kq_13_xints_5 kq_13_xints_6 kq_13_xints_7 rfl) rfl rfl rfl (by decide +kernel) ⟨Nat.le_of_ble_eq_true rfl, Nat.le_of_ble_eq_true rfl⟩) ⟨pPre_blind, va_recv hK hPc (ci := 1) (q0 := 0) rfl rfl, pPre_give hPc hK hG⟩ rfl rfl hl.1 rfl (lv_room (Nat.le_of_ble_eq_true rfl)) dX1_swap_10 ⟨show 0 + 0 ≤ 0 from (by omega), show 0 + 0 ≤ 0 from (by omega)⟩) hS (fun z_4 locs hq_3 hS => ?_)
  refine W.eq (g2 := F0 m 13 ls [.int (iz z_4), .int (iz p0), .ref o]) rfl ?_
  try dsimp only at hq_3
  have hPc := hP.sub (ws' := (iU cI L o r n z F)) [0, 1] rfl
  have hDc := hD.sub (ws' := (iU cI L o r n z F)) [0, 1] (by decide) rfl
  have hFc := va_free (wc := (iU cI L o r n z F)) hD hS hA [0, 1] rfl
  refine xk_call (va_runV (As := [.int (iz p0), .int (iz z_4)]) (rest := []) ⟨hx, hb, hml, hown, hts⟩ (x_set l dC dI cI cB cE L o r n z F p0 z_4 s.heap.size hok hF (by omega) (by omega) (by omega) (by omega)) (cwV 2 hts (kx_gV kq_13_xints_8 kq_13_xints_9 kq_13_xints_10 kq_13_xints_6 kq_13_xints_11 rfl) rfl rfl rfl (by decide +kernel) ⟨Nat.le_of_ble_eq_true rfl, Nat.le_of_ble_eq_true rfl⟩) ⟨kx_blind, va_recv hK hPc (ci := 1) (q0 := 0) rfl rfl, kx_give (ws := []) (tys := []) hPc hDc hK hG hZ hS hFc⟩ rfl rfl hl.1 rfl (lv_room (Nat.le_of_ble_eq_true rfl)) dX1_swap_13 ⟨show 0 + 0 ≤ 0 from (by omega), show 0 + 0 ≤ 0 from (by omega)⟩) hS (fun q _ h => hFc q h) hFc (fun u dn_6 dm_7 t H locs ht hvm hq_5 hB hk1 hS => ?_)
  obtain ⟨F_8, rfl⟩ : ∃ z, z = u := ⟨_, rfl⟩
  obtain ⟨hP1, hK1, hD1⟩ := hB
  rw [ht] at hP1
  obtain ⟨hP, hD⟩ := xj (wr := []) (w1 := (iU cI L o r n z F_8)) (ws' := (iU cI L o r n z F_8)) hP hD [0, 1] [] [0, 1] rfl rfl (by decide) (by decide) hk1 hFc hP1 hD1 rfl (by decide)
  refine W.eq (g2 := F0 m 16 ls []) rfl ?_
  try dsimp only at hq_5
  obtain ⟨hd9, hm9, hF9⟩ := hq_5
  refine lv_aload_n hx hb dX1_swap_16 rfl (lv_at hl 1 rfl) ?_
  refine lv_iload_n hx hb dX1_swap_17 rfl (lv_at hl 3 rfl) ?_
  refine lv_iload_n hx hb dX1_swap_18 rfl (lv_at hl 0 rfl) ?_
  have hPc := hP.sub (ws' := (iU cI L o r n z F_8)) [0, 1] rfl
  have hDc := hD.sub (ws' := (iU cI L o r n z F_8)) [0, 1] (by decide) rfl
  have hFc := va_free (wc := (iU cI L o r n z F_8)) hD hS hA [0, 1] rfl
  refine xk_call (va_runV (As := [.int (iz p1), .int (iz z_2)]) (rest := []) ⟨hx, hb, hml, hown, hts⟩ (x_set l dC dI cI cB cE L o r n z F_8 p1 z_2 H.size hok hF9 (by omega) (by omega) (by omega) (by omega)) (cwV 2 hts (kx_gV kq_13_xints_8 kq_13_xints_9 kq_13_xints_10 kq_13_xints_6 kq_13_xints_11 rfl) rfl rfl rfl (by decide +kernel) ⟨Nat.le_of_ble_eq_true rfl, Nat.le_of_ble_eq_true rfl⟩) ⟨kx_blind, va_recv hK hPc (ci := 1) (q0 := 0) rfl rfl, kx_give (ws := []) (tys := []) hPc hDc hK hG hZ hS hFc⟩ rfl rfl hl.1 rfl (lv_room (Nat.le_of_ble_eq_true rfl)) dX1_swap_19 ⟨show (0 + dn_6) + 0 ≤ 0 from (by omega), show (0 + dm_7) + 0 ≤ 0 from (by omega)⟩) hS (fun q _ h => hFc q h) hFc (fun u dn_11 dm_12 t H locs ht hvm hq_10 hB hk1 hS => ?_)
  obtain ⟨F_13, rfl⟩ : ∃ z, z = u := ⟨_, rfl⟩
  obtain ⟨hP1, hK1, hD1⟩ := hB
  rw [ht] at hP1
  obtain ⟨hP, hD⟩ := xj (wr := []) (w1 := (iU cI L o r n z F_13)) (ws' := (iU cI L o r n z F_13)) hP hD [0, 1] [] [0, 1] rfl rfl (by decide) (by decide) hk1 hFc hP1 hD1 rfl (by decide)
  refine W.eq (g2 := F0 m 22 ls []) rfl ?_
  try dsimp only at hq_10
  obtain ⟨hd14, hm14, hF14⟩ := hq_10
  exact xk_vret (ov := (fun _ : (Int → Int) => none)) (post := (fun (u : (Int → Int)) (dn dm : Nat) => match u with | F' => dn = 0 ∧ dm = 0 ∧ iB F')) (ws := (fun u : (Int → Int) => match u with | F' => (iU cI L o r n z F'))) (tys := xT cI cB cE) F_13 hx hb hr hlocks rfl hP hD hK hS dX1_swap_22 (fun dn dm hdn hdm => ⟨by omega, by omega, hF14⟩) (by omega) (by omega)
set_option maxHeartbeats 4000000 in
set_option maxRecDepth 100000 in
theorem x_has (l : Launch) (dC : Nat → ClassId) (dI : Nat → Nat → Nat) (cI cB cE : ClassId) (L : Int) (o : Nat) (r : Nat) (n : Nat) (z : Int) (F : Int → Int) (p0 : Int) (sz : Nat) (hok : 0 ≤ z ∧ z ≤ (n : Int) ∧ (n : Int) ≤ L ∧ L ≤ 1600) (hF : iB F) (hp01 : -2147483648 ≤ p0) (hp02 : p0 < 2147483648) : Met l yX1_has [.code yX1_has cX1_has 3 (some .boolean)] ({ frames := 1, cells := 0, slots := 0, locals := 21 }) (va_Pc [.ref o, .int (iz p0)] (pPre dC dI (iU cI L o r n z F) (xT cI cB cE) sz)) (pQ (fun z => some (.int (iz z))) (fun (q : Int) => q = 0 ∨ q = 1)) 0 0 (fun _ => False) := by
  refine Met.ofW (cc := cX1_has) (maxL := 3) (ret := (some .boolean)) (by decide) rfl ?_
  intro p e s m args below meth c s₁ B hml hv
  obtain ⟨rfl, hsz, hP, hK, hG⟩ := hv
  have hx := B.exec
  have hb := B.bytes
  have hr := B.returns
  have hts := kx_hts (a := ([.ref o, .int (iz p0)] : List Value).toArray) hG
  have hown : s.vm.findClass RX1 = some m.cls := findClass_of_methodNamed B.named
  have hlocks := B.notSynchronized
  subst hsz
  have hS : va_S (fun _ => False) s.heap s.heap [] := va_S.rf
  have hl := lv_entry ([.ref o, .int (iz p0)]) (n := 3) (Nat.le_of_ble_eq_true rfl)
  rw [lg_entry_eq]
  generalize (lg_sl ([.ref o, .int (iz p0)]) ++ List.replicate (3 - (lg_sl ([.ref o, .int (iz p0)])).length) Slot.unset).toArray = ls at hl ⊢
  have hl : lv_has ls 3 [(0, .ref o), (1, .int (iz p0))] := hl
  generalize hQe : MQ below (pQ (fun z => some (.int (iz z))) (fun (q : Int) => q = 0 ∨ q = 1)) ([.ref o, .int (iz p0)] : List Value).toArray s 0 0 (fun _ => False) = QQ
  refine lv_iconst (v := iz 0) hx hb dX1_has_0 (by decide) ?_
  refine lv_istore_n (lv' := [(2, .int (iz 0)), (0, .ref o), (1, .int (iz p0))]) hx hb dX1_has_1 rfl hl (by decide) rfl (fun ls hl => ?_)
  have lp2 : ∀ (n0 : Nat) (k : Int), ((0 ≤ k ∧ k ≤ z)) → (z - k).toNat < n0 → ∀ (locs : List Loc), va_S (fun _ => False) s.heap s.heap locs → ∀ ls : Array Slot, lv_has ls 3 [(2, .int (iz k)), (0, .ref o), (1, .int (iz p0))] → W p l e (headSpec [.code yX1_has cX1_has 3 (some .boolean)] ({ frames := 1, cells := 0, slots := 0, locals := 21 })).room s m ([.ref o, .int (iz p0)] : List Value).toArray below meth c s.heap locs 0 0 QQ (F0 m 2 ls []) := by
    intro n0
    induction n0 with
    | zero => intro k hinv hm0; exact absurd hm0 (Nat.not_lt_zero _)
    | succ n0 ih2 =>
      intro k hinv hm0 locs hS ls hl
      have hk := hinv
      refine lv_iload_n hx hb dX1_has_2 rfl (lv_at hl 0 rfl) ?_
      refine lv_aload_n hx hb dX1_has_3 rfl (lv_at hl 1 rfl) ?_
      refine va_get (D := (dC, dI)) (ci := 1) (v := .int (iz z)) (C := RX1) (T := TX1) (N := 3) hx hb hts kt_X1 hown hK hP 0 rfl rfl 2 (by decide) (kx_word hG kq_13_xints_0 rfl) (fun _ h9 => h9) rfl dX1_has_4 ?_
      refine ki_icmp_ge (tgt := 27) hx hb dX1_has_7 (by decide) (by omega) (by omega) (by omega) (by omega) (fun c_1 => ?_) (fun c_1 => ?_)
      · skip
        refine lv_iconst (v := iz 0) hx hb dX1_has_27 (by decide) ?_
        rw [← hQe]
        exact xp_iret (z := 0) hx hb hr (mz_bool (by omega)).1 hlocks rfl hS.2.2 dX1_has_28 (by omega)
      · skip
        refine lv_aload_n hx hb dX1_has_10 rfl (lv_at hl 1 rfl) ?_
        refine lv_iload_n hx hb dX1_has_11 rfl (lv_at hl 0 rfl) ?_
        have hPc := hP.sub (ws' := (iU cI L o r n z F)) [0, 1] rfl
        refine xk_pure (va_runV (As := [.int (iz k)]) (rest := []) ⟨hx, hb, hml, hown, hts⟩ (x_get l dC dI cI cB cE L o r n z F k s.heap.size hok hF (by omega) (by omega)) (cwV 1 hts (kx_gV kq_13_xints_3 kq_13_xints_4 kq_13_xints_5 kq_13_xints_6 kq_13_xints_7 rfl) rfl rfl rfl (by decide +kernel) ⟨Nat.le_of_ble_eq_true rfl, Nat.le_of_ble_eq_true rfl⟩) ⟨pPre_blind, va_recv hK hPc (ci := 1) (q0 := 0) rfl rfl, pPre_give hPc hK hG⟩ rfl rfl hl.1 rfl (lv_room (Nat.le_of_ble_eq_true rfl)) dX1_has_12 ⟨Nat.le_of_ble_eq_true rfl, Nat.le_of_ble_eq_true rfl⟩) hS (fun z_3 locs hq_2 hS => ?_)
        refine W.eq (g2 := F0 m 15 ls [.int (iz z_3)]) rfl ?_
        try dsimp only at hq_2
        refine lv_iload_n hx hb dX1_has_15 rfl (lv_at hl 2 rfl) ?_
        refine ki_icmp_ne (tgt := 21) hx hb dX1_has_16 (by decide) (by omega) (by omega) (by omega) (by omega) (fun c_4 => ?_) (fun c_4 => ?_)
        · skip
          refine lv_iinc (v := iz (k + 1)) (lv' := [(2, .int (iz (k + 1))), (0, .ref o), (1, .int (iz p0))]) hx hb dX1_has_21 hl (k := 0) rfl (iz_add k 1) (by decide) rfl (fun ls hl => ?_)
          refine lv_goto (tgt := 2) hx hb dX1_has_24 (by decide) ?_
          exact ih2 (k + 1) (by omega) (by omega) _ hS ls (lv_sub hl [0, 1, 2] rfl)
        · skip
          refine lv_iconst (v := iz 1) hx hb dX1_has_19 (by decide) ?_
          rw [← hQe]
          exact xp_iret (z := 1) hx hb hr (mz_bool (by omega)).1 hlocks rfl hS.2.2 dX1_has_20 (by omega)
  exact lp2 _ 0 (by omega) (Nat.lt_succ_self _) _ hS ls (lv_sub hl [0, 1, 2] rfl)
set_option maxHeartbeats 4000000 in
set_option maxRecDepth 100000 in
theorem x_orderTo (l : Launch) (dC : Nat → ClassId) (dI : Nat → Nat → Nat) (cI cB cE : ClassId) (L : Int) (o : Nat) (r : Nat) (n : Nat) (z : Int) (F : Int → Int) (Lb : Int) (ob : Nat) (rb : Nat) (nb : Nat) (zb : Int) (Fb : Int → Int) (sz : Nat) (hok : 0 ≤ z ∧ z ≤ (n : Int) ∧ (n : Int) ≤ L ∧ L ≤ 1600) (hF : iB F) (hokb : 0 ≤ zb ∧ zb ≤ (nb : Int) ∧ (nb : Int) ≤ Lb ∧ Lb ≤ 1600) (hFb : iB Fb) : Met l yX1_orderTo [.code yX1_orderTo cX1_orderTo 5 (some .int)] ({ frames := 1, cells := 0, slots := 0, locals := 21 }) (va_Pc [.ref o, .ref ob] (pPre dC dI ((iU cI L o r n z F) ++ (iU cI Lb ob rb nb zb Fb)) (xT cI cB cE) sz)) (pQ (fun z => some (.int (iz z))) (fun (q : Int) => -1 ≤ q ∧ q ≤ 1)) 0 0 (fun _ => False) := by
  refine Met.ofW (cc := cX1_orderTo) (maxL := 5) (ret := (some .int)) (by decide) rfl ?_
  intro p e s m args below meth c s₁ B hml hv
  obtain ⟨rfl, hsz, hP, hK, hG⟩ := hv
  have hx := B.exec
  have hb := B.bytes
  have hr := B.returns
  have hts := kx_hts (a := ([.ref o, .ref ob] : List Value).toArray) hG
  have hown : s.vm.findClass RX1 = some m.cls := findClass_of_methodNamed B.named
  have hlocks := B.notSynchronized
  subst hsz
  have hS : va_S (fun _ => False) s.heap s.heap [] := va_S.rf
  have hl := lv_entry ([.ref o, .ref ob]) (n := 5) (Nat.le_of_ble_eq_true rfl)
  rw [lg_entry_eq]
  generalize (lg_sl ([.ref o, .ref ob]) ++ List.replicate (5 - (lg_sl ([.ref o, .ref ob])).length) Slot.unset).toArray = ls at hl ⊢
  have hl : lv_has ls 5 [(0, .ref o), (1, .ref ob)] := hl
  generalize hQe : MQ below (pQ (fun z => some (.int (iz z))) (fun (q : Int) => -1 ≤ q ∧ q ≤ 1)) ([.ref o, .ref ob] : List Value).toArray s 0 0 (fun _ => False) = QQ
  refine lv_iconst (v := iz 0) hx hb dX1_orderTo_0 (by decide) ?_
  refine lv_istore_n (lv' := [(2, .int (iz 0)), (0, .ref o), (1, .ref ob)]) hx hb dX1_orderTo_1 rfl hl (by decide) rfl (fun ls hl => ?_)
  have lp2 : ∀ (n0 : Nat) (k : Int), ((0 ≤ k ∧ k ≤ z)) → (z - k).toNat < n0 → ∀ (locs : List Loc), va_S (fun _ => False) s.heap s.heap locs → ∀ ls : Array Slot, lv_has ls 5 [(2, .int (iz k)), (0, .ref o), (1, .ref ob)] → W p l e (headSpec [.code yX1_orderTo cX1_orderTo 5 (some .int)] ({ frames := 1, cells := 0, slots := 0, locals := 21 })).room s m ([.ref o, .ref ob] : List Value).toArray below meth c s.heap locs 0 0 QQ (F0 m 2 ls []) := by
    intro n0
    induction n0 with
    | zero => intro k hinv hm0; exact absurd hm0 (Nat.not_lt_zero _)
    | succ n0 ih2 =>
      intro k hinv hm0 locs hS ls hl
      have hk := hinv
      refine lv_iload_n hx hb dX1_orderTo_2 rfl (lv_at hl 0 rfl) ?_
      refine lv_aload_n hx hb dX1_orderTo_3 rfl (lv_at hl 1 rfl) ?_
      refine va_get (D := (dC, dI)) (ci := 1) (v := .int (iz z)) (C := RX1) (T := TX1) (N := 3) hx hb hts kt_X1 hown hK hP 0 rfl rfl 2 (by decide) (kx_word hG kq_13_xints_0 rfl) (fun _ h9 => h9) rfl dX1_orderTo_4 ?_
      refine ki_icmp_ge (tgt := 55) hx hb dX1_orderTo_7 (by decide) (by omega) (by omega) (by omega) (by omega) (fun c_1 => ?_) (fun c_1 => ?_)
      · skip
        refine lv_aload_n hx hb dX1_orderTo_55 rfl (lv_at hl 1 rfl) ?_
        refine va_get (D := (dC, dI)) (ci := 1) (v := .int (iz z)) (C := RX1) (T := TX1) (N := 3) hx hb hts kt_X1 hown hK hP 0 rfl rfl 2 (by decide) (kx_word hG kq_13_xints_0 rfl) (fun _ h9 => h9) rfl dX1_orderTo_56 ?_
        refine lv_aload_n hx hb dX1_orderTo_59 rfl (lv_at hl 2 rfl) ?_
        refine va_get (D := (dC, dI)) (ci := 1) (v := .int (iz zb)) (C := RX1) (T := TX1) (N := 3) hx hb hts kt_X1 hown hK hP 2 rfl rfl 2 (by decide) (kx_word hG kq_13_xints_0 rfl) (fun _ h9 => h9) rfl dX1_orderTo_60 ?_
        refine ki_icmp_ne (tgt := 70) hx hb dX1_orderTo_63 (by decide) (by omega) (by omega) (by omega) (by omega) (fun c_2 => ?_) (fun c_2 => ?_)
        · skip
          refine lv_aload_n hx hb dX1_orderTo_70 rfl (lv_at hl 1 rfl) ?_
          refine va_get (D := (dC, dI)) (ci := 1) (v := .int (iz z)) (C := RX1) (T := TX1) (N := 3) hx hb hts kt_X1 hown hK hP 0 rfl rfl 2 (by decide) (kx_word hG kq_13_xints_0 rfl) (fun _ h9 => h9) rfl dX1_orderTo_71 ?_
          refine lv_aload_n hx hb dX1_orderTo_74 rfl (lv_at hl 2 rfl) ?_
          refine va_get (D := (dC, dI)) (ci := 1) (v := .int (iz zb)) (C := RX1) (T := TX1) (N := 3) hx hb hts kt_X1 hown hK hP 2 rfl rfl 2 (by decide) (kx_word hG kq_13_xints_0 rfl) (fun _ h9 => h9) rfl dX1_orderTo_75 ?_
          refine ki_icmp_ge (tgt := 85) hx hb dX1_orderTo_78 (by decide) (by omega) (by omega) (by omega) (by omega) (fun c_3 => ?_) (fun c_3 => ?_)
          · skip
            refine lv_iconst (v := iz 1) hx hb dX1_orderTo_85 (by decide) ?_
            rw [← hQe]
            exact xp_iret (z := 1) hx hb hr rfl hlocks rfl hS.2.2 dX1_orderTo_86 (by omega)
          · skip
            refine lv_iconst (v := iz (-1)) hx hb dX1_orderTo_81 (by decide) ?_
            refine lv_goto (tgt := 86) hx hb dX1_orderTo_82 (by decide) ?_
            rw [← hQe]
            exact xp_iret (z := (-1)) hx hb hr rfl hlocks rfl hS.2.2 dX1_orderTo_86 (by omega)
        · skip
          refine lv_iconst (v := iz 0) hx hb dX1_orderTo_66 (by decide) ?_
          refine lv_goto (tgt := 86) hx hb dX1_orderTo_67 (by decide) ?_
          rw [← hQe]
          exact xp_iret (z := 0) hx hb hr rfl hlocks rfl hS.2.2 dX1_orderTo_86 (by omega)
      · skip
        refine lv_iload_n hx hb dX1_orderTo_10 rfl (lv_at hl 0 rfl) ?_
        refine lv_aload_n hx hb dX1_orderTo_11 rfl (lv_at hl 2 rfl) ?_
        refine va_get (D := (dC, dI)) (ci := 1) (v := .int (iz zb)) (C := RX1) (T := TX1) (N := 3) hx hb hts kt_X1 hown hK hP 2 rfl rfl 2 (by decide) (kx_word hG kq_13_xints_0 rfl) (fun _ h9 => h9) rfl dX1_orderTo_12 ?_
        refine ki_icmp_ge (tgt := 55) hx hb dX1_orderTo_15 (by decide) (by omega) (by omega) (by omega) (by omega) (fun c_4 => ?_) (fun c_4 => ?_)
        · skip
          refine lv_aload_n hx hb dX1_orderTo_55 rfl (lv_at hl 1 rfl) ?_
          refine va_get (D := (dC, dI)) (ci := 1) (v := .int (iz z)) (C := RX1) (T := TX1) (N := 3) hx hb hts kt_X1 hown hK hP 0 rfl rfl 2 (by decide) (kx_word hG kq_13_xints_0 rfl) (fun _ h9 => h9) rfl dX1_orderTo_56 ?_
          refine lv_aload_n hx hb dX1_orderTo_59 rfl (lv_at hl 2 rfl) ?_
          refine va_get (D := (dC, dI)) (ci := 1) (v := .int (iz zb)) (C := RX1) (T := TX1) (N := 3) hx hb hts kt_X1 hown hK hP 2 rfl rfl 2 (by decide) (kx_word hG kq_13_xints_0 rfl) (fun _ h9 => h9) rfl dX1_orderTo_60 ?_
          refine ki_icmp_ne (tgt := 70) hx hb dX1_orderTo_63 (by decide) (by omega) (by omega) (by omega) (by omega) (fun c_5 => ?_) (fun c_5 => ?_)
          · skip
            refine lv_aload_n hx hb dX1_orderTo_70 rfl (lv_at hl 1 rfl) ?_
            refine va_get (D := (dC, dI)) (ci := 1) (v := .int (iz z)) (C := RX1) (T := TX1) (N := 3) hx hb hts kt_X1 hown hK hP 0 rfl rfl 2 (by decide) (kx_word hG kq_13_xints_0 rfl) (fun _ h9 => h9) rfl dX1_orderTo_71 ?_
            refine lv_aload_n hx hb dX1_orderTo_74 rfl (lv_at hl 2 rfl) ?_
            refine va_get (D := (dC, dI)) (ci := 1) (v := .int (iz zb)) (C := RX1) (T := TX1) (N := 3) hx hb hts kt_X1 hown hK hP 2 rfl rfl 2 (by decide) (kx_word hG kq_13_xints_0 rfl) (fun _ h9 => h9) rfl dX1_orderTo_75 ?_
            refine ki_icmp_ge (tgt := 85) hx hb dX1_orderTo_78 (by decide) (by omega) (by omega) (by omega) (by omega) (fun c_6 => ?_) (fun c_6 => ?_)
            · skip
              refine lv_iconst (v := iz 1) hx hb dX1_orderTo_85 (by decide) ?_
              rw [← hQe]
              exact xp_iret (z := 1) hx hb hr rfl hlocks rfl hS.2.2 dX1_orderTo_86 (by omega)
            · skip
              refine lv_iconst (v := iz (-1)) hx hb dX1_orderTo_81 (by decide) ?_
              refine lv_goto (tgt := 86) hx hb dX1_orderTo_82 (by decide) ?_
              rw [← hQe]
              exact xp_iret (z := (-1)) hx hb hr rfl hlocks rfl hS.2.2 dX1_orderTo_86 (by omega)
          · skip
            refine lv_iconst (v := iz 0) hx hb dX1_orderTo_66 (by decide) ?_
            refine lv_goto (tgt := 86) hx hb dX1_orderTo_67 (by decide) ?_
            rw [← hQe]
            exact xp_iret (z := 0) hx hb hr rfl hlocks rfl hS.2.2 dX1_orderTo_86 (by omega)
        · skip
          refine lv_aload_n hx hb dX1_orderTo_18 rfl (lv_at hl 1 rfl) ?_
          refine lv_iload_n hx hb dX1_orderTo_19 rfl (lv_at hl 0 rfl) ?_
          have hPc := hP.sub (ws' := (iU cI L o r n z F)) [0, 1] rfl
          refine xk_pure (va_runV (As := [.int (iz k)]) (rest := []) ⟨hx, hb, hml, hown, hts⟩ (x_get l dC dI cI cB cE L o r n z F k s.heap.size hok hF (by omega) (by omega)) (cwV 1 hts (kx_gV kq_13_xints_3 kq_13_xints_4 kq_13_xints_5 kq_13_xints_6 kq_13_xints_7 rfl) rfl rfl rfl (by decide +kernel) ⟨Nat.le_of_ble_eq_true rfl, Nat.le_of_ble_eq_true rfl⟩) ⟨pPre_blind, va_recv hK hPc (ci := 1) (q0 := 0) rfl rfl, pPre_give hPc hK hG⟩ rfl rfl hl.1 rfl (lv_room (Nat.le_of_ble_eq_true rfl)) dX1_orderTo_20 ⟨Nat.le_of_ble_eq_true rfl, Nat.le_of_ble_eq_true rfl⟩) hS (fun z_8 locs hq_7 hS => ?_)
          refine W.eq (g2 := F0 m 23 ls [.int (iz z_8)]) rfl ?_
          try dsimp only at hq_7
          refine lv_istore_n (lv' := [(3, .int (iz z_8)), (2, .int (iz k)), (0, .ref o), (1, .ref ob)]) hx hb dX1_orderTo_23 rfl hl (by decide) rfl (fun ls hl => ?_)
          refine lv_aload_n hx hb dX1_orderTo_24 rfl (lv_at hl 3 rfl) ?_
          refine lv_iload_n hx hb dX1_orderTo_25 rfl (lv_at hl 1 rfl) ?_
          have hPc := hP.sub (ws' := (iU cI Lb ob rb nb zb Fb)) [2, 3] rfl
          refine xk_pure (va_runV (As := [.int (iz k)]) (rest := []) ⟨hx, hb, hml, hown, hts⟩ (x_get l dC dI cI cB cE Lb ob rb nb zb Fb k s.heap.size hokb hFb (by omega) (by omega)) (cwV 1 hts (kx_gV kq_13_xints_3 kq_13_xints_4 kq_13_xints_5 kq_13_xints_6 kq_13_xints_7 rfl) rfl rfl rfl (by decide +kernel) ⟨Nat.le_of_ble_eq_true rfl, Nat.le_of_ble_eq_true rfl⟩) ⟨pPre_blind, va_recv hK hPc (ci := 1) (q0 := 0) rfl rfl, pPre_give hPc hK hG⟩ rfl rfl hl.1 rfl (lv_room (Nat.le_of_ble_eq_true rfl)) dX1_orderTo_26 ⟨Nat.le_of_ble_eq_true rfl, Nat.le_of_ble_eq_true rfl⟩) hS (fun z_10 locs hq_9 hS => ?_)
          refine W.eq (g2 := F0 m 29 ls [.int (iz z_10)]) rfl ?_
          try dsimp only at hq_9
          refine lv_istore (lv' := [(4, .int (iz z_10)), (3, .int (iz z_8)), (2, .int (iz k)), (0, .ref o), (1, .ref ob)]) hx hb dX1_orderTo_29 hl (by decide) rfl (fun ls hl => ?_)
          refine lv_iload_n hx hb dX1_orderTo_31 rfl (lv_at hl 1 rfl) ?_
          refine lv_iload hx hb dX1_orderTo_32 (lv_at hl 0 rfl) ?_
          refine ki_icmp_eq (tgt := 49) hx hb dX1_orderTo_34 (by decide) (by omega) (by omega) (by omega) (by omega) (fun c_11 => ?_) (fun c_11 => ?_)
          · skip
            refine lv_iinc (v := iz (k + 1)) (lv' := [(2, .int (iz (k + 1))), (4, .int (iz z_10)), (3, .int (iz z_8)), (0, .ref o), (1, .ref ob)]) hx hb dX1_orderTo_49 hl (k := 2) rfl (iz_add k 1) (by decide) rfl (fun ls hl => ?_)
            refine lv_goto (tgt := 2) hx hb dX1_orderTo_52 (by decide) ?_
            exact ih2 (k + 1) (by omega) (by omega) _ hS ls (lv_sub hl [0, 3, 4] rfl)
          · skip
            refine lv_iload_n hx hb dX1_orderTo_37 rfl (lv_at hl 1 rfl) ?_
            refine lv_iload hx hb dX1_orderTo_38 (lv_at hl 0 rfl) ?_
            refine ki_icmp_ge (tgt := 47) hx hb dX1_orderTo_40 (by decide) (by omega) (by omega) (by omega) (by omega) (fun c_12 => ?_) (fun c_12 => ?_)
            · skip
              refine lv_iconst (v := iz 1) hx hb dX1_orderTo_47 (by decide) ?_
              rw [← hQe]
              exact xp_iret (z := 1) hx hb hr rfl hlocks rfl hS.2.2 dX1_orderTo_48 (by omega)
            · skip
              refine lv_iconst (v := iz (-1)) hx hb dX1_orderTo_43 (by decide) ?_
              refine lv_goto (tgt := 48) hx hb dX1_orderTo_44 (by decide) ?_
              rw [← hQe]
              exact xp_iret (z := (-1)) hx hb hr rfl hlocks rfl hS.2.2 dX1_orderTo_48 (by omega)
  exact lp2 _ 0 (by omega) (Nat.lt_succ_self _) _ hS ls (lv_sub hl [0, 1, 2] rfl)
