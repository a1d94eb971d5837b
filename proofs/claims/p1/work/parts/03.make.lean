/-! the constructors of the landed class, as far as a fresh object's first call needs them -/
set_option maxHeartbeats 4000000 in
set_option maxRecDepth 100000 in
/-- Ints(limit): a row of no numbers -/
theorem c_Ints_init (l : Launch) (hlf : l.stackTraces = false) (dC : Nat → ClassId) (dI : Nat → Nat → Nat) (h0 : Nat) (lim : Int32) (sz : Nat) : Met l yX1_init [.code yX1_init cX1_init 2 none] ({ frames := 1, cells := 1, slots := 0, locals := 12 }) (va_Pc [.ref h0, .int lim] (kx_Pre dC dI [(h0, .inr (1, [.int 0, .null, .int 0]))] [] sz)) (va_Qv (fun u : Nat × ClassId => match u with | (q, cA) => True) (fun (u : Nat × ClassId) (t : State) => match u with | (q, cA) => kx_At dC dI (va_A [(h0, .inr (1, [.int 0, .null, .int 0]))] sz) [(h0, .inr (1, [.int lim, .ref q, .int 0])), (q, .inl (cA, 0, .inl (fun _ => 0)))] [(cA, .int)] t) (va_A [(h0, .inr (1, [.int 0, .null, .int 0]))] sz)) 1 0 (va_A [(h0, .inr (1, [.int 0, .null, .int 0]))] sz) := by
  refine Met.ofW (cc := cX1_init) (maxL := 2) (ret := none) (by decide) rfl ?_
  intro p e s m args below meth c s₁ B hml hv
  obtain ⟨rfl, hsz, hP, hK, hD0, hG, hZ⟩ := hv
  have hx := B.exec
  have hb := B.bytes
  have hr := B.returns
  have hts := kx_hts (a := #[.ref h0, .int lim]) hG
  have hown : s.vm.findClass RX1 = some m.cls := findClass_of_methodNamed B.named
  have hlocks := B.notSynchronized
  have hin : meth.name = "<init>" := (name_of_methodNamed B.named B.method).1
  subst hsz
  have hD := hD0.self (sz := s.heap.size)
  generalize hAe : va_A [(h0, .inr (1, [.int 0, .null, .int 0]))] s.heap.size = A at hD hZ ⊢
  have hA : ∀ q : Nat, s.heap.size ≤ q → A q := fun q h => by rw [← hAe]; exact Or.inr h
  have hS : va_S A s.heap s.heap [] := va_S.rf
  have hP : va_P (dC, dI) kxCl [(h0, .inr (1, [.int 0, .null, .int 0]))] s.heap := hP
  have hl := lv_entry ([.ref h0, .int lim]) (n := 2) (Nat.le_of_ble_eq_true rfl)
  rw [lg_entry_eq]
  generalize (lg_sl ([.ref h0, .int lim]) ++ List.replicate (2 - (lg_sl ([.ref h0, .int lim])).length) Slot.unset).toArray = ls at hl ⊢
  have hl : lv_has ls 2 [(0, .ref h0), (1, .int lim)] := hl
  refine lv_aload_n hx hb dX1_init_0 rfl (lv_at hl 0 rfl) ?_
  refine W.objInit hx hb hown (kx_word hG kq_0 rfl) (kx_word hG kq_1 rfl) (kx_word hG kq_2 rfl) rfl (by rw [hml]; exact hl.1) rfl dX1_init_1 (Nat.le_of_ble_eq_true rfl) (Nat.le_of_ble_eq_true rfl) ?_
  refine W.eq (g2 := F0 m 4 ls []) rfl ?_
  refine lv_aload_n hx hb dX1_init_4 rfl (lv_at hl 0 rfl) ?_
  refine lv_iconst (v := 0) hx hb dX1_init_5 (by decide) ?_
  refine va_newa (atype := .int) (ty := .int) (N' := 0) (a0 := (0, .inl (fun _ => 0))) hx hb (kx_word hG kq_3 rfl) rfl hK hP hD hS hA (fun _ => rfl) (by decide) (by decide) (by decide) (Nat.le_of_ble_eq_true rfl) (Nat.le_of_ble_eq_true rfl) dX1_init_6 (fun q_1 cA_2 H hK hP hD hS => ?_)
  have hP : va_P (dC, dI) kxCl [(h0, .inr (1, [.int 0, .null, .int 0])), (q_1, .inl (cA_2, 0, .inl (fun _ => 0)))] H := hP
  have hD : va_D A [(h0, .inr (1, [.int 0, .null, .int 0])), (q_1, .inl (cA_2, 0, .inl (fun _ => 0)))] := hD
  have hK : va_K (dC, dI) kxCl [(cA_2, .int)] s := hK
  refine W.widen (k := 1) (n := 0) (by omega) (by omega) ?_
  refine va_put (D := (dC, dI)) (ci := 1) (v := .ref q_1) (ty := .array .int) (C := RX1) (T := TX1) (N := 3) hx hb hts kt_X1 tyX1 tyX1_ok nmX1 hown hK hP hD hS 0 rfl rfl 1 (by decide) (kx_word hG kq_4 rfl) (fun _ h9 => h9) rfl (by decide +kernel) rfl rfl (Nat.le_of_ble_eq_true rfl) dX1_init_8 (fun H locs hP hD hS => ?_)
  have hP : va_P (dC, dI) kxCl [(h0, .inr (1, [.int 0, .ref q_1, .int 0])), (q_1, .inl (cA_2, 0, .inl (fun _ => 0)))] H := hP
  have hD : va_D A [(h0, .inr (1, [.int 0, .ref q_1, .int 0])), (q_1, .inl (cA_2, 0, .inl (fun _ => 0)))] := hD
  refine lv_aload_n hx hb dX1_init_11 rfl (lv_at hl 0 rfl) ?_
  refine lv_iconst (v := 0) hx hb dX1_init_12 (by decide) ?_
  refine va_put (D := (dC, dI)) (ci := 1) (v := .int 0) (ty := .int) (C := RX1) (T := TX1) (N := 3) hx hb hts kt_X1 tyX1 tyX1_ok nmX1 hown hK hP hD hS 0 rfl rfl 2 (by decide) (kx_word hG kq_5 rfl) (fun _ h9 => h9) rfl (by decide +kernel) rfl rfl (Nat.le_of_ble_eq_true rfl) dX1_init_13 (fun H locs hP hD hS => ?_)
  have hP : va_P (dC, dI) kxCl [(h0, .inr (1, [.int 0, .ref q_1, .int 0])), (q_1, .inl (cA_2, 0, .inl (fun _ => 0)))] H := hP
  have hD : va_D A [(h0, .inr (1, [.int 0, .ref q_1, .int 0])), (q_1, .inl (cA_2, 0, .inl (fun _ => 0)))] := hD
  refine lv_aload_n hx hb dX1_init_16 rfl (lv_at hl 0 rfl) ?_
  refine lv_iload_n hx hb dX1_init_17 rfl (lv_at hl 1 rfl) ?_
  refine va_putF (D := (dC, dI)) (ci := 1) (v := .int lim) (ty := .int) (C := RX1) (T := TX1) (N := 3) hx hb hts kt_X1 tyX1 tyX1_ok nmX1 hown hK hP hD hS 0 rfl rfl 0 (by decide) (kx_word hG kq_6 rfl) (fun _ h9 => h9) rfl hin rfl (by decide +kernel) rfl rfl (Nat.le_of_ble_eq_true rfl) dX1_init_18 (fun H locs hP hD hS => ?_)
  have hP : va_P (dC, dI) kxCl [(h0, .inr (1, [.int lim, .ref q_1, .int 0])), (q_1, .inl (cA_2, 0, .inl (fun _ => 0)))] H := hP
  have hD : va_D A [(h0, .inr (1, [.int lim, .ref q_1, .int 0])), (q_1, .inl (cA_2, 0, .inl (fun _ => 0)))] := hD
  have hP9 := hP.sub (ws' := [(h0, .inr (1, [.int lim, .ref q_1, .int 0])), (q_1, .inl (cA_2, 0, .inl (fun _ => 0)))]) [0, 1] rfl
  have hD9 := hD.sub (ws' := [(h0, .inr (1, [.int lim, .ref q_1, .int 0])), (q_1, .inl (cA_2, 0, .inl (fun _ => 0)))]) [0, 1] (by decide) rfl
  have hK9 := hK.sub (tys' := [(cA_2, .int)]) [0] rfl
  exact W.vret hx hb hr (fun t ht hW => ⟨⟨(q_1, cA_2), rfl, trivial, by rw [ht]; exact hP9, va_K.moved hW.alike hK9, hD9⟩, hS.F ht⟩) hS.2.2 dX1_init_21
set_option maxHeartbeats 4000000 in
set_option maxRecDepth 100000 in
/-- Warnings() -/
theorem c_Warnings_init (l : Launch) (hlf : l.stackTraces = false) (dC : Nat → ClassId) (dI : Nat → Nat → Nat) (h0 : Nat) (sz : Nat) : Met l yX4_init [.code yX4_init cX4_init 1 none] ({ frames := 1, cells := 0, slots := 0, locals := 12 }) (va_Pc [.ref h0] (kx_Pre dC dI [(h0, .inr (4, [.int 0, .int 0, .int 0, .int 0, .int 0]))] [] sz)) (va_Qv (fun u : Unit => match u with | _ => True) (fun (u : Unit) (t : State) => match u with | _ => kx_At dC dI (va_A [(h0, .inr (4, [.int 0, .int 0, .int 0, .int 0, .int 0]))] sz) [(h0, .inr (4, [.int (-1), .int 0, .int 0, .int 0, .int 0]))] [] t) (va_A [(h0, .inr (4, [.int 0, .int 0, .int 0, .int 0, .int 0]))] sz)) 0 0 (va_A [(h0, .inr (4, [.int 0, .int 0, .int 0, .int 0, .int 0]))] sz) := by
  refine Met.ofW (cc := cX4_init) (maxL := 1) (ret := none) (by decide) rfl ?_
  intro p e s m args below meth c s₁ B hml hv
  obtain ⟨rfl, hsz, hP, hK, hD0, hG, hZ⟩ := hv
  have hx := B.exec
  have hb := B.bytes
  have hr := B.returns
  have hts := kx_hts (a := #[.ref h0]) hG
  have hown : s.vm.findClass RX4 = some m.cls := findClass_of_methodNamed B.named
  have hlocks := B.notSynchronized
  have hin : meth.name = "<init>" := (name_of_methodNamed B.named B.method).1
  subst hsz
  have hD := hD0.self (sz := s.heap.size)
  generalize hAe : va_A [(h0, .inr (4, [.int 0, .int 0, .int 0, .int 0, .int 0]))] s.heap.size = A at hD hZ ⊢
  have hA : ∀ q : Nat, s.heap.size ≤ q → A q := fun q h => by rw [← hAe]; exact Or.inr h
  have hS : va_S A s.heap s.heap [] := va_S.rf
  have hP : va_P (dC, dI) kxCl [(h0, .inr (4, [.int 0, .int 0, .int 0, .int 0, .int 0]))] s.heap := hP
  have hl := lv_entry ([.ref h0]) (n := 1) (Nat.le_of_ble_eq_true rfl)
  rw [lg_entry_eq]
  generalize (lg_sl ([.ref h0]) ++ List.replicate (1 - (lg_sl ([.ref h0])).length) Slot.unset).toArray = ls at hl ⊢
  have hl : lv_has ls 1 [(0, .ref h0)] := hl
  refine lv_aload_n hx hb dX4_init_0 rfl (lv_at hl 0 rfl) ?_
  refine W.objInit hx hb hown (kx_word hG kq_7 rfl) (kx_word hG kq_1 rfl) (kx_word hG kq_2 rfl) rfl (by rw [hml]; exact hl.1) rfl dX4_init_1 (Nat.le_of_ble_eq_true rfl) (Nat.le_of_ble_eq_true rfl) ?_
  refine W.eq (g2 := F0 m 4 ls []) rfl ?_
  refine lv_aload_n hx hb dX4_init_4 rfl (lv_at hl 0 rfl) ?_
  refine lv_iconst (v := (-1)) hx hb dX4_init_5 (by decide) ?_
  refine va_put (D := (dC, dI)) (ci := 4) (v := .int (-1)) (ty := .int) (C := RX4) (T := TX4) (N := 5) hx hb hts kt_X4 tyX4 tyX4_ok nmX4 hown hK hP hD hS 0 rfl rfl 0 (by decide) (kx_word hG kq_8 rfl) (fun _ h9 => h9) rfl (by decide +kernel) rfl rfl (Nat.le_of_ble_eq_true rfl) dX4_init_6 (fun H locs hP hD hS => ?_)
  have hP : va_P (dC, dI) kxCl [(h0, .inr (4, [.int (-1), .int 0, .int 0, .int 0, .int 0]))] H := hP
  have hD : va_D A [(h0, .inr (4, [.int (-1), .int 0, .int 0, .int 0, .int 0]))] := hD
  refine lv_aload_n hx hb dX4_init_9 rfl (lv_at hl 0 rfl) ?_
  refine lv_iconst (v := 0) hx hb dX4_init_10 (by decide) ?_
  refine va_put (D := (dC, dI)) (ci := 4) (v := .int 0) (ty := .int) (C := RX4) (T := TX4) (N := 5) hx hb hts kt_X4 tyX4 tyX4_ok nmX4 hown hK hP hD hS 0 rfl rfl 1 (by decide) (kx_word hG kq_9 rfl) (fun _ h9 => h9) rfl (by decide +kernel) rfl rfl (Nat.le_of_ble_eq_true rfl) dX4_init_11 (fun H locs hP hD hS => ?_)
  have hP : va_P (dC, dI) kxCl [(h0, .inr (4, [.int (-1), .int 0, .int 0, .int 0, .int 0]))] H := hP
  have hD : va_D A [(h0, .inr (4, [.int (-1), .int 0, .int 0, .int 0, .int 0]))] := hD
  refine lv_aload_n hx hb dX4_init_14 rfl (lv_at hl 0 rfl) ?_
  refine lv_iconst (v := 0) hx hb dX4_init_15 (by decide) ?_
  refine va_put (D := (dC, dI)) (ci := 4) (v := .int 0) (ty := .int) (C := RX4) (T := TX4) (N := 5) hx hb hts kt_X4 tyX4 tyX4_ok nmX4 hown hK hP hD hS 0 rfl rfl 2 (by decide) (kx_word hG kq_10 rfl) (fun _ h9 => h9) rfl (by decide +kernel) rfl rfl (Nat.le_of_ble_eq_true rfl) dX4_init_16 (fun H locs hP hD hS => ?_)
  have hP : va_P (dC, dI) kxCl [(h0, .inr (4, [.int (-1), .int 0, .int 0, .int 0, .int 0]))] H := hP
  have hD : va_D A [(h0, .inr (4, [.int (-1), .int 0, .int 0, .int 0, .int 0]))] := hD
  refine lv_aload_n hx hb dX4_init_19 rfl (lv_at hl 0 rfl) ?_
  refine lv_iconst (v := 0) hx hb dX4_init_20 (by decide) ?_
  refine va_put (D := (dC, dI)) (ci := 4) (v := .int 0) (ty := .int) (C := RX4) (T := TX4) (N := 5) hx hb hts kt_X4 tyX4 tyX4_ok nmX4 hown hK hP hD hS 0 rfl rfl 3 (by decide) (kx_word hG kq_11 rfl) (fun _ h9 => h9) rfl (by decide +kernel) rfl rfl (Nat.le_of_ble_eq_true rfl) dX4_init_21 (fun H locs hP hD hS => ?_)
  have hP : va_P (dC, dI) kxCl [(h0, .inr (4, [.int (-1), .int 0, .int 0, .int 0, .int 0]))] H := hP
  have hD : va_D A [(h0, .inr (4, [.int (-1), .int 0, .int 0, .int 0, .int 0]))] := hD
  refine lv_aload_n hx hb dX4_init_24 rfl (lv_at hl 0 rfl) ?_
  refine lv_iconst (v := 0) hx hb dX4_init_25 (by decide) ?_
  refine va_put (D := (dC, dI)) (ci := 4) (v := .int 0) (ty := .int) (C := RX4) (T := TX4) (N := 5) hx hb hts kt_X4 tyX4 tyX4_ok nmX4 hown hK hP hD hS 0 rfl rfl 4 (by decide) (kx_word hG kq_12 rfl) (fun _ h9 => h9) rfl (by decide +kernel) rfl rfl (Nat.le_of_ble_eq_true rfl) dX4_init_26 (fun H locs hP hD hS => ?_)
  have hP : va_P (dC, dI) kxCl [(h0, .inr (4, [.int (-1), .int 0, .int 0, .int 0, .int 0]))] H := hP
  have hD : va_D A [(h0, .inr (4, [.int (-1), .int 0, .int 0, .int 0, .int 0]))] := hD
  have hP9 := hP.sub (ws' := [(h0, .inr (4, [.int (-1), .int 0, .int 0, .int 0, .int 0]))]) [0] rfl
  have hD9 := hD.sub (ws' := [(h0, .inr (4, [.int (-1), .int 0, .int 0, .int 0, .int 0]))]) [0] (by decide) rfl
  have hK9 := hK.sub (tys' := []) [] rfl
  exact W.vret hx hb hr (fun t ht hW => ⟨⟨(), rfl, trivial, by rw [ht]; exact hP9, va_K.moved hW.alike hK9, hD9⟩, hS.F ht⟩) hS.2.2 dX4_init_29
set_option maxHeartbeats 4000000 in
set_option maxRecDepth 100000 in
/-- Paper(): its bytes are let go here -/
theorem c_Paper_init (l : Launch) (hlf : l.stackTraces = false) (dC : Nat → ClassId) (dI : Nat → Nat → Nat) (h0 : Nat) (sz : Nat) : Met l yX2_init [.code yX2_init cX2_init 1 none] ({ frames := 1, cells := 1, slots := 0, locals := 12 }) (va_Pc [.ref h0] (kx_Pre dC dI [(h0, .inr (2, [.null, .int 0, .int 0]))] [] sz)) (va_Qv (fun u : Nat => match u with | q => True) (fun (u : Nat) (t : State) => match u with | q => kx_At dC dI (va_A [(h0, .inr (2, [.null, .int 0, .int 0]))] sz) [(h0, .inr (2, [.ref q, .int 0, .int 0]))] [] t) (va_A [(h0, .inr (2, [.null, .int 0, .int 0]))] sz)) 1 0 (va_A [(h0, .inr (2, [.null, .int 0, .int 0]))] sz) := by
  refine Met.ofW (cc := cX2_init) (maxL := 1) (ret := none) (by decide) rfl ?_
  intro p e s m args below meth c s₁ B hml hv
  obtain ⟨rfl, hsz, hP, hK, hD0, hG, hZ⟩ := hv
  have hx := B.exec
  have hb := B.bytes
  have hr := B.returns
  have hts := kx_hts (a := #[.ref h0]) hG
  have hown : s.vm.findClass RX2 = some m.cls := findClass_of_methodNamed B.named
  have hlocks := B.notSynchronized
  have hin : meth.name = "<init>" := (name_of_methodNamed B.named B.method).1
  subst hsz
  have hD := hD0.self (sz := s.heap.size)
  generalize hAe : va_A [(h0, .inr (2, [.null, .int 0, .int 0]))] s.heap.size = A at hD hZ ⊢
  have hA : ∀ q : Nat, s.heap.size ≤ q → A q := fun q h => by rw [← hAe]; exact Or.inr h
  have hS : va_S A s.heap s.heap [] := va_S.rf
  have hP : va_P (dC, dI) kxCl [(h0, .inr (2, [.null, .int 0, .int 0]))] s.heap := hP
  have hl := lv_entry ([.ref h0]) (n := 1) (Nat.le_of_ble_eq_true rfl)
  rw [lg_entry_eq]
  generalize (lg_sl ([.ref h0]) ++ List.replicate (1 - (lg_sl ([.ref h0])).length) Slot.unset).toArray = ls at hl ⊢
  have hl : lv_has ls 1 [(0, .ref h0)] := hl
  refine lv_aload_n hx hb dX2_init_0 rfl (lv_at hl 0 rfl) ?_
  refine W.objInit hx hb hown (kx_word hG kq_13 rfl) (kx_word hG kq_1 rfl) (kx_word hG kq_2 rfl) rfl (by rw [hml]; exact hl.1) rfl dX2_init_1 (Nat.le_of_ble_eq_true rfl) (Nat.le_of_ble_eq_true rfl) ?_
  refine W.eq (g2 := F0 m 4 ls []) rfl ?_
  refine lv_aload_n hx hb dX2_init_4 rfl (lv_at hl 0 rfl) ?_
  refine lv_iconst (v := 0) hx hb dX2_init_5 (by decide) ?_
  refine va_newa (atype := .byte) (ty := .byte) (N' := 0) (a0 := (0, .inl (fun _ => 0))) hx hb (kx_word hG kq_14 rfl) rfl hK hP hD hS hA (fun _ => rfl) (by decide) (by decide) (by decide) (Nat.le_of_ble_eq_true rfl) (Nat.le_of_ble_eq_true rfl) dX2_init_6 (fun q_1 cA_2 H hK hP hD hS => ?_)
  have hP : va_P (dC, dI) kxCl [(h0, .inr (2, [.null, .int 0, .int 0])), (q_1, .inl (cA_2, 0, .inl (fun _ => 0)))] H := hP
  have hD : va_D A [(h0, .inr (2, [.null, .int 0, .int 0])), (q_1, .inl (cA_2, 0, .inl (fun _ => 0)))] := hD
  have hK : va_K (dC, dI) kxCl [(cA_2, .byte)] s := hK
  refine W.widen (k := 1) (n := 0) (by omega) (by omega) ?_
  refine va_put (D := (dC, dI)) (ci := 2) (v := .ref q_1) (ty := .array .byte) (C := RX2) (T := TX2) (N := 3) hx hb hts kt_X2 tyX2 tyX2_ok nmX2 hown hK hP hD hS 0 rfl rfl 0 (by decide) (kx_word hG kq_15 rfl) (fun _ h9 => h9) rfl (by decide +kernel) rfl rfl (Nat.le_of_ble_eq_true rfl) dX2_init_8 (fun H locs hP hD hS => ?_)
  have hP : va_P (dC, dI) kxCl [(h0, .inr (2, [.ref q_1, .int 0, .int 0])), (q_1, .inl (cA_2, 0, .inl (fun _ => 0)))] H := hP
  have hD : va_D A [(h0, .inr (2, [.ref q_1, .int 0, .int 0])), (q_1, .inl (cA_2, 0, .inl (fun _ => 0)))] := hD
  refine lv_aload_n hx hb dX2_init_11 rfl (lv_at hl 0 rfl) ?_
  refine lv_iconst (v := 0) hx hb dX2_init_12 (by decide) ?_
  refine va_put (D := (dC, dI)) (ci := 2) (v := .int 0) (ty := .int) (C := RX2) (T := TX2) (N := 3) hx hb hts kt_X2 tyX2 tyX2_ok nmX2 hown hK hP hD hS 0 rfl rfl 1 (by decide) (kx_word hG kq_16 rfl) (fun _ h9 => h9) rfl (by decide +kernel) rfl rfl (Nat.le_of_ble_eq_true rfl) dX2_init_13 (fun H locs hP hD hS => ?_)
  have hP : va_P (dC, dI) kxCl [(h0, .inr (2, [.ref q_1, .int 0, .int 0])), (q_1, .inl (cA_2, 0, .inl (fun _ => 0)))] H := hP
  have hD : va_D A [(h0, .inr (2, [.ref q_1, .int 0, .int 0])), (q_1, .inl (cA_2, 0, .inl (fun _ => 0)))] := hD
  refine lv_aload_n hx hb dX2_init_16 rfl (lv_at hl 0 rfl) ?_
  refine lv_iconst (v := 0) hx hb dX2_init_17 (by decide) ?_
  refine va_put (D := (dC, dI)) (ci := 2) (v := .int 0) (ty := .boolean) (C := RX2) (T := TX2) (N := 3) hx hb hts kt_X2 tyX2 tyX2_ok nmX2 hown hK hP hD hS 0 rfl rfl 2 (by decide) (kx_word hG kq_17 rfl) (fun _ h9 => h9) rfl (by decide +kernel) (by decide) (by decide) (Nat.le_of_ble_eq_true rfl) dX2_init_18 (fun H locs hP hD hS => ?_)
  have hP : va_P (dC, dI) kxCl [(h0, .inr (2, [.ref q_1, .int 0, .int 0])), (q_1, .inl (cA_2, 0, .inl (fun _ => 0)))] H := hP
  have hD : va_D A [(h0, .inr (2, [.ref q_1, .int 0, .int 0])), (q_1, .inl (cA_2, 0, .inl (fun _ => 0)))] := hD
  have hP9 := hP.sub (ws' := [(h0, .inr (2, [.ref q_1, .int 0, .int 0]))]) [0] rfl
  have hD9 := hD.sub (ws' := [(h0, .inr (2, [.ref q_1, .int 0, .int 0]))]) [0] (by decide) rfl
  have hK9 := hK.sub (tys' := []) [] rfl
  exact W.vret hx hb hr (fun t ht hW => ⟨⟨(q_1), rfl, trivial, by rw [ht]; exact hP9, va_K.moved hW.alike hK9, hD9⟩, hS.F ht⟩) hS.2.2 dX2_init_21
set_option maxHeartbeats 4000000 in
set_option maxRecDepth 100000 in
/-- Spans(limit): what it makes is let go here -/
theorem c_Spans_init (l : Launch) (hlf : l.stackTraces = false) (dC : Nat → ClassId) (dI : Nat → Nat → Nat) (h0 : Nat) (lim : Int32) (sz : Nat) : Met l yX3_init [.code yX3_init cX3_init 2 none] ({ frames := 2, cells := 6, slots := 9, locals := 33 }) (va_Pc [.ref h0, .int lim] (kx_Pre dC dI [(h0, .inr (3, [.null, .null, .null]))] [] sz)) (va_Qv (fun u : Unit => match u with | _ => True) (fun (u : Unit) (t : State) => match u with | _ => kx_At dC dI (va_A [(h0, .inr (3, [.null, .null, .null]))] sz) [] [] t) (va_A [(h0, .inr (3, [.null, .null, .null]))] sz)) 6 9 (va_A [(h0, .inr (3, [.null, .null, .null]))] sz) := by
  refine Met.ofW (cc := cX3_init) (maxL := 2) (ret := none) (by decide) rfl ?_
  intro p e s m args below meth c s₁ B hml hv
  obtain ⟨rfl, hsz, hP, hK, hD0, hG, hZ⟩ := hv
  have hx := B.exec
  have hb := B.bytes
  have hr := B.returns
  have hts := kx_hts (a := #[.ref h0, .int lim]) hG
  have hown : s.vm.findClass RX3 = some m.cls := findClass_of_methodNamed B.named
  have hlocks := B.notSynchronized
  have hin : meth.name = "<init>" := (name_of_methodNamed B.named B.method).1
  subst hsz
  have hD := hD0.self (sz := s.heap.size)
  generalize hAe : va_A [(h0, .inr (3, [.null, .null, .null]))] s.heap.size = A at hD hZ ⊢
  have hA : ∀ q : Nat, s.heap.size ≤ q → A q := fun q h => by rw [← hAe]; exact Or.inr h
  have hS : va_S A s.heap s.heap [] := va_S.rf
  have hP : va_P (dC, dI) kxCl [(h0, .inr (3, [.null, .null, .null]))] s.heap := hP
  have hl := lv_entry ([.ref h0, .int lim]) (n := 2) (Nat.le_of_ble_eq_true rfl)
  rw [lg_entry_eq]
  generalize (lg_sl ([.ref h0, .int lim]) ++ List.replicate (2 - (lg_sl ([.ref h0, .int lim])).length) Slot.unset).toArray = ls at hl ⊢
  have hl : lv_has ls 2 [(0, .ref h0), (1, .int lim)] := hl
  refine lv_aload_n hx hb dX3_init_0 rfl (lv_at hl 0 rfl) ?_
  refine W.objInit hx hb hown (kx_word hG kq_18 rfl) (kx_word hG kq_1 rfl) (kx_word hG kq_2 rfl) rfl (by rw [hml]; exact hl.1) rfl dX3_init_1 (Nat.le_of_ble_eq_true rfl) (Nat.le_of_ble_eq_true rfl) ?_
  refine W.eq (g2 := F0 m 4 ls []) rfl ?_
  refine lv_aload_n hx hb dX3_init_4 rfl (lv_at hl 0 rfl) ?_
  refine va_new (ci := 1) (fs := [.int 0, .null, .int 0]) (C := RX1) (T := TX1) (N := 3) hx hb hts kt_X1 tyX1 tyX1_ok hown (kx_word hG kq_19 rfl) (kx_word hG kq_20 rfl) (kx_word hG kq_21 rfl) hK hP hD hS hA rfl (fun j hj => by rcases (show j = 0 ∨ j = 1 ∨ j = 2 by omega) with rfl | rfl | rfl <;> rfl) (Nat.le_of_ble_eq_true rfl) (Nat.le_of_ble_eq_true rfl) dX3_init_5 (fun q_1 H hP hD hS => ?_)
  have hP : va_P (dC, dI) kxCl [(h0, .inr (3, [.null, .null, .null])), (q_1, .inr (1, [.int 0, .null, .int 0]))] H := hP
  have hD : va_D A [(h0, .inr (3, [.null, .null, .null])), (q_1, .inr (1, [.int 0, .null, .int 0]))] := hD
  refine W.widen (k := 1) (n := 3) (by omega) (by omega) ?_
  refine lv_dup hx hb dX3_init_8 rfl ?_
  refine lv_iload_n hx hb dX3_init_9 rfl (lv_at hl 1 rfl) ?_
  have hPc := hP.sub (ws' := [(q_1, .inr (1, [.int 0, .null, .int 0]))]) [1] rfl
  have hDc := hD.sub (ws' := [(q_1, .inr (1, [.int 0, .null, .int 0]))]) [1] (by decide) rfl
  have hKc := hK.sub (tys' := []) [] rfl
  have hFc := va_free (wc := [(q_1, .inr (1, [.int 0, .null, .int 0]))]) hD hS hA [1] rfl
  refine va_callv (va_runI (As := [.int lim]) (rest := [.ref q_1, .ref h0]) ⟨hx, hb, hml, hown, hts⟩ (c_Ints_init l hlf dC dI q_1 lim H.size ) (cwI 1 hts (kx_gI kq_22 rfl) rfl rfl rfl (kx_word hG kq_21 rfl) (kx_word hG kq_23 rfl) (kx_word hG kq_24 rfl) rfl (by decide +kernel) ⟨Nat.le_of_ble_eq_true rfl, Nat.le_of_ble_eq_true rfl⟩) ⟨kx_blind, kx_give (ws := []) (tys := []) hPc hDc hKc hG hZ hS hFc⟩ rfl rfl hl.1 rfl (lv_room (Nat.le_of_ble_eq_true rfl)) dX3_init_10 ⟨Nat.le_of_ble_eq_true rfl, Nat.le_of_ble_eq_true rfl⟩) hS (fun q _ h => hFc q h) hFc (fun u t H1 locs ht hvm hw_3 hB hz1 hk1 hS => ?_)
  obtain ⟨q_4, cA_5⟩ := u
  obtain ⟨hP1, hK1, hD1⟩ := hB
  rw [ht] at hP1
  have hK1 := va_K.moved hvm.symm hK1
  try dsimp only at hw_3
  obtain ⟨hP, hD⟩ := va_join (wr := [(h0, .inr (3, [.null, .null, .null]))]) (w1 := [(q_1, .inr (1, [.int lim, .ref q_4, .int 0])), (q_4, .inl (cA_5, 0, .inl (fun _ => 0)))]) hP hD [1] [0] rfl rfl (by decide) (by decide) hk1 hFc hP1 hD1
  have hK := (hK.sub (tys' := []) [] rfl).app hK1
  generalize H1 = H at hP hS ⊢
  have hP : va_P (dC, dI) kxCl [(h0, .inr (3, [.null, .null, .null])), (q_1, .inr (1, [.int lim, .ref q_4, .int 0])), (q_4, .inl (cA_5, 0, .inl (fun _ => 0)))] H := hP
  have hD : va_D A [(h0, .inr (3, [.null, .null, .null])), (q_1, .inr (1, [.int lim, .ref q_4, .int 0])), (q_4, .inl (cA_5, 0, .inl (fun _ => 0)))] := hD
  have hK : va_K (dC, dI) kxCl [(cA_5, .int)] s := hK
  refine W.widen (k := 2) (n := 3) (by omega) (by omega) ?_
  refine va_putF (D := (dC, dI)) (ci := 3) (v := .ref q_1) (ty := .object "IndexSort$Ints") (C := RX3) (T := TX3) (N := 3) hx hb hts kt_X3 tyX3 tyX3_ok nmX3 hown hK hP hD hS 0 rfl rfl 0 (by decide) (kx_word hG kq_25 rfl) (fun _ h9 => h9) rfl hin rfl (by decide +kernel) rfl rfl (Nat.le_of_ble_eq_true rfl) dX3_init_13 (fun H locs hP hD hS => ?_)
  have hP : va_P (dC, dI) kxCl [(h0, .inr (3, [.ref q_1, .null, .null])), (q_1, .inr (1, [.int lim, .ref q_4, .int 0])), (q_4, .inl (cA_5, 0, .inl (fun _ => 0)))] H := hP
  have hD : va_D A [(h0, .inr (3, [.ref q_1, .null, .null])), (q_1, .inr (1, [.int lim, .ref q_4, .int 0])), (q_4, .inl (cA_5, 0, .inl (fun _ => 0)))] := hD
  refine lv_aload_n hx hb dX3_init_16 rfl (lv_at hl 0 rfl) ?_
  refine va_new (ci := 1) (fs := [.int 0, .null, .int 0]) (C := RX1) (T := TX1) (N := 3) hx hb hts kt_X1 tyX1 tyX1_ok hown (kx_word hG kq_19 rfl) (kx_word hG kq_20 rfl) (kx_word hG kq_21 rfl) hK hP hD hS hA rfl (fun j hj => by rcases (show j = 0 ∨ j = 1 ∨ j = 2 by omega) with rfl | rfl | rfl <;> rfl) (Nat.le_of_ble_eq_true rfl) (Nat.le_of_ble_eq_true rfl) dX3_init_17 (fun q_6 H hP hD hS => ?_)
  have hP : va_P (dC, dI) kxCl [(h0, .inr (3, [.ref q_1, .null, .null])), (q_1, .inr (1, [.int lim, .ref q_4, .int 0])), (q_4, .inl (cA_5, 0, .inl (fun _ => 0))), (q_6, .inr (1, [.int 0, .null, .int 0]))] H := hP
  have hD : va_D A [(h0, .inr (3, [.ref q_1, .null, .null])), (q_1, .inr (1, [.int lim, .ref q_4, .int 0])), (q_4, .inl (cA_5, 0, .inl (fun _ => 0))), (q_6, .inr (1, [.int 0, .null, .int 0]))] := hD
  refine W.widen (k := 3) (n := 6) (by omega) (by omega) ?_
  refine lv_dup hx hb dX3_init_20 rfl ?_
  refine lv_iload_n hx hb dX3_init_21 rfl (lv_at hl 1 rfl) ?_
  have hPc := hP.sub (ws' := [(q_6, .inr (1, [.int 0, .null, .int 0]))]) [3] rfl
  have hDc := hD.sub (ws' := [(q_6, .inr (1, [.int 0, .null, .int 0]))]) [3] (by decide) rfl
  have hKc := hK.sub (tys' := []) [] rfl
  have hFc := va_free (wc := [(q_6, .inr (1, [.int 0, .null, .int 0]))]) hD hS hA [3] rfl
  refine va_callv (va_runI (As := [.int lim]) (rest := [.ref q_6, .ref h0]) ⟨hx, hb, hml, hown, hts⟩ (c_Ints_init l hlf dC dI q_6 lim H.size ) (cwI 1 hts (kx_gI kq_22 rfl) rfl rfl rfl (kx_word hG kq_21 rfl) (kx_word hG kq_23 rfl) (kx_word hG kq_24 rfl) rfl (by decide +kernel) ⟨Nat.le_of_ble_eq_true rfl, Nat.le_of_ble_eq_true rfl⟩) ⟨kx_blind, kx_give (ws := []) (tys := []) hPc hDc hKc hG hZ hS hFc⟩ rfl rfl hl.1 rfl (lv_room (Nat.le_of_ble_eq_true rfl)) dX3_init_22 ⟨Nat.le_of_ble_eq_true rfl, Nat.le_of_ble_eq_true rfl⟩) hS (fun q _ h => hFc q h) hFc (fun u t H1 locs ht hvm hw_8 hB hz1 hk1 hS => ?_)
  obtain ⟨q_9, cA_10⟩ := u
  obtain ⟨hP1, hK1, hD1⟩ := hB
  rw [ht] at hP1
  have hK1 := va_K.moved hvm.symm hK1
  try dsimp only at hw_8
  obtain ⟨hP, hD⟩ := va_join (wr := [(h0, .inr (3, [.ref q_1, .null, .null])), (q_1, .inr (1, [.int lim, .ref q_4, .int 0])), (q_4, .inl (cA_5, 0, .inl (fun _ => 0)))]) (w1 := [(q_6, .inr (1, [.int lim, .ref q_9, .int 0])), (q_9, .inl (cA_10, 0, .inl (fun _ => 0)))]) hP hD [3] [0, 1, 2] rfl rfl (by decide) (by decide) hk1 hFc hP1 hD1
  have hK := (hK.sub (tys' := [(cA_5, .int)]) [0] rfl).app hK1
  generalize H1 = H at hP hS ⊢
  have hP : va_P (dC, dI) kxCl [(h0, .inr (3, [.ref q_1, .null, .null])), (q_1, .inr (1, [.int lim, .ref q_4, .int 0])), (q_4, .inl (cA_5, 0, .inl (fun _ => 0))), (q_6, .inr (1, [.int lim, .ref q_9, .int 0])), (q_9, .inl (cA_10, 0, .inl (fun _ => 0)))] H := hP
  have hD : va_D A [(h0, .inr (3, [.ref q_1, .null, .null])), (q_1, .inr (1, [.int lim, .ref q_4, .int 0])), (q_4, .inl (cA_5, 0, .inl (fun _ => 0))), (q_6, .inr (1, [.int lim, .ref q_9, .int 0])), (q_9, .inl (cA_10, 0, .inl (fun _ => 0)))] := hD
  have hK : va_K (dC, dI) kxCl [(cA_5, .int), (cA_10, .int)] s := hK
  refine W.widen (k := 4) (n := 6) (by omega) (by omega) ?_
  refine va_putF (D := (dC, dI)) (ci := 3) (v := .ref q_6) (ty := .object "IndexSort$Ints") (C := RX3) (T := TX3) (N := 3) hx hb hts kt_X3 tyX3 tyX3_ok nmX3 hown hK hP hD hS 0 rfl rfl 1 (by decide) (kx_word hG kq_26 rfl) (fun _ h9 => h9) rfl hin rfl (by decide +kernel) rfl rfl (Nat.le_of_ble_eq_true rfl) dX3_init_25 (fun H locs hP hD hS => ?_)
  have hP : va_P (dC, dI) kxCl [(h0, .inr (3, [.ref q_1, .ref q_6, .null])), (q_1, .inr (1, [.int lim, .ref q_4, .int 0])), (q_4, .inl (cA_5, 0, .inl (fun _ => 0))), (q_6, .inr (1, [.int lim, .ref q_9, .int 0])), (q_9, .inl (cA_10, 0, .inl (fun _ => 0)))] H := hP
  have hD : va_D A [(h0, .inr (3, [.ref q_1, .ref q_6, .null])), (q_1, .inr (1, [.int lim, .ref q_4, .int 0])), (q_4, .inl (cA_5, 0, .inl (fun _ => 0))), (q_6, .inr (1, [.int lim, .ref q_9, .int 0])), (q_9, .inl (cA_10, 0, .inl (fun _ => 0)))] := hD
  refine lv_aload_n hx hb dX3_init_28 rfl (lv_at hl 0 rfl) ?_
  refine va_new (ci := 1) (fs := [.int 0, .null, .int 0]) (C := RX1) (T := TX1) (N := 3) hx hb hts kt_X1 tyX1 tyX1_ok hown (kx_word hG kq_19 rfl) (kx_word hG kq_20 rfl) (kx_word hG kq_21 rfl) hK hP hD hS hA rfl (fun j hj => by rcases (show j = 0 ∨ j = 1 ∨ j = 2 by omega) with rfl | rfl | rfl <;> rfl) (Nat.le_of_ble_eq_true rfl) (Nat.le_of_ble_eq_true rfl) dX3_init_29 (fun q_11 H hP hD hS => ?_)
  have hP : va_P (dC, dI) kxCl [(h0, .inr (3, [.ref q_1, .ref q_6, .null])), (q_1, .inr (1, [.int lim, .ref q_4, .int 0])), (q_4, .inl (cA_5, 0, .inl (fun _ => 0))), (q_6, .inr (1, [.int lim, .ref q_9, .int 0])), (q_9, .inl (cA_10, 0, .inl (fun _ => 0))), (q_11, .inr (1, [.int 0, .null, .int 0]))] H := hP
  have hD : va_D A [(h0, .inr (3, [.ref q_1, .ref q_6, .null])), (q_1, .inr (1, [.int lim, .ref q_4, .int 0])), (q_4, .inl (cA_5, 0, .inl (fun _ => 0))), (q_6, .inr (1, [.int lim, .ref q_9, .int 0])), (q_9, .inl (cA_10, 0, .inl (fun _ => 0))), (q_11, .inr (1, [.int 0, .null, .int 0]))] := hD
  refine W.widen (k := 5) (n := 9) (by omega) (by omega) ?_
  refine lv_dup hx hb dX3_init_32 rfl ?_
  refine lv_iload_n hx hb dX3_init_33 rfl (lv_at hl 1 rfl) ?_
  have hPc := hP.sub (ws' := [(q_11, .inr (1, [.int 0, .null, .int 0]))]) [5] rfl
  have hDc := hD.sub (ws' := [(q_11, .inr (1, [.int 0, .null, .int 0]))]) [5] (by decide) rfl
  have hKc := hK.sub (tys' := []) [] rfl
  have hFc := va_free (wc := [(q_11, .inr (1, [.int 0, .null, .int 0]))]) hD hS hA [5] rfl
  refine va_callv (va_runI (As := [.int lim]) (rest := [.ref q_11, .ref h0]) ⟨hx, hb, hml, hown, hts⟩ (c_Ints_init l hlf dC dI q_11 lim H.size ) (cwI 1 hts (kx_gI kq_22 rfl) rfl rfl rfl (kx_word hG kq_21 rfl) (kx_word hG kq_23 rfl) (kx_word hG kq_24 rfl) rfl (by decide +kernel) ⟨Nat.le_of_ble_eq_true rfl, Nat.le_of_ble_eq_true rfl⟩) ⟨kx_blind, kx_give (ws := []) (tys := []) hPc hDc hKc hG hZ hS hFc⟩ rfl rfl hl.1 rfl (lv_room (Nat.le_of_ble_eq_true rfl)) dX3_init_34 ⟨Nat.le_of_ble_eq_true rfl, Nat.le_of_ble_eq_true rfl⟩) hS (fun q _ h => hFc q h) hFc (fun u t H1 locs ht hvm hw_13 hB hz1 hk1 hS => ?_)
  obtain ⟨q_14, cA_15⟩ := u
  obtain ⟨hP1, hK1, hD1⟩ := hB
  rw [ht] at hP1
  have hK1 := va_K.moved hvm.symm hK1
  try dsimp only at hw_13
  obtain ⟨hP, hD⟩ := va_join (wr := [(h0, .inr (3, [.ref q_1, .ref q_6, .null])), (q_1, .inr (1, [.int lim, .ref q_4, .int 0])), (q_4, .inl (cA_5, 0, .inl (fun _ => 0))), (q_6, .inr (1, [.int lim, .ref q_9, .int 0])), (q_9, .inl (cA_10, 0, .inl (fun _ => 0)))]) (w1 := [(q_11, .inr (1, [.int lim, .ref q_14, .int 0])), (q_14, .inl (cA_15, 0, .inl (fun _ => 0)))]) hP hD [5] [0, 1, 2, 3, 4] rfl rfl (by decide) (by decide) hk1 hFc hP1 hD1
  have hK := (hK.sub (tys' := [(cA_5, .int), (cA_10, .int)]) [0, 1] rfl).app hK1
  generalize H1 = H at hP hS ⊢
  have hP : va_P (dC, dI) kxCl [(h0, .inr (3, [.ref q_1, .ref q_6, .null])), (q_1, .inr (1, [.int lim, .ref q_4, .int 0])), (q_4, .inl (cA_5, 0, .inl (fun _ => 0))), (q_6, .inr (1, [.int lim, .ref q_9, .int 0])), (q_9, .inl (cA_10, 0, .inl (fun _ => 0))), (q_11, .inr (1, [.int lim, .ref q_14, .int 0])), (q_14, .inl (cA_15, 0, .inl (fun _ => 0)))] H := hP
  have hD : va_D A [(h0, .inr (3, [.ref q_1, .ref q_6, .null])), (q_1, .inr (1, [.int lim, .ref q_4, .int 0])), (q_4, .inl (cA_5, 0, .inl (fun _ => 0))), (q_6, .inr (1, [.int lim, .ref q_9, .int 0])), (q_9, .inl (cA_10, 0, .inl (fun _ => 0))), (q_11, .inr (1, [.int lim, .ref q_14, .int 0])), (q_14, .inl (cA_15, 0, .inl (fun _ => 0)))] := hD
  have hK : va_K (dC, dI) kxCl [(cA_5, .int), (cA_10, .int), (cA_15, .int)] s := hK
  refine W.widen (k := 6) (n := 9) (by omega) (by omega) ?_
  refine va_putF (D := (dC, dI)) (ci := 3) (v := .ref q_11) (ty := .object "IndexSort$Ints") (C := RX3) (T := TX3) (N := 3) hx hb hts kt_X3 tyX3 tyX3_ok nmX3 hown hK hP hD hS 0 rfl rfl 2 (by decide) (kx_word hG kq_27 rfl) (fun _ h9 => h9) rfl hin rfl (by decide +kernel) rfl rfl (Nat.le_of_ble_eq_true rfl) dX3_init_37 (fun H locs hP hD hS => ?_)
  have hP : va_P (dC, dI) kxCl [(h0, .inr (3, [.ref q_1, .ref q_6, .ref q_11])), (q_1, .inr (1, [.int lim, .ref q_4, .int 0])), (q_4, .inl (cA_5, 0, .inl (fun _ => 0))), (q_6, .inr (1, [.int lim, .ref q_9, .int 0])), (q_9, .inl (cA_10, 0, .inl (fun _ => 0))), (q_11, .inr (1, [.int lim, .ref q_14, .int 0])), (q_14, .inl (cA_15, 0, .inl (fun _ => 0)))] H := hP
  have hD : va_D A [(h0, .inr (3, [.ref q_1, .ref q_6, .ref q_11])), (q_1, .inr (1, [.int lim, .ref q_4, .int 0])), (q_4, .inl (cA_5, 0, .inl (fun _ => 0))), (q_6, .inr (1, [.int lim, .ref q_9, .int 0])), (q_9, .inl (cA_10, 0, .inl (fun _ => 0))), (q_11, .inr (1, [.int lim, .ref q_14, .int 0])), (q_14, .inl (cA_15, 0, .inl (fun _ => 0)))] := hD
  have hP9 := hP.sub (ws' := []) [] rfl
  have hD9 := hD.sub (ws' := []) [] (by decide) rfl
  have hK9 := hK.sub (tys' := []) [] rfl
  exact W.vret hx hb hr (fun t ht hW => ⟨⟨(), rfl, trivial, by rw [ht]; exact hP9, va_K.moved hW.alike hK9, hD9⟩, hS.F ht⟩) hS.2.2 dX3_init_40
set_option maxHeartbeats 4000000 in
set_option maxRecDepth 100000 in
/-- Entry(level, above): what it makes is let go here, but for the object itself -/
theorem c_Entry_init (l : Launch) (hlf : l.stackTraces = false) (dC : Nat → ClassId) (dI : Nat → Nat → Nat) (h0 : Nat) (lv : Int32) (ab : Int32) (sz : Nat) : Met l yX0_init [.code yX0_init cX0_init 3 none] ({ frames := 3, cells := 15, slots := 24, locals := 54 }) (va_Pc [.ref h0, .int lv, .int ab] (kx_Pre dC dI [(h0, .inr (0, [.int 0, .int 0, .null, .null, .null, .null, .null, .int 0, .int 0, .int 0, .int 0, .int 0]))] [] sz)) (va_Qv (fun u : Nat × Nat × Nat × Nat × Nat => match u with | (q1, q2, q3, q4, q5) => True) (fun (u : Nat × Nat × Nat × Nat × Nat) (t : State) => match u with | (q1, q2, q3, q4, q5) => kx_At dC dI (va_A [(h0, .inr (0, [.int 0, .int 0, .null, .null, .null, .null, .null, .int 0, .int 0, .int 0, .int 0, .int 0]))] sz) [(h0, .inr (0, [.int lv, .int ab, .ref q1, .ref q2, .ref q3, .ref q4, .ref q5, .int (-1), .int (-1), .int 0, .int 0, .int 0]))] [] t) (va_A [(h0, .inr (0, [.int 0, .int 0, .null, .null, .null, .null, .null, .int 0, .int 0, .int 0, .int 0, .int 0]))] sz)) 15 24 (va_A [(h0, .inr (0, [.int 0, .int 0, .null, .null, .null, .null, .null, .int 0, .int 0, .int 0, .int 0, .int 0]))] sz) := by
  refine Met.ofW (cc := cX0_init) (maxL := 3) (ret := none) (by decide) rfl ?_
  intro p e s m args below meth c s₁ B hml hv
  obtain ⟨rfl, hsz, hP, hK, hD0, hG, hZ⟩ := hv
  have hx := B.exec
  have hb := B.bytes
  have hr := B.returns
  have hts := kx_hts (a := #[.ref h0, .int lv, .int ab]) hG
  have hown : s.vm.findClass RX0 = some m.cls := findClass_of_methodNamed B.named
  have hlocks := B.notSynchronized
  have hin : meth.name = "<init>" := (name_of_methodNamed B.named B.method).1
  subst hsz
  have hD := hD0.self (sz := s.heap.size)
  generalize hAe : va_A [(h0, .inr (0, [.int 0, .int 0, .null, .null, .null, .null, .null, .int 0, .int 0, .int 0, .int 0, .int 0]))] s.heap.size = A at hD hZ ⊢
  have hA : ∀ q : Nat, s.heap.size ≤ q → A q := fun q h => by rw [← hAe]; exact Or.inr h
  have hS : va_S A s.heap s.heap [] := va_S.rf
  have hP : va_P (dC, dI) kxCl [(h0, .inr (0, [.int 0, .int 0, .null, .null, .null, .null, .null, .int 0, .int 0, .int 0, .int 0, .int 0]))] s.heap := hP
  have hl := lv_entry ([.ref h0, .int lv, .int ab]) (n := 3) (Nat.le_of_ble_eq_true rfl)
  rw [lg_entry_eq]
  generalize (lg_sl ([.ref h0, .int lv, .int ab]) ++ List.replicate (3 - (lg_sl ([.ref h0, .int lv, .int ab])).length) Slot.unset).toArray = ls at hl ⊢
  have hl : lv_has ls 3 [(0, .ref h0), (1, .int lv), (2, .int ab)] := hl
  refine lv_aload_n hx hb dX0_init_0 rfl (lv_at hl 0 rfl) ?_
  refine W.objInit hx hb hown (kx_word hG kq_28 rfl) (kx_word hG kq_1 rfl) (kx_word hG kq_2 rfl) rfl (by rw [hml]; exact hl.1) rfl dX0_init_1 (Nat.le_of_ble_eq_true rfl) (Nat.le_of_ble_eq_true rfl) ?_
  refine W.eq (g2 := F0 m 4 ls []) rfl ?_
  refine lv_aload_n hx hb dX0_init_4 rfl (lv_at hl 0 rfl) ?_
  refine va_new (ci := 1) (fs := [.int 0, .null, .int 0]) (C := RX1) (T := TX1) (N := 3) hx hb hts kt_X1 tyX1 tyX1_ok hown (kx_word hG kq_29 rfl) (kx_word hG kq_20 rfl) (kx_word hG kq_21 rfl) hK hP hD hS hA rfl (fun j hj => by rcases (show j = 0 ∨ j = 1 ∨ j = 2 by omega) with rfl | rfl | rfl <;> rfl) (Nat.le_of_ble_eq_true rfl) (Nat.le_of_ble_eq_true rfl) dX0_init_5 (fun q_1 H hP hD hS => ?_)
  have hP : va_P (dC, dI) kxCl [(h0, .inr (0, [.int 0, .int 0, .null, .null, .null, .null, .null, .int 0, .int 0, .int 0, .int 0, .int 0])), (q_1, .inr (1, [.int 0, .null, .int 0]))] H := hP
  have hD : va_D A [(h0, .inr (0, [.int 0, .int 0, .null, .null, .null, .null, .null, .int 0, .int 0, .int 0, .int 0, .int 0])), (q_1, .inr (1, [.int 0, .null, .int 0]))] := hD
  refine W.widen (k := 1) (n := 3) (by omega) (by omega) ?_
  refine lv_dup hx hb dX0_init_8 rfl ?_
  refine lv_bipush (v := 20) hx hb dX0_init_9 (by decide) ?_
  have hPc := hP.sub (ws' := [(q_1, .inr (1, [.int 0, .null, .int 0]))]) [1] rfl
  have hDc := hD.sub (ws' := [(q_1, .inr (1, [.int 0, .null, .int 0]))]) [1] (by decide) rfl
  have hKc := hK.sub (tys' := []) [] rfl
  have hFc := va_free (wc := [(q_1, .inr (1, [.int 0, .null, .int 0]))]) hD hS hA [1] rfl
  refine va_callv (va_runI (As := [.int 20]) (rest := [.ref q_1, .ref h0]) ⟨hx, hb, hml, hown, hts⟩ (c_Ints_init l hlf dC dI q_1 20 H.size ) (cwI 1 hts (kx_gI kq_22 rfl) rfl rfl rfl (kx_word hG kq_21 rfl) (kx_word hG kq_30 rfl) (kx_word hG kq_24 rfl) rfl (by decide +kernel) ⟨Nat.le_of_ble_eq_true rfl, Nat.le_of_ble_eq_true rfl⟩) ⟨kx_blind, kx_give (ws := []) (tys := []) hPc hDc hKc hG hZ hS hFc⟩ rfl rfl hl.1 rfl (lv_room (Nat.le_of_ble_eq_true rfl)) dX0_init_11 ⟨Nat.le_of_ble_eq_true rfl, Nat.le_of_ble_eq_true rfl⟩) hS (fun q _ h => hFc q h) hFc (fun u t H1 locs ht hvm hw_3 hB hz1 hk1 hS => ?_)
  obtain ⟨q_4, cA_5⟩ := u
  obtain ⟨hP1, hK1, hD1⟩ := hB
  rw [ht] at hP1
  have hK1 := va_K.moved hvm.symm hK1
  try dsimp only at hw_3
  obtain ⟨hP, hD⟩ := va_join (wr := [(h0, .inr (0, [.int 0, .int 0, .null, .null, .null, .null, .null, .int 0, .int 0, .int 0, .int 0, .int 0]))]) (w1 := [(q_1, .inr (1, [.int 20, .ref q_4, .int 0])), (q_4, .inl (cA_5, 0, .inl (fun _ => 0)))]) hP hD [1] [0] rfl rfl (by decide) (by decide) hk1 hFc hP1 hD1
  have hK := (hK.sub (tys' := []) [] rfl).app hK1
  generalize H1 = H at hP hS ⊢
  have hP : va_P (dC, dI) kxCl [(h0, .inr (0, [.int 0, .int 0, .null, .null, .null, .null, .null, .int 0, .int 0, .int 0, .int 0, .int 0])), (q_1, .inr (1, [.int 20, .ref q_4, .int 0])), (q_4, .inl (cA_5, 0, .inl (fun _ => 0)))] H := hP
  have hD : va_D A [(h0, .inr (0, [.int 0, .int 0, .null, .null, .null, .null, .null, .int 0, .int 0, .int 0, .int 0, .int 0])), (q_1, .inr (1, [.int 20, .ref q_4, .int 0])), (q_4, .inl (cA_5, 0, .inl (fun _ => 0)))] := hD
  have hK : va_K (dC, dI) kxCl [(cA_5, .int)] s := hK
  refine W.widen (k := 2) (n := 3) (by omega) (by omega) ?_
  refine va_putF (D := (dC, dI)) (ci := 0) (v := .ref q_1) (ty := .object "IndexSort$Ints") (C := RX0) (T := TX0) (N := 12) hx hb hts kt_X0 tyX0 tyX0_ok nmX0 hown hK hP hD hS 0 rfl rfl 2 (by decide) (kx_word hG kq_31 rfl) (fun _ h9 => h9) rfl hin rfl (by decide +kernel) rfl rfl (Nat.le_of_ble_eq_true rfl) dX0_init_14 (fun H locs hP hD hS => ?_)
  have hP : va_P (dC, dI) kxCl [(h0, .inr (0, [.int 0, .int 0, .ref q_1, .null, .null, .null, .null, .int 0, .int 0, .int 0, .int 0, .int 0])), (q_1, .inr (1, [.int 20, .ref q_4, .int 0])), (q_4, .inl (cA_5, 0, .inl (fun _ => 0)))] H := hP
  have hD : va_D A [(h0, .inr (0, [.int 0, .int 0, .ref q_1, .null, .null, .null, .null, .int 0, .int 0, .int 0, .int 0, .int 0])), (q_1, .inr (1, [.int 20, .ref q_4, .int 0])), (q_4, .inl (cA_5, 0, .inl (fun _ => 0)))] := hD
  refine lv_aload_n hx hb dX0_init_17 rfl (lv_at hl 0 rfl) ?_
  refine va_new (ci := 1) (fs := [.int 0, .null, .int 0]) (C := RX1) (T := TX1) (N := 3) hx hb hts kt_X1 tyX1 tyX1_ok hown (kx_word hG kq_29 rfl) (kx_word hG kq_20 rfl) (kx_word hG kq_21 rfl) hK hP hD hS hA rfl (fun j hj => by rcases (show j = 0 ∨ j = 1 ∨ j = 2 by omega) with rfl | rfl | rfl <;> rfl) (Nat.le_of_ble_eq_true rfl) (Nat.le_of_ble_eq_true rfl) dX0_init_18 (fun q_6 H hP hD hS => ?_)
  have hP : va_P (dC, dI) kxCl [(h0, .inr (0, [.int 0, .int 0, .ref q_1, .null, .null, .null, .null, .int 0, .int 0, .int 0, .int 0, .int 0])), (q_1, .inr (1, [.int 20, .ref q_4, .int 0])), (q_4, .inl (cA_5, 0, .inl (fun _ => 0))), (q_6, .inr (1, [.int 0, .null, .int 0]))] H := hP
  have hD : va_D A [(h0, .inr (0, [.int 0, .int 0, .ref q_1, .null, .null, .null, .null, .int 0, .int 0, .int 0, .int 0, .int 0])), (q_1, .inr (1, [.int 20, .ref q_4, .int 0])), (q_4, .inl (cA_5, 0, .inl (fun _ => 0))), (q_6, .inr (1, [.int 0, .null, .int 0]))] := hD
  refine W.widen (k := 3) (n := 6) (by omega) (by omega) ?_
  refine lv_dup hx hb dX0_init_21 rfl ?_
  refine lv_bipush (v := 20) hx hb dX0_init_22 (by decide) ?_
  have hPc := hP.sub (ws' := [(q_6, .inr (1, [.int 0, .null, .int 0]))]) [3] rfl
  have hDc := hD.sub (ws' := [(q_6, .inr (1, [.int 0, .null, .int 0]))]) [3] (by decide) rfl
  have hKc := hK.sub (tys' := []) [] rfl
  have hFc := va_free (wc := [(q_6, .inr (1, [.int 0, .null, .int 0]))]) hD hS hA [3] rfl
  refine va_callv (va_runI (As := [.int 20]) (rest := [.ref q_6, .ref h0]) ⟨hx, hb, hml, hown, hts⟩ (c_Ints_init l hlf dC dI q_6 20 H.size ) (cwI 1 hts (kx_gI kq_22 rfl) rfl rfl rfl (kx_word hG kq_21 rfl) (kx_word hG kq_30 rfl) (kx_word hG kq_24 rfl) rfl (by decide +kernel) ⟨Nat.le_of_ble_eq_true rfl, Nat.le_of_ble_eq_true rfl⟩) ⟨kx_blind, kx_give (ws := []) (tys := []) hPc hDc hKc hG hZ hS hFc⟩ rfl rfl hl.1 rfl (lv_room (Nat.le_of_ble_eq_true rfl)) dX0_init_24 ⟨Nat.le_of_ble_eq_true rfl, Nat.le_of_ble_eq_true rfl⟩) hS (fun q _ h => hFc q h) hFc (fun u t H1 locs ht hvm hw_8 hB hz1 hk1 hS => ?_)
  obtain ⟨q_9, cA_10⟩ := u
  obtain ⟨hP1, hK1, hD1⟩ := hB
  rw [ht] at hP1
  have hK1 := va_K.moved hvm.symm hK1
  try dsimp only at hw_8
  obtain ⟨hP, hD⟩ := va_join (wr := [(h0, .inr (0, [.int 0, .int 0, .ref q_1, .null, .null, .null, .null, .int 0, .int 0, .int 0, .int 0, .int 0])), (q_1, .inr (1, [.int 20, .ref q_4, .int 0])), (q_4, .inl (cA_5, 0, .inl (fun _ => 0)))]) (w1 := [(q_6, .inr (1, [.int 20, .ref q_9, .int 0])), (q_9, .inl (cA_10, 0, .inl (fun _ => 0)))]) hP hD [3] [0, 1, 2] rfl rfl (by decide) (by decide) hk1 hFc hP1 hD1
  have hK := (hK.sub (tys' := [(cA_5, .int)]) [0] rfl).app hK1
  generalize H1 = H at hP hS ⊢
  have hP : va_P (dC, dI) kxCl [(h0, .inr (0, [.int 0, .int 0, .ref q_1, .null, .null, .null, .null, .int 0, .int 0, .int 0, .int 0, .int 0])), (q_1, .inr (1, [.int 20, .ref q_4, .int 0])), (q_4, .inl (cA_5, 0, .inl (fun _ => 0))), (q_6, .inr (1, [.int 20, .ref q_9, .int 0])), (q_9, .inl (cA_10, 0, .inl (fun _ => 0)))] H := hP
  have hD : va_D A [(h0, .inr (0, [.int 0, .int 0, .ref q_1, .null, .null, .null, .null, .int 0, .int 0, .int 0, .int 0, .int 0])), (q_1, .inr (1, [.int 20, .ref q_4, .int 0])), (q_4, .inl (cA_5, 0, .inl (fun _ => 0))), (q_6, .inr (1, [.int 20, .ref q_9, .int 0])), (q_9, .inl (cA_10, 0, .inl (fun _ => 0)))] := hD
  have hK : va_K (dC, dI) kxCl [(cA_5, .int), (cA_10, .int)] s := hK
  refine W.widen (k := 4) (n := 6) (by omega) (by omega) ?_
  refine va_putF (D := (dC, dI)) (ci := 0) (v := .ref q_6) (ty := .object "IndexSort$Ints") (C := RX0) (T := TX0) (N := 12) hx hb hts kt_X0 tyX0 tyX0_ok nmX0 hown hK hP hD hS 0 rfl rfl 3 (by decide) (kx_word hG kq_32 rfl) (fun _ h9 => h9) rfl hin rfl (by decide +kernel) rfl rfl (Nat.le_of_ble_eq_true rfl) dX0_init_27 (fun H locs hP hD hS => ?_)
  have hP : va_P (dC, dI) kxCl [(h0, .inr (0, [.int 0, .int 0, .ref q_1, .ref q_6, .null, .null, .null, .int 0, .int 0, .int 0, .int 0, .int 0])), (q_1, .inr (1, [.int 20, .ref q_4, .int 0])), (q_4, .inl (cA_5, 0, .inl (fun _ => 0))), (q_6, .inr (1, [.int 20, .ref q_9, .int 0])), (q_9, .inl (cA_10, 0, .inl (fun _ => 0)))] H := hP
  have hD : va_D A [(h0, .inr (0, [.int 0, .int 0, .ref q_1, .ref q_6, .null, .null, .null, .int 0, .int 0, .int 0, .int 0, .int 0])), (q_1, .inr (1, [.int 20, .ref q_4, .int 0])), (q_4, .inl (cA_5, 0, .inl (fun _ => 0))), (q_6, .inr (1, [.int 20, .ref q_9, .int 0])), (q_9, .inl (cA_10, 0, .inl (fun _ => 0)))] := hD
  refine lv_aload_n hx hb dX0_init_30 rfl (lv_at hl 0 rfl) ?_
  refine va_new (ci := 1) (fs := [.int 0, .null, .int 0]) (C := RX1) (T := TX1) (N := 3) hx hb hts kt_X1 tyX1 tyX1_ok hown (kx_word hG kq_29 rfl) (kx_word hG kq_20 rfl) (kx_word hG kq_21 rfl) hK hP hD hS hA rfl (fun j hj => by rcases (show j = 0 ∨ j = 1 ∨ j = 2 by omega) with rfl | rfl | rfl <;> rfl) (Nat.le_of_ble_eq_true rfl) (Nat.le_of_ble_eq_true rfl) dX0_init_31 (fun q_11 H hP hD hS => ?_)
  have hP : va_P (dC, dI) kxCl [(h0, .inr (0, [.int 0, .int 0, .ref q_1, .ref q_6, .null, .null, .null, .int 0, .int 0, .int 0, .int 0, .int 0])), (q_1, .inr (1, [.int 20, .ref q_4, .int 0])), (q_4, .inl (cA_5, 0, .inl (fun _ => 0))), (q_6, .inr (1, [.int 20, .ref q_9, .int 0])), (q_9, .inl (cA_10, 0, .inl (fun _ => 0))), (q_11, .inr (1, [.int 0, .null, .int 0]))] H := hP
  have hD : va_D A [(h0, .inr (0, [.int 0, .int 0, .ref q_1, .ref q_6, .null, .null, .null, .int 0, .int 0, .int 0, .int 0, .int 0])), (q_1, .inr (1, [.int 20, .ref q_4, .int 0])), (q_4, .inl (cA_5, 0, .inl (fun _ => 0))), (q_6, .inr (1, [.int 20, .ref q_9, .int 0])), (q_9, .inl (cA_10, 0, .inl (fun _ => 0))), (q_11, .inr (1, [.int 0, .null, .int 0]))] := hD
  refine W.widen (k := 5) (n := 9) (by omega) (by omega) ?_
  refine lv_dup hx hb dX0_init_34 rfl ?_
  refine lv_bipush (v := 40) hx hb dX0_init_35 (by decide) ?_
  have hPc := hP.sub (ws' := [(q_11, .inr (1, [.int 0, .null, .int 0]))]) [5] rfl
  have hDc := hD.sub (ws' := [(q_11, .inr (1, [.int 0, .null, .int 0]))]) [5] (by decide) rfl
  have hKc := hK.sub (tys' := []) [] rfl
  have hFc := va_free (wc := [(q_11, .inr (1, [.int 0, .null, .int 0]))]) hD hS hA [5] rfl
  refine va_callv (va_runI (As := [.int 40]) (rest := [.ref q_11, .ref h0]) ⟨hx, hb, hml, hown, hts⟩ (c_Ints_init l hlf dC dI q_11 40 H.size ) (cwI 1 hts (kx_gI kq_22 rfl) rfl rfl rfl (kx_word hG kq_21 rfl) (kx_word hG kq_30 rfl) (kx_word hG kq_24 rfl) rfl (by decide +kernel) ⟨Nat.le_of_ble_eq_true rfl, Nat.le_of_ble_eq_true rfl⟩) ⟨kx_blind, kx_give (ws := []) (tys := []) hPc hDc hKc hG hZ hS hFc⟩ rfl rfl hl.1 rfl (lv_room (Nat.le_of_ble_eq_true rfl)) dX0_init_37 ⟨Nat.le_of_ble_eq_true rfl, Nat.le_of_ble_eq_true rfl⟩) hS (fun q _ h => hFc q h) hFc (fun u t H1 locs ht hvm hw_13 hB hz1 hk1 hS => ?_)
  obtain ⟨q_14, cA_15⟩ := u
  obtain ⟨hP1, hK1, hD1⟩ := hB
  rw [ht] at hP1
  have hK1 := va_K.moved hvm.symm hK1
  try dsimp only at hw_13
  obtain ⟨hP, hD⟩ := va_join (wr := [(h0, .inr (0, [.int 0, .int 0, .ref q_1, .ref q_6, .null, .null, .null, .int 0, .int 0, .int 0, .int 0, .int 0])), (q_1, .inr (1, [.int 20, .ref q_4, .int 0])), (q_4, .inl (cA_5, 0, .inl (fun _ => 0))), (q_6, .inr (1, [.int 20, .ref q_9, .int 0])), (q_9, .inl (cA_10, 0, .inl (fun _ => 0)))]) (w1 := [(q_11, .inr (1, [.int 40, .ref q_14, .int 0])), (q_14, .inl (cA_15, 0, .inl (fun _ => 0)))]) hP hD [5] [0, 1, 2, 3, 4] rfl rfl (by decide) (by decide) hk1 hFc hP1 hD1
  have hK := (hK.sub (tys' := [(cA_5, .int), (cA_10, .int)]) [0, 1] rfl).app hK1
  generalize H1 = H at hP hS ⊢
  have hP : va_P (dC, dI) kxCl [(h0, .inr (0, [.int 0, .int 0, .ref q_1, .ref q_6, .null, .null, .null, .int 0, .int 0, .int 0, .int 0, .int 0])), (q_1, .inr (1, [.int 20, .ref q_4, .int 0])), (q_4, .inl (cA_5, 0, .inl (fun _ => 0))), (q_6, .inr (1, [.int 20, .ref q_9, .int 0])), (q_9, .inl (cA_10, 0, .inl (fun _ => 0))), (q_11, .inr (1, [.int 40, .ref q_14, .int 0])), (q_14, .inl (cA_15, 0, .inl (fun _ => 0)))] H := hP
  have hD : va_D A [(h0, .inr (0, [.int 0, .int 0, .ref q_1, .ref q_6, .null, .null, .null, .int 0, .int 0, .int 0, .int 0, .int 0])), (q_1, .inr (1, [.int 20, .ref q_4, .int 0])), (q_4, .inl (cA_5, 0, .inl (fun _ => 0))), (q_6, .inr (1, [.int 20, .ref q_9, .int 0])), (q_9, .inl (cA_10, 0, .inl (fun _ => 0))), (q_11, .inr (1, [.int 40, .ref q_14, .int 0])), (q_14, .inl (cA_15, 0, .inl (fun _ => 0)))] := hD
  have hK : va_K (dC, dI) kxCl [(cA_5, .int), (cA_10, .int), (cA_15, .int)] s := hK
  refine W.widen (k := 6) (n := 9) (by omega) (by omega) ?_
  refine va_putF (D := (dC, dI)) (ci := 0) (v := .ref q_11) (ty := .object "IndexSort$Ints") (C := RX0) (T := TX0) (N := 12) hx hb hts kt_X0 tyX0 tyX0_ok nmX0 hown hK hP hD hS 0 rfl rfl 4 (by decide) (kx_word hG kq_33 rfl) (fun _ h9 => h9) rfl hin rfl (by decide +kernel) rfl rfl (Nat.le_of_ble_eq_true rfl) dX0_init_40 (fun H locs hP hD hS => ?_)
  have hP : va_P (dC, dI) kxCl [(h0, .inr (0, [.int 0, .int 0, .ref q_1, .ref q_6, .ref q_11, .null, .null, .int 0, .int 0, .int 0, .int 0, .int 0])), (q_1, .inr (1, [.int 20, .ref q_4, .int 0])), (q_4, .inl (cA_5, 0, .inl (fun _ => 0))), (q_6, .inr (1, [.int 20, .ref q_9, .int 0])), (q_9, .inl (cA_10, 0, .inl (fun _ => 0))), (q_11, .inr (1, [.int 40, .ref q_14, .int 0])), (q_14, .inl (cA_15, 0, .inl (fun _ => 0)))] H := hP
  have hD : va_D A [(h0, .inr (0, [.int 0, .int 0, .ref q_1, .ref q_6, .ref q_11, .null, .null, .int 0, .int 0, .int 0, .int 0, .int 0])), (q_1, .inr (1, [.int 20, .ref q_4, .int 0])), (q_4, .inl (cA_5, 0, .inl (fun _ => 0))), (q_6, .inr (1, [.int 20, .ref q_9, .int 0])), (q_9, .inl (cA_10, 0, .inl (fun _ => 0))), (q_11, .inr (1, [.int 40, .ref q_14, .int 0])), (q_14, .inl (cA_15, 0, .inl (fun _ => 0)))] := hD
  refine lv_aload_n hx hb dX0_init_43 rfl (lv_at hl 0 rfl) ?_
  refine va_new (ci := 3) (fs := [.null, .null, .null]) (C := RX3) (T := TX3) (N := 3) hx hb hts kt_X3 tyX3 tyX3_ok hown (kx_word hG kq_34 rfl) (kx_word hG kq_35 rfl) (kx_word hG kq_36 rfl) hK hP hD hS hA rfl (fun j hj => by rcases (show j = 0 ∨ j = 1 ∨ j = 2 by omega) with rfl | rfl | rfl <;> rfl) (Nat.le_of_ble_eq_true rfl) (Nat.le_of_ble_eq_true rfl) dX0_init_44 (fun q_16 H hP hD hS => ?_)
  have hP : va_P (dC, dI) kxCl [(h0, .inr (0, [.int 0, .int 0, .ref q_1, .ref q_6, .ref q_11, .null, .null, .int 0, .int 0, .int 0, .int 0, .int 0])), (q_1, .inr (1, [.int 20, .ref q_4, .int 0])), (q_4, .inl (cA_5, 0, .inl (fun _ => 0))), (q_6, .inr (1, [.int 20, .ref q_9, .int 0])), (q_9, .inl (cA_10, 0, .inl (fun _ => 0))), (q_11, .inr (1, [.int 40, .ref q_14, .int 0])), (q_14, .inl (cA_15, 0, .inl (fun _ => 0))), (q_16, .inr (3, [.null, .null, .null]))] H := hP
  have hD : va_D A [(h0, .inr (0, [.int 0, .int 0, .ref q_1, .ref q_6, .ref q_11, .null, .null, .int 0, .int 0, .int 0, .int 0, .int 0])), (q_1, .inr (1, [.int 20, .ref q_4, .int 0])), (q_4, .inl (cA_5, 0, .inl (fun _ => 0))), (q_6, .inr (1, [.int 20, .ref q_9, .int 0])), (q_9, .inl (cA_10, 0, .inl (fun _ => 0))), (q_11, .inr (1, [.int 40, .ref q_14, .int 0])), (q_14, .inl (cA_15, 0, .inl (fun _ => 0))), (q_16, .inr (3, [.null, .null, .null]))] := hD
  refine W.widen (k := 7) (n := 12) (by omega) (by omega) ?_
  refine lv_dup hx hb dX0_init_47 rfl ?_
  refine lv_bipush (v := 20) hx hb dX0_init_48 (by decide) ?_
  have hPc := hP.sub (ws' := [(q_16, .inr (3, [.null, .null, .null]))]) [7] rfl
  have hDc := hD.sub (ws' := [(q_16, .inr (3, [.null, .null, .null]))]) [7] (by decide) rfl
  have hKc := hK.sub (tys' := []) [] rfl
  have hFc := va_free (wc := [(q_16, .inr (3, [.null, .null, .null]))]) hD hS hA [7] rfl
  refine va_callv (va_runI (As := [.int 20]) (rest := [.ref q_16, .ref h0]) ⟨hx, hb, hml, hown, hts⟩ (c_Spans_init l hlf dC dI q_16 20 H.size ) (cwI 1 hts (kx_gI kq_37 rfl) rfl rfl rfl (kx_word hG kq_36 rfl) (kx_word hG kq_38 rfl) (kx_word hG kq_39 rfl) rfl (by decide +kernel) ⟨Nat.le_of_ble_eq_true rfl, Nat.le_of_ble_eq_true rfl⟩) ⟨kx_blind, kx_give (ws := []) (tys := []) hPc hDc hKc hG hZ hS hFc⟩ rfl rfl hl.1 rfl (lv_room (Nat.le_of_ble_eq_true rfl)) dX0_init_50 ⟨Nat.le_of_ble_eq_true rfl, Nat.le_of_ble_eq_true rfl⟩) hS (fun q _ h => hFc q h) hFc (fun u t H1 locs ht hvm hw_18 hB hz1 hk1 hS => ?_)
  obtain ⟨hP1, hK1, hD1⟩ := hB
  rw [ht] at hP1
  have hK1 := va_K.moved hvm.symm hK1
  try dsimp only at hw_18
  obtain ⟨hP, hD⟩ := va_join (wr := [(h0, .inr (0, [.int 0, .int 0, .ref q_1, .ref q_6, .ref q_11, .null, .null, .int 0, .int 0, .int 0, .int 0, .int 0])), (q_1, .inr (1, [.int 20, .ref q_4, .int 0])), (q_4, .inl (cA_5, 0, .inl (fun _ => 0))), (q_6, .inr (1, [.int 20, .ref q_9, .int 0])), (q_9, .inl (cA_10, 0, .inl (fun _ => 0))), (q_11, .inr (1, [.int 40, .ref q_14, .int 0])), (q_14, .inl (cA_15, 0, .inl (fun _ => 0)))]) (w1 := []) hP hD [7] [0, 1, 2, 3, 4, 5, 6] rfl rfl (by decide) (by decide) hk1 hFc hP1 hD1
  have hK := (hK.sub (tys' := [(cA_5, .int), (cA_10, .int), (cA_15, .int)]) [0, 1, 2] rfl).app hK1
  generalize H1 = H at hP hS ⊢
  have hP : va_P (dC, dI) kxCl [(h0, .inr (0, [.int 0, .int 0, .ref q_1, .ref q_6, .ref q_11, .null, .null, .int 0, .int 0, .int 0, .int 0, .int 0])), (q_1, .inr (1, [.int 20, .ref q_4, .int 0])), (q_4, .inl (cA_5, 0, .inl (fun _ => 0))), (q_6, .inr (1, [.int 20, .ref q_9, .int 0])), (q_9, .inl (cA_10, 0, .inl (fun _ => 0))), (q_11, .inr (1, [.int 40, .ref q_14, .int 0])), (q_14, .inl (cA_15, 0, .inl (fun _ => 0)))] H := hP
  have hD : va_D A [(h0, .inr (0, [.int 0, .int 0, .ref q_1, .ref q_6, .ref q_11, .null, .null, .int 0, .int 0, .int 0, .int 0, .int 0])), (q_1, .inr (1, [.int 20, .ref q_4, .int 0])), (q_4, .inl (cA_5, 0, .inl (fun _ => 0))), (q_6, .inr (1, [.int 20, .ref q_9, .int 0])), (q_9, .inl (cA_10, 0, .inl (fun _ => 0))), (q_11, .inr (1, [.int 40, .ref q_14, .int 0])), (q_14, .inl (cA_15, 0, .inl (fun _ => 0)))] := hD
  have hK : va_K (dC, dI) kxCl [(cA_5, .int), (cA_10, .int), (cA_15, .int)] s := hK
  refine W.widen (k := 13) (n := 21) (by omega) (by omega) ?_
  refine va_putF (D := (dC, dI)) (ci := 0) (v := .ref q_16) (ty := .object "IndexSort$Spans") (C := RX0) (T := TX0) (N := 12) hx hb hts kt_X0 tyX0 tyX0_ok nmX0 hown hK hP hD hS 0 rfl rfl 5 (by decide) (kx_word hG kq_40 rfl) (fun _ h9 => h9) rfl hin rfl (by decide +kernel) rfl rfl (Nat.le_of_ble_eq_true rfl) dX0_init_53 (fun H locs hP hD hS => ?_)
  have hP : va_P (dC, dI) kxCl [(h0, .inr (0, [.int 0, .int 0, .ref q_1, .ref q_6, .ref q_11, .ref q_16, .null, .int 0, .int 0, .int 0, .int 0, .int 0])), (q_1, .inr (1, [.int 20, .ref q_4, .int 0])), (q_4, .inl (cA_5, 0, .inl (fun _ => 0))), (q_6, .inr (1, [.int 20, .ref q_9, .int 0])), (q_9, .inl (cA_10, 0, .inl (fun _ => 0))), (q_11, .inr (1, [.int 40, .ref q_14, .int 0])), (q_14, .inl (cA_15, 0, .inl (fun _ => 0)))] H := hP
  have hD : va_D A [(h0, .inr (0, [.int 0, .int 0, .ref q_1, .ref q_6, .ref q_11, .ref q_16, .null, .int 0, .int 0, .int 0, .int 0, .int 0])), (q_1, .inr (1, [.int 20, .ref q_4, .int 0])), (q_4, .inl (cA_5, 0, .inl (fun _ => 0))), (q_6, .inr (1, [.int 20, .ref q_9, .int 0])), (q_9, .inl (cA_10, 0, .inl (fun _ => 0))), (q_11, .inr (1, [.int 40, .ref q_14, .int 0])), (q_14, .inl (cA_15, 0, .inl (fun _ => 0)))] := hD
  refine lv_aload_n hx hb dX0_init_56 rfl (lv_at hl 0 rfl) ?_
  refine va_new (ci := 1) (fs := [.int 0, .null, .int 0]) (C := RX1) (T := TX1) (N := 3) hx hb hts kt_X1 tyX1 tyX1_ok hown (kx_word hG kq_29 rfl) (kx_word hG kq_20 rfl) (kx_word hG kq_21 rfl) hK hP hD hS hA rfl (fun j hj => by rcases (show j = 0 ∨ j = 1 ∨ j = 2 by omega) with rfl | rfl | rfl <;> rfl) (Nat.le_of_ble_eq_true rfl) (Nat.le_of_ble_eq_true rfl) dX0_init_57 (fun q_19 H hP hD hS => ?_)
  have hP : va_P (dC, dI) kxCl [(h0, .inr (0, [.int 0, .int 0, .ref q_1, .ref q_6, .ref q_11, .ref q_16, .null, .int 0, .int 0, .int 0, .int 0, .int 0])), (q_1, .inr (1, [.int 20, .ref q_4, .int 0])), (q_4, .inl (cA_5, 0, .inl (fun _ => 0))), (q_6, .inr (1, [.int 20, .ref q_9, .int 0])), (q_9, .inl (cA_10, 0, .inl (fun _ => 0))), (q_11, .inr (1, [.int 40, .ref q_14, .int 0])), (q_14, .inl (cA_15, 0, .inl (fun _ => 0))), (q_19, .inr (1, [.int 0, .null, .int 0]))] H := hP
  have hD : va_D A [(h0, .inr (0, [.int 0, .int 0, .ref q_1, .ref q_6, .ref q_11, .ref q_16, .null, .int 0, .int 0, .int 0, .int 0, .int 0])), (q_1, .inr (1, [.int 20, .ref q_4, .int 0])), (q_4, .inl (cA_5, 0, .inl (fun _ => 0))), (q_6, .inr (1, [.int 20, .ref q_9, .int 0])), (q_9, .inl (cA_10, 0, .inl (fun _ => 0))), (q_11, .inr (1, [.int 40, .ref q_14, .int 0])), (q_14, .inl (cA_15, 0, .inl (fun _ => 0))), (q_19, .inr (1, [.int 0, .null, .int 0]))] := hD
  refine W.widen (k := 14) (n := 24) (by omega) (by omega) ?_
  refine lv_dup hx hb dX0_init_60 rfl ?_
  refine lv_iconst (v := 5) hx hb dX0_init_61 (by decide) ?_
  have hPc := hP.sub (ws' := [(q_19, .inr (1, [.int 0, .null, .int 0]))]) [7] rfl
  have hDc := hD.sub (ws' := [(q_19, .inr (1, [.int 0, .null, .int 0]))]) [7] (by decide) rfl
  have hKc := hK.sub (tys' := []) [] rfl
  have hFc := va_free (wc := [(q_19, .inr (1, [.int 0, .null, .int 0]))]) hD hS hA [7] rfl
  refine va_callv (va_runI (As := [.int 5]) (rest := [.ref q_19, .ref h0]) ⟨hx, hb, hml, hown, hts⟩ (c_Ints_init l hlf dC dI q_19 5 H.size ) (cwI 1 hts (kx_gI kq_22 rfl) rfl rfl rfl (kx_word hG kq_21 rfl) (kx_word hG kq_30 rfl) (kx_word hG kq_24 rfl) rfl (by decide +kernel) ⟨Nat.le_of_ble_eq_true rfl, Nat.le_of_ble_eq_true rfl⟩) ⟨kx_blind, kx_give (ws := []) (tys := []) hPc hDc hKc hG hZ hS hFc⟩ rfl rfl hl.1 rfl (lv_room (Nat.le_of_ble_eq_true rfl)) dX0_init_62 ⟨Nat.le_of_ble_eq_true rfl, Nat.le_of_ble_eq_true rfl⟩) hS (fun q _ h => hFc q h) hFc (fun u t H1 locs ht hvm hw_21 hB hz1 hk1 hS => ?_)
  obtain ⟨q_22, cA_23⟩ := u
  obtain ⟨hP1, hK1, hD1⟩ := hB
  rw [ht] at hP1
  have hK1 := va_K.moved hvm.symm hK1
  try dsimp only at hw_21
  obtain ⟨hP, hD⟩ := va_join (wr := [(h0, .inr (0, [.int 0, .int 0, .ref q_1, .ref q_6, .ref q_11, .ref q_16, .null, .int 0, .int 0, .int 0, .int 0, .int 0])), (q_1, .inr (1, [.int 20, .ref q_4, .int 0])), (q_4, .inl (cA_5, 0, .inl (fun _ => 0))), (q_6, .inr (1, [.int 20, .ref q_9, .int 0])), (q_9, .inl (cA_10, 0, .inl (fun _ => 0))), (q_11, .inr (1, [.int 40, .ref q_14, .int 0])), (q_14, .inl (cA_15, 0, .inl (fun _ => 0)))]) (w1 := [(q_19, .inr (1, [.int 5, .ref q_22, .int 0])), (q_22, .inl (cA_23, 0, .inl (fun _ => 0)))]) hP hD [7] [0, 1, 2, 3, 4, 5, 6] rfl rfl (by decide) (by decide) hk1 hFc hP1 hD1
  have hK := (hK.sub (tys' := [(cA_5, .int), (cA_10, .int), (cA_15, .int)]) [0, 1, 2] rfl).app hK1
  generalize H1 = H at hP hS ⊢
  have hP : va_P (dC, dI) kxCl [(h0, .inr (0, [.int 0, .int 0, .ref q_1, .ref q_6, .ref q_11, .ref q_16, .null, .int 0, .int 0, .int 0, .int 0, .int 0])), (q_1, .inr (1, [.int 20, .ref q_4, .int 0])), (q_4, .inl (cA_5, 0, .inl (fun _ => 0))), (q_6, .inr (1, [.int 20, .ref q_9, .int 0])), (q_9, .inl (cA_10, 0, .inl (fun _ => 0))), (q_11, .inr (1, [.int 40, .ref q_14, .int 0])), (q_14, .inl (cA_15, 0, .inl (fun _ => 0))), (q_19, .inr (1, [.int 5, .ref q_22, .int 0])), (q_22, .inl (cA_23, 0, .inl (fun _ => 0)))] H := hP
  have hD : va_D A [(h0, .inr (0, [.int 0, .int 0, .ref q_1, .ref q_6, .ref q_11, .ref q_16, .null, .int 0, .int 0, .int 0, .int 0, .int 0])), (q_1, .inr (1, [.int 20, .ref q_4, .int 0])), (q_4, .inl (cA_5, 0, .inl (fun _ => 0))), (q_6, .inr (1, [.int 20, .ref q_9, .int 0])), (q_9, .inl (cA_10, 0, .inl (fun _ => 0))), (q_11, .inr (1, [.int 40, .ref q_14, .int 0])), (q_14, .inl (cA_15, 0, .inl (fun _ => 0))), (q_19, .inr (1, [.int 5, .ref q_22, .int 0])), (q_22, .inl (cA_23, 0, .inl (fun _ => 0)))] := hD
  have hK : va_K (dC, dI) kxCl [(cA_5, .int), (cA_10, .int), (cA_15, .int), (cA_23, .int)] s := hK
  refine W.widen (k := 15) (n := 24) (by omega) (by omega) ?_
  refine va_putF (D := (dC, dI)) (ci := 0) (v := .ref q_19) (ty := .object "IndexSort$Ints") (C := RX0) (T := TX0) (N := 12) hx hb hts kt_X0 tyX0 tyX0_ok nmX0 hown hK hP hD hS 0 rfl rfl 6 (by decide) (kx_word hG kq_41 rfl) (fun _ h9 => h9) rfl hin rfl (by decide +kernel) rfl rfl (Nat.le_of_ble_eq_true rfl) dX0_init_65 (fun H locs hP hD hS => ?_)
  have hP : va_P (dC, dI) kxCl [(h0, .inr (0, [.int 0, .int 0, .ref q_1, .ref q_6, .ref q_11, .ref q_16, .ref q_19, .int 0, .int 0, .int 0, .int 0, .int 0])), (q_1, .inr (1, [.int 20, .ref q_4, .int 0])), (q_4, .inl (cA_5, 0, .inl (fun _ => 0))), (q_6, .inr (1, [.int 20, .ref q_9, .int 0])), (q_9, .inl (cA_10, 0, .inl (fun _ => 0))), (q_11, .inr (1, [.int 40, .ref q_14, .int 0])), (q_14, .inl (cA_15, 0, .inl (fun _ => 0))), (q_19, .inr (1, [.int 5, .ref q_22, .int 0])), (q_22, .inl (cA_23, 0, .inl (fun _ => 0)))] H := hP
  have hD : va_D A [(h0, .inr (0, [.int 0, .int 0, .ref q_1, .ref q_6, .ref q_11, .ref q_16, .ref q_19, .int 0, .int 0, .int 0, .int 0, .int 0])), (q_1, .inr (1, [.int 20, .ref q_4, .int 0])), (q_4, .inl (cA_5, 0, .inl (fun _ => 0))), (q_6, .inr (1, [.int 20, .ref q_9, .int 0])), (q_9, .inl (cA_10, 0, .inl (fun _ => 0))), (q_11, .inr (1, [.int 40, .ref q_14, .int 0])), (q_14, .inl (cA_15, 0, .inl (fun _ => 0))), (q_19, .inr (1, [.int 5, .ref q_22, .int 0])), (q_22, .inl (cA_23, 0, .inl (fun _ => 0)))] := hD
  refine lv_aload_n hx hb dX0_init_68 rfl (lv_at hl 0 rfl) ?_
  refine lv_iconst (v := (-1)) hx hb dX0_init_69 (by decide) ?_
  refine va_put (D := (dC, dI)) (ci := 0) (v := .int (-1)) (ty := .int) (C := RX0) (T := TX0) (N := 12) hx hb hts kt_X0 tyX0 tyX0_ok nmX0 hown hK hP hD hS 0 rfl rfl 7 (by decide) (kx_word hG kq_42 rfl) (fun _ h9 => h9) rfl (by decide +kernel) rfl rfl (Nat.le_of_ble_eq_true rfl) dX0_init_70 (fun H locs hP hD hS => ?_)
  have hP : va_P (dC, dI) kxCl [(h0, .inr (0, [.int 0, .int 0, .ref q_1, .ref q_6, .ref q_11, .ref q_16, .ref q_19, .int (-1), .int 0, .int 0, .int 0, .int 0])), (q_1, .inr (1, [.int 20, .ref q_4, .int 0])), (q_4, .inl (cA_5, 0, .inl (fun _ => 0))), (q_6, .inr (1, [.int 20, .ref q_9, .int 0])), (q_9, .inl (cA_10, 0, .inl (fun _ => 0))), (q_11, .inr (1, [.int 40, .ref q_14, .int 0])), (q_14, .inl (cA_15, 0, .inl (fun _ => 0))), (q_19, .inr (1, [.int 5, .ref q_22, .int 0])), (q_22, .inl (cA_23, 0, .inl (fun _ => 0)))] H := hP
  have hD : va_D A [(h0, .inr (0, [.int 0, .int 0, .ref q_1, .ref q_6, .ref q_11, .ref q_16, .ref q_19, .int (-1), .int 0, .int 0, .int 0, .int 0])), (q_1, .inr (1, [.int 20, .ref q_4, .int 0])), (q_4, .inl (cA_5, 0, .inl (fun _ => 0))), (q_6, .inr (1, [.int 20, .ref q_9, .int 0])), (q_9, .inl (cA_10, 0, .inl (fun _ => 0))), (q_11, .inr (1, [.int 40, .ref q_14, .int 0])), (q_14, .inl (cA_15, 0, .inl (fun _ => 0))), (q_19, .inr (1, [.int 5, .ref q_22, .int 0])), (q_22, .inl (cA_23, 0, .inl (fun _ => 0)))] := hD
  refine lv_aload_n hx hb dX0_init_73 rfl (lv_at hl 0 rfl) ?_
  refine lv_iconst (v := (-1)) hx hb dX0_init_74 (by decide) ?_
  refine va_put (D := (dC, dI)) (ci := 0) (v := .int (-1)) (ty := .int) (C := RX0) (T := TX0) (N := 12) hx hb hts kt_X0 tyX0 tyX0_ok nmX0 hown hK hP hD hS 0 rfl rfl 8 (by decide) (kx_word hG kq_43 rfl) (fun _ h9 => h9) rfl (by decide +kernel) rfl rfl (Nat.le_of_ble_eq_true rfl) dX0_init_75 (fun H locs hP hD hS => ?_)
  have hP : va_P (dC, dI) kxCl [(h0, .inr (0, [.int 0, .int 0, .ref q_1, .ref q_6, .ref q_11, .ref q_16, .ref q_19, .int (-1), .int (-1), .int 0, .int 0, .int 0])), (q_1, .inr (1, [.int 20, .ref q_4, .int 0])), (q_4, .inl (cA_5, 0, .inl (fun _ => 0))), (q_6, .inr (1, [.int 20, .ref q_9, .int 0])), (q_9, .inl (cA_10, 0, .inl (fun _ => 0))), (q_11, .inr (1, [.int 40, .ref q_14, .int 0])), (q_14, .inl (cA_15, 0, .inl (fun _ => 0))), (q_19, .inr (1, [.int 5, .ref q_22, .int 0])), (q_22, .inl (cA_23, 0, .inl (fun _ => 0)))] H := hP
  have hD : va_D A [(h0, .inr (0, [.int 0, .int 0, .ref q_1, .ref q_6, .ref q_11, .ref q_16, .ref q_19, .int (-1), .int (-1), .int 0, .int 0, .int 0])), (q_1, .inr (1, [.int 20, .ref q_4, .int 0])), (q_4, .inl (cA_5, 0, .inl (fun _ => 0))), (q_6, .inr (1, [.int 20, .ref q_9, .int 0])), (q_9, .inl (cA_10, 0, .inl (fun _ => 0))), (q_11, .inr (1, [.int 40, .ref q_14, .int 0])), (q_14, .inl (cA_15, 0, .inl (fun _ => 0))), (q_19, .inr (1, [.int 5, .ref q_22, .int 0])), (q_22, .inl (cA_23, 0, .inl (fun _ => 0)))] := hD
  refine lv_aload_n hx hb dX0_init_78 rfl (lv_at hl 0 rfl) ?_
  refine lv_iconst (v := 0) hx hb dX0_init_79 (by decide) ?_
  refine va_put (D := (dC, dI)) (ci := 0) (v := .int 0) (ty := .int) (C := RX0) (T := TX0) (N := 12) hx hb hts kt_X0 tyX0 tyX0_ok nmX0 hown hK hP hD hS 0 rfl rfl 9 (by decide) (kx_word hG kq_44 rfl) (fun _ h9 => h9) rfl (by decide +kernel) rfl rfl (Nat.le_of_ble_eq_true rfl) dX0_init_80 (fun H locs hP hD hS => ?_)
  have hP : va_P (dC, dI) kxCl [(h0, .inr (0, [.int 0, .int 0, .ref q_1, .ref q_6, .ref q_11, .ref q_16, .ref q_19, .int (-1), .int (-1), .int 0, .int 0, .int 0])), (q_1, .inr (1, [.int 20, .ref q_4, .int 0])), (q_4, .inl (cA_5, 0, .inl (fun _ => 0))), (q_6, .inr (1, [.int 20, .ref q_9, .int 0])), (q_9, .inl (cA_10, 0, .inl (fun _ => 0))), (q_11, .inr (1, [.int 40, .ref q_14, .int 0])), (q_14, .inl (cA_15, 0, .inl (fun _ => 0))), (q_19, .inr (1, [.int 5, .ref q_22, .int 0])), (q_22, .inl (cA_23, 0, .inl (fun _ => 0)))] H := hP
  have hD : va_D A [(h0, .inr (0, [.int 0, .int 0, .ref q_1, .ref q_6, .ref q_11, .ref q_16, .ref q_19, .int (-1), .int (-1), .int 0, .int 0, .int 0])), (q_1, .inr (1, [.int 20, .ref q_4, .int 0])), (q_4, .inl (cA_5, 0, .inl (fun _ => 0))), (q_6, .inr (1, [.int 20, .ref q_9, .int 0])), (q_9, .inl (cA_10, 0, .inl (fun _ => 0))), (q_11, .inr (1, [.int 40, .ref q_14, .int 0])), (q_14, .inl (cA_15, 0, .inl (fun _ => 0))), (q_19, .inr (1, [.int 5, .ref q_22, .int 0])), (q_22, .inl (cA_23, 0, .inl (fun _ => 0)))] := hD
  refine lv_aload_n hx hb dX0_init_83 rfl (lv_at hl 0 rfl) ?_
  refine lv_iconst (v := 0) hx hb dX0_init_84 (by decide) ?_
  refine va_put (D := (dC, dI)) (ci := 0) (v := .int 0) (ty := .int) (C := RX0) (T := TX0) (N := 12) hx hb hts kt_X0 tyX0 tyX0_ok nmX0 hown hK hP hD hS 0 rfl rfl 10 (by decide) (kx_word hG kq_45 rfl) (fun _ h9 => h9) rfl (by decide +kernel) rfl rfl (Nat.le_of_ble_eq_true rfl) dX0_init_85 (fun H locs hP hD hS => ?_)
  have hP : va_P (dC, dI) kxCl [(h0, .inr (0, [.int 0, .int 0, .ref q_1, .ref q_6, .ref q_11, .ref q_16, .ref q_19, .int (-1), .int (-1), .int 0, .int 0, .int 0])), (q_1, .inr (1, [.int 20, .ref q_4, .int 0])), (q_4, .inl (cA_5, 0, .inl (fun _ => 0))), (q_6, .inr (1, [.int 20, .ref q_9, .int 0])), (q_9, .inl (cA_10, 0, .inl (fun _ => 0))), (q_11, .inr (1, [.int 40, .ref q_14, .int 0])), (q_14, .inl (cA_15, 0, .inl (fun _ => 0))), (q_19, .inr (1, [.int 5, .ref q_22, .int 0])), (q_22, .inl (cA_23, 0, .inl (fun _ => 0)))] H := hP
  have hD : va_D A [(h0, .inr (0, [.int 0, .int 0, .ref q_1, .ref q_6, .ref q_11, .ref q_16, .ref q_19, .int (-1), .int (-1), .int 0, .int 0, .int 0])), (q_1, .inr (1, [.int 20, .ref q_4, .int 0])), (q_4, .inl (cA_5, 0, .inl (fun _ => 0))), (q_6, .inr (1, [.int 20, .ref q_9, .int 0])), (q_9, .inl (cA_10, 0, .inl (fun _ => 0))), (q_11, .inr (1, [.int 40, .ref q_14, .int 0])), (q_14, .inl (cA_15, 0, .inl (fun _ => 0))), (q_19, .inr (1, [.int 5, .ref q_22, .int 0])), (q_22, .inl (cA_23, 0, .inl (fun _ => 0)))] := hD
  refine lv_aload_n hx hb dX0_init_88 rfl (lv_at hl 0 rfl) ?_
  refine lv_iconst (v := 0) hx hb dX0_init_89 (by decide) ?_
  refine va_put (D := (dC, dI)) (ci := 0) (v := .int 0) (ty := .int) (C := RX0) (T := TX0) (N := 12) hx hb hts kt_X0 tyX0 tyX0_ok nmX0 hown hK hP hD hS 0 rfl rfl 11 (by decide) (kx_word hG kq_46 rfl) (fun _ h9 => h9) rfl (by decide +kernel) rfl rfl (Nat.le_of_ble_eq_true rfl) dX0_init_90 (fun H locs hP hD hS => ?_)
  have hP : va_P (dC, dI) kxCl [(h0, .inr (0, [.int 0, .int 0, .ref q_1, .ref q_6, .ref q_11, .ref q_16, .ref q_19, .int (-1), .int (-1), .int 0, .int 0, .int 0])), (q_1, .inr (1, [.int 20, .ref q_4, .int 0])), (q_4, .inl (cA_5, 0, .inl (fun _ => 0))), (q_6, .inr (1, [.int 20, .ref q_9, .int 0])), (q_9, .inl (cA_10, 0, .inl (fun _ => 0))), (q_11, .inr (1, [.int 40, .ref q_14, .int 0])), (q_14, .inl (cA_15, 0, .inl (fun _ => 0))), (q_19, .inr (1, [.int 5, .ref q_22, .int 0])), (q_22, .inl (cA_23, 0, .inl (fun _ => 0)))] H := hP
  have hD : va_D A [(h0, .inr (0, [.int 0, .int 0, .ref q_1, .ref q_6, .ref q_11, .ref q_16, .ref q_19, .int (-1), .int (-1), .int 0, .int 0, .int 0])), (q_1, .inr (1, [.int 20, .ref q_4, .int 0])), (q_4, .inl (cA_5, 0, .inl (fun _ => 0))), (q_6, .inr (1, [.int 20, .ref q_9, .int 0])), (q_9, .inl (cA_10, 0, .inl (fun _ => 0))), (q_11, .inr (1, [.int 40, .ref q_14, .int 0])), (q_14, .inl (cA_15, 0, .inl (fun _ => 0))), (q_19, .inr (1, [.int 5, .ref q_22, .int 0])), (q_22, .inl (cA_23, 0, .inl (fun _ => 0)))] := hD
  refine lv_aload_n hx hb dX0_init_93 rfl (lv_at hl 0 rfl) ?_
  refine lv_iload_n hx hb dX0_init_94 rfl (lv_at hl 1 rfl) ?_
  refine va_putF (D := (dC, dI)) (ci := 0) (v := .int lv) (ty := .int) (C := RX0) (T := TX0) (N := 12) hx hb hts kt_X0 tyX0 tyX0_ok nmX0 hown hK hP hD hS 0 rfl rfl 0 (by decide) (kx_word hG kq_47 rfl) (fun _ h9 => h9) rfl hin rfl (by decide +kernel) rfl rfl (Nat.le_of_ble_eq_true rfl) dX0_init_95 (fun H locs hP hD hS => ?_)
  have hP : va_P (dC, dI) kxCl [(h0, .inr (0, [.int lv, .int 0, .ref q_1, .ref q_6, .ref q_11, .ref q_16, .ref q_19, .int (-1), .int (-1), .int 0, .int 0, .int 0])), (q_1, .inr (1, [.int 20, .ref q_4, .int 0])), (q_4, .inl (cA_5, 0, .inl (fun _ => 0))), (q_6, .inr (1, [.int 20, .ref q_9, .int 0])), (q_9, .inl (cA_10, 0, .inl (fun _ => 0))), (q_11, .inr (1, [.int 40, .ref q_14, .int 0])), (q_14, .inl (cA_15, 0, .inl (fun _ => 0))), (q_19, .inr (1, [.int 5, .ref q_22, .int 0])), (q_22, .inl (cA_23, 0, .inl (fun _ => 0)))] H := hP
  have hD : va_D A [(h0, .inr (0, [.int lv, .int 0, .ref q_1, .ref q_6, .ref q_11, .ref q_16, .ref q_19, .int (-1), .int (-1), .int 0, .int 0, .int 0])), (q_1, .inr (1, [.int 20, .ref q_4, .int 0])), (q_4, .inl (cA_5, 0, .inl (fun _ => 0))), (q_6, .inr (1, [.int 20, .ref q_9, .int 0])), (q_9, .inl (cA_10, 0, .inl (fun _ => 0))), (q_11, .inr (1, [.int 40, .ref q_14, .int 0])), (q_14, .inl (cA_15, 0, .inl (fun _ => 0))), (q_19, .inr (1, [.int 5, .ref q_22, .int 0])), (q_22, .inl (cA_23, 0, .inl (fun _ => 0)))] := hD
  refine lv_aload_n hx hb dX0_init_98 rfl (lv_at hl 0 rfl) ?_
  refine lv_iload_n hx hb dX0_init_99 rfl (lv_at hl 2 rfl) ?_
  refine va_putF (D := (dC, dI)) (ci := 0) (v := .int ab) (ty := .int) (C := RX0) (T := TX0) (N := 12) hx hb hts kt_X0 tyX0 tyX0_ok nmX0 hown hK hP hD hS 0 rfl rfl 1 (by decide) (kx_word hG kq_48 rfl) (fun _ h9 => h9) rfl hin rfl (by decide +kernel) rfl rfl (Nat.le_of_ble_eq_true rfl) dX0_init_100 (fun H locs hP hD hS => ?_)
  have hP : va_P (dC, dI) kxCl [(h0, .inr (0, [.int lv, .int ab, .ref q_1, .ref q_6, .ref q_11, .ref q_16, .ref q_19, .int (-1), .int (-1), .int 0, .int 0, .int 0])), (q_1, .inr (1, [.int 20, .ref q_4, .int 0])), (q_4, .inl (cA_5, 0, .inl (fun _ => 0))), (q_6, .inr (1, [.int 20, .ref q_9, .int 0])), (q_9, .inl (cA_10, 0, .inl (fun _ => 0))), (q_11, .inr (1, [.int 40, .ref q_14, .int 0])), (q_14, .inl (cA_15, 0, .inl (fun _ => 0))), (q_19, .inr (1, [.int 5, .ref q_22, .int 0])), (q_22, .inl (cA_23, 0, .inl (fun _ => 0)))] H := hP
  have hD : va_D A [(h0, .inr (0, [.int lv, .int ab, .ref q_1, .ref q_6, .ref q_11, .ref q_16, .ref q_19, .int (-1), .int (-1), .int 0, .int 0, .int 0])), (q_1, .inr (1, [.int 20, .ref q_4, .int 0])), (q_4, .inl (cA_5, 0, .inl (fun _ => 0))), (q_6, .inr (1, [.int 20, .ref q_9, .int 0])), (q_9, .inl (cA_10, 0, .inl (fun _ => 0))), (q_11, .inr (1, [.int 40, .ref q_14, .int 0])), (q_14, .inl (cA_15, 0, .inl (fun _ => 0))), (q_19, .inr (1, [.int 5, .ref q_22, .int 0])), (q_22, .inl (cA_23, 0, .inl (fun _ => 0)))] := hD
  have hP9 := hP.sub (ws' := [(h0, .inr (0, [.int lv, .int ab, .ref q_1, .ref q_6, .ref q_11, .ref q_16, .ref q_19, .int (-1), .int (-1), .int 0, .int 0, .int 0]))]) [0] rfl
  have hD9 := hD.sub (ws' := [(h0, .inr (0, [.int lv, .int ab, .ref q_1, .ref q_6, .ref q_11, .ref q_16, .ref q_19, .int (-1), .int (-1), .int 0, .int 0, .int 0]))]) [0] (by decide) rfl
  have hK9 := hK.sub (tys' := []) [] rfl
  exact W.vret hx hb hr (fun t ht hW => ⟨⟨(q_1, q_6, q_11, q_16, q_19), rfl, trivial, by rw [ht]; exact hP9, va_K.moved hW.alike hK9, hD9⟩, hS.F ht⟩) hS.2.2 dX0_init_103
set_option maxHeartbeats 4000000 in
set_option maxRecDepth 100000 in
/-- IndexSort(): the cells that the first call may touch -/
theorem c_IndexSort_init (l : Launch) (hlf : l.stackTraces = false) (dC : Nat → ClassId) (dI : Nat → Nat → Nat) (x : Nat) (sz : Nat) : Met l yX5_init [.code yX5_init cX5_init 1 none] ({ frames := 4, cells := 44, slots := 163, locals := 76 }) (va_Pc [.ref x] (kx_Pre dC dI [(x, .inr (5, [.null, .null, .int 0, .int 0, .int 0, .null, .null, .int 0, .null, .null, .int 0, .null, .null, .null, .null, .null]))] [] sz)) (va_Qv (fun u : Nat × Nat × Nat × Nat × Nat × Nat × Nat × Nat × Nat × Nat × Nat × Nat × Nat × Nat × Nat × ClassId × ClassId => match u with | (xe, xn, xso, xro, xga, xlo, xse, xwa, xst, xou, xdr, xr1, xr2, xr3, xr4, cE, cI) => True) (fun (u : Nat × Nat × Nat × Nat × Nat × Nat × Nat × Nat × Nat × Nat × Nat × Nat × Nat × Nat × Nat × ClassId × ClassId) (t : State) => match u with | (xe, xn, xso, xro, xga, xlo, xse, xwa, xst, xou, xdr, xr1, xr2, xr3, xr4, cE, cI) => kx_At dC dI (va_A [(x, .inr (5, [.null, .null, .int 0, .int 0, .int 0, .null, .null, .int 0, .null, .null, .int 0, .null, .null, .null, .null, .null]))] sz) [(x, .inr (5, [.ref xe, .ref xn, .int 0, .int 1, .int 1, .ref xso, .ref xro, .int 0, .ref xga, .ref xlo, .int (-1), .ref xse, .ref xwa, .ref xst, .ref xou, .ref xdr])), (xe, .inl (cE, 80, .inr (.inr (.inr (.inr (fun _ => none)))))), (xso, .inr (1, [.int 80, .ref xr1, .int 0])), (xro, .inr (1, [.int 80, .ref xr2, .int 0])), (xwa, .inr (4, [.int (-1), .int 0, .int 0, .int 0, .int 0])), (xst, .inr (1, [.int 80, .ref xr3, .int 0])), (xr3, .inl (cI, 0, .inl (fun _ => 0))), (xou, .inr (2, [.ref xr4, .int 0, .int 0]))] [(cE, .object RX0), (cI, .int)] t) (va_A [(x, .inr (5, [.null, .null, .int 0, .int 0, .int 0, .null, .null, .int 0, .null, .null, .int 0, .null, .null, .null, .null, .null]))] sz)) 44 163 (va_A [(x, .inr (5, [.null, .null, .int 0, .int 0, .int 0, .null, .null, .int 0, .null, .null, .int 0, .null, .null, .null, .null, .null]))] sz) := by
  refine Met.ofW (cc := cX5_init) (maxL := 1) (ret := none) (by decide) rfl ?_
  intro p e s m args below meth c s₁ B hml hv
  obtain ⟨rfl, hsz, hP, hK, hD0, hG, hZ⟩ := hv
  have hx := B.exec
  have hb := B.bytes
  have hr := B.returns
  have hts := kx_hts (a := #[.ref x]) hG
  have hown : s.vm.findClass RX5 = some m.cls := findClass_of_methodNamed B.named
  have hlocks := B.notSynchronized
  have hin : meth.name = "<init>" := (name_of_methodNamed B.named B.method).1
  subst hsz
  have hD := hD0.self (sz := s.heap.size)
  generalize hAe : va_A [(x, .inr (5, [.null, .null, .int 0, .int 0, .int 0, .null, .null, .int 0, .null, .null, .int 0, .null, .null, .null, .null, .null]))] s.heap.size = A at hD hZ ⊢
  have hA : ∀ q : Nat, s.heap.size ≤ q → A q := fun q h => by rw [← hAe]; exact Or.inr h
  have hS : va_S A s.heap s.heap [] := va_S.rf
  have hP : va_P (dC, dI) kxCl [(x, .inr (5, [.null, .null, .int 0, .int 0, .int 0, .null, .null, .int 0, .null, .null, .int 0, .null, .null, .null, .null, .null]))] s.heap := hP
  have hl := lv_entry ([.ref x]) (n := 1) (Nat.le_of_ble_eq_true rfl)
  rw [lg_entry_eq]
  generalize (lg_sl ([.ref x]) ++ List.replicate (1 - (lg_sl ([.ref x])).length) Slot.unset).toArray = ls at hl ⊢
  have hl : lv_has ls 1 [(0, .ref x)] := hl
  refine lv_aload_n hx hb dX5_init_0 rfl (lv_at hl 0 rfl) ?_
  refine W.objInit hx hb hown (kx_word hG kq_49 rfl) (kx_word hG kq_1 rfl) (kx_word hG kq_2 rfl) rfl (by rw [hml]; exact hl.1) rfl dX5_init_1 (Nat.le_of_ble_eq_true rfl) (Nat.le_of_ble_eq_true rfl) ?_
  refine W.eq (g2 := F0 m 4 ls []) rfl ?_
  refine lv_aload_n hx hb dX5_init_4 rfl (lv_at hl 0 rfl) ?_
  refine lv_bipush (v := 80) hx hb dX5_init_5 (by decide) ?_
  refine va_newq (N' := 80) hx hb hown (kx_word hG kq_50 rfl) (kx_ao hG kq_51) hK hP hD hS hA (by decide) (by decide) (by decide) (Nat.le_of_ble_eq_true rfl) (Nat.le_of_ble_eq_true rfl) dX5_init_7 (fun q_1 cA_2 H hK hP hD hS => ?_)
  have hP : va_P (dC, dI) kxCl [(x, .inr (5, [.null, .null, .int 0, .int 0, .int 0, .null, .null, .int 0, .null, .null, .int 0, .null, .null, .null, .null, .null])), (q_1, .inl (cA_2, 80, .inr (.inr (.inr (.inr (fun _ => none))))))] H := hP
  have hD : va_D A [(x, .inr (5, [.null, .null, .int 0, .int 0, .int 0, .null, .null, .int 0, .null, .null, .int 0, .null, .null, .null, .null, .null])), (q_1, .inl (cA_2, 80, .inr (.inr (.inr (.inr (fun _ => none))))))] := hD
  have hK : va_K (dC, dI) kxCl [(cA_2, .object RX0)] s := hK
  refine W.widen (k := 1) (n := 80) (by omega) (by omega) ?_
  refine va_putF (D := (dC, dI)) (ci := 5) (v := .ref q_1) (ty := .array (.object "IndexSort$Entry")) (C := RX5) (T := TX5) (N := 16) hx hb hts kt_X5 tyX5 tyX5_ok nmX5 hown hK hP hD hS 0 rfl rfl 0 (by decide) (kx_word hG kq_52 rfl) (fun _ h9 => h9) rfl hin rfl (by decide +kernel) rfl rfl (Nat.le_of_ble_eq_true rfl) dX5_init_10 (fun H locs hP hD hS => ?_)
  have hP : va_P (dC, dI) kxCl [(x, .inr (5, [.ref q_1, .null, .int 0, .int 0, .int 0, .null, .null, .int 0, .null, .null, .int 0, .null, .null, .null, .null, .null])), (q_1, .inl (cA_2, 80, .inr (.inr (.inr (.inr (fun _ => none))))))] H := hP
  have hD : va_D A [(x, .inr (5, [.ref q_1, .null, .int 0, .int 0, .int 0, .null, .null, .int 0, .null, .null, .int 0, .null, .null, .null, .null, .null])), (q_1, .inl (cA_2, 80, .inr (.inr (.inr (.inr (fun _ => none))))))] := hD
  refine lv_aload_n hx hb dX5_init_13 rfl (lv_at hl 0 rfl) ?_
  refine va_new (ci := 0) (fs := [.int 0, .int 0, .null, .null, .null, .null, .null, .int 0, .int 0, .int 0, .int 0, .int 0]) (C := RX0) (T := TX0) (N := 12) hx hb hts kt_X0 tyX0 tyX0_ok hown (kx_word hG kq_50 rfl) (kx_word hG kq_53 rfl) (kx_word hG kq_54 rfl) hK hP hD hS hA rfl (fun j hj => by rcases (show j = 0 ∨ j = 1 ∨ j = 2 ∨ j = 3 ∨ j = 4 ∨ j = 5 ∨ j = 6 ∨ j = 7 ∨ j = 8 ∨ j = 9 ∨ j = 10 ∨ j = 11 by omega) with rfl | rfl | rfl | rfl | rfl | rfl | rfl | rfl | rfl | rfl | rfl | rfl <;> rfl) (Nat.le_of_ble_eq_true rfl) (Nat.le_of_ble_eq_true rfl) dX5_init_14 (fun q_3 H hP hD hS => ?_)
  have hP : va_P (dC, dI) kxCl [(x, .inr (5, [.ref q_1, .null, .int 0, .int 0, .int 0, .null, .null, .int 0, .null, .null, .int 0, .null, .null, .null, .null, .null])), (q_1, .inl (cA_2, 80, .inr (.inr (.inr (.inr (fun _ => none)))))), (q_3, .inr (0, [.int 0, .int 0, .null, .null, .null, .null, .null, .int 0, .int 0, .int 0, .int 0, .int 0]))] H := hP
  have hD : va_D A [(x, .inr (5, [.ref q_1, .null, .int 0, .int 0, .int 0, .null, .null, .int 0, .null, .null, .int 0, .null, .null, .null, .null, .null])), (q_1, .inl (cA_2, 80, .inr (.inr (.inr (.inr (fun _ => none)))))), (q_3, .inr (0, [.int 0, .int 0, .null, .null, .null, .null, .null, .int 0, .int 0, .int 0, .int 0, .int 0]))] := hD
  refine W.widen (k := 2) (n := 92) (by omega) (by omega) ?_
  refine lv_dup hx hb dX5_init_17 rfl ?_
  refine lv_iconst (v := 0) hx hb dX5_init_18 (by decide) ?_
  refine lv_iconst (v := (-1)) hx hb dX5_init_19 (by decide) ?_
  have hPc := hP.sub (ws' := [(q_3, .inr (0, [.int 0, .int 0, .null, .null, .null, .null, .null, .int 0, .int 0, .int 0, .int 0, .int 0]))]) [2] rfl
  have hDc := hD.sub (ws' := [(q_3, .inr (0, [.int 0, .int 0, .null, .null, .null, .null, .null, .int 0, .int 0, .int 0, .int 0, .int 0]))]) [2] (by decide) rfl
  have hKc := hK.sub (tys' := []) [] rfl
  have hFc := va_free (wc := [(q_3, .inr (0, [.int 0, .int 0, .null, .null, .null, .null, .null, .int 0, .int 0, .int 0, .int 0, .int 0]))]) hD hS hA [2] rfl
  refine va_callv (va_runI (As := [.int 0, .int (-1)]) (rest := [.ref q_3, .ref x]) ⟨hx, hb, hml, hown, hts⟩ (c_Entry_init l hlf dC dI q_3 0 (-1) H.size ) (cwI 2 hts (kx_gI kq_55 rfl) rfl rfl rfl (kx_word hG kq_54 rfl) (kx_word hG kq_56 rfl) (kx_word hG kq_57 rfl) rfl (by decide +kernel) ⟨Nat.le_of_ble_eq_true rfl, Nat.le_of_ble_eq_true rfl⟩) ⟨kx_blind, kx_give (ws := []) (tys := []) hPc hDc hKc hG hZ hS hFc⟩ rfl rfl hl.1 rfl (lv_room (Nat.le_of_ble_eq_true rfl)) dX5_init_20 ⟨Nat.le_of_ble_eq_true rfl, Nat.le_of_ble_eq_true rfl⟩) hS (fun q _ h => hFc q h) hFc (fun u t H1 locs ht hvm hw_5 hB hz1 hk1 hS => ?_)
  obtain ⟨q1_6, q2_7, q3_8, q4_9, q5_10⟩ := u
  obtain ⟨hP1, hK1, hD1⟩ := hB
  rw [ht] at hP1
  have hK1 := va_K.moved hvm.symm hK1
  try dsimp only at hw_5
  obtain ⟨hP, hD⟩ := va_join (wr := [(x, .inr (5, [.ref q_1, .null, .int 0, .int 0, .int 0, .null, .null, .int 0, .null, .null, .int 0, .null, .null, .null, .null, .null])), (q_1, .inl (cA_2, 80, .inr (.inr (.inr (.inr (fun _ => none))))))]) (w1 := [(q_3, .inr (0, [.int 0, .int (-1), .ref q1_6, .ref q2_7, .ref q3_8, .ref q4_9, .ref q5_10, .int (-1), .int (-1), .int 0, .int 0, .int 0]))]) hP hD [2] [0, 1] rfl rfl (by decide) (by decide) hk1 hFc hP1 hD1
  have hK := (hK.sub (tys' := [(cA_2, .object RX0)]) [0] rfl).app hK1
  generalize H1 = H at hP hS ⊢
  have hP : va_P (dC, dI) kxCl [(x, .inr (5, [.ref q_1, .null, .int 0, .int 0, .int 0, .null, .null, .int 0, .null, .null, .int 0, .null, .null, .null, .null, .null])), (q_1, .inl (cA_2, 80, .inr (.inr (.inr (.inr (fun _ => none)))))), (q_3, .inr (0, [.int 0, .int (-1), .ref q1_6, .ref q2_7, .ref q3_8, .ref q4_9, .ref q5_10, .int (-1), .int (-1), .int 0, .int 0, .int 0]))] H := hP
  have hD : va_D A [(x, .inr (5, [.ref q_1, .null, .int 0, .int 0, .int 0, .null, .null, .int 0, .null, .null, .int 0, .null, .null, .null, .null, .null])), (q_1, .inl (cA_2, 80, .inr (.inr (.inr (.inr (fun _ => none)))))), (q_3, .inr (0, [.int 0, .int (-1), .ref q1_6, .ref q2_7, .ref q3_8, .ref q4_9, .ref q5_10, .int (-1), .int (-1), .int 0, .int 0, .int 0]))] := hD
  have hK : va_K (dC, dI) kxCl [(cA_2, .object RX0)] s := hK
  refine W.widen (k := 17) (n := 116) (by omega) (by omega) ?_
  refine va_putF (D := (dC, dI)) (ci := 5) (v := .ref q_3) (ty := .object "IndexSort$Entry") (C := RX5) (T := TX5) (N := 16) hx hb hts kt_X5 tyX5 tyX5_ok nmX5 hown hK hP hD hS 0 rfl rfl 1 (by decide) (kx_word hG kq_58 rfl) (fun _ h9 => h9) rfl hin rfl (by decide +kernel) rfl rfl (Nat.le_of_ble_eq_true rfl) dX5_init_23 (fun H locs hP hD hS => ?_)
  have hP : va_P (dC, dI) kxCl [(x, .inr (5, [.ref q_1, .ref q_3, .int 0, .int 0, .int 0, .null, .null, .int 0, .null, .null, .int 0, .null, .null, .null, .null, .null])), (q_1, .inl (cA_2, 80, .inr (.inr (.inr (.inr (fun _ => none)))))), (q_3, .inr (0, [.int 0, .int (-1), .ref q1_6, .ref q2_7, .ref q3_8, .ref q4_9, .ref q5_10, .int (-1), .int (-1), .int 0, .int 0, .int 0]))] H := hP
  have hD : va_D A [(x, .inr (5, [.ref q_1, .ref q_3, .int 0, .int 0, .int 0, .null, .null, .int 0, .null, .null, .int 0, .null, .null, .null, .null, .null])), (q_1, .inl (cA_2, 80, .inr (.inr (.inr (.inr (fun _ => none)))))), (q_3, .inr (0, [.int 0, .int (-1), .ref q1_6, .ref q2_7, .ref q3_8, .ref q4_9, .ref q5_10, .int (-1), .int (-1), .int 0, .int 0, .int 0]))] := hD
  refine lv_aload_n hx hb dX5_init_26 rfl (lv_at hl 0 rfl) ?_
  refine lv_iconst (v := 0) hx hb dX5_init_27 (by decide) ?_
  refine va_put (D := (dC, dI)) (ci := 5) (v := .int 0) (ty := .int) (C := RX5) (T := TX5) (N := 16) hx hb hts kt_X5 tyX5 tyX5_ok nmX5 hown hK hP hD hS 0 rfl rfl 2 (by decide) (kx_word hG kq_59 rfl) (fun _ h9 => h9) rfl (by decide +kernel) rfl rfl (Nat.le_of_ble_eq_true rfl) dX5_init_28 (fun H locs hP hD hS => ?_)
  have hP : va_P (dC, dI) kxCl [(x, .inr (5, [.ref q_1, .ref q_3, .int 0, .int 0, .int 0, .null, .null, .int 0, .null, .null, .int 0, .null, .null, .null, .null, .null])), (q_1, .inl (cA_2, 80, .inr (.inr (.inr (.inr (fun _ => none)))))), (q_3, .inr (0, [.int 0, .int (-1), .ref q1_6, .ref q2_7, .ref q3_8, .ref q4_9, .ref q5_10, .int (-1), .int (-1), .int 0, .int 0, .int 0]))] H := hP
  have hD : va_D A [(x, .inr (5, [.ref q_1, .ref q_3, .int 0, .int 0, .int 0, .null, .null, .int 0, .null, .null, .int 0, .null, .null, .null, .null, .null])), (q_1, .inl (cA_2, 80, .inr (.inr (.inr (.inr (fun _ => none)))))), (q_3, .inr (0, [.int 0, .int (-1), .ref q1_6, .ref q2_7, .ref q3_8, .ref q4_9, .ref q5_10, .int (-1), .int (-1), .int 0, .int 0, .int 0]))] := hD
  refine lv_aload_n hx hb dX5_init_31 rfl (lv_at hl 0 rfl) ?_
  refine lv_iconst (v := 1) hx hb dX5_init_32 (by decide) ?_
  refine va_put (D := (dC, dI)) (ci := 5) (v := .int 1) (ty := .boolean) (C := RX5) (T := TX5) (N := 16) hx hb hts kt_X5 tyX5 tyX5_ok nmX5 hown hK hP hD hS 0 rfl rfl 3 (by decide) (kx_word hG kq_60 rfl) (fun _ h9 => h9) rfl (by decide +kernel) (by decide) (by decide) (Nat.le_of_ble_eq_true rfl) dX5_init_33 (fun H locs hP hD hS => ?_)
  have hP : va_P (dC, dI) kxCl [(x, .inr (5, [.ref q_1, .ref q_3, .int 0, .int 1, .int 0, .null, .null, .int 0, .null, .null, .int 0, .null, .null, .null, .null, .null])), (q_1, .inl (cA_2, 80, .inr (.inr (.inr (.inr (fun _ => none)))))), (q_3, .inr (0, [.int 0, .int (-1), .ref q1_6, .ref q2_7, .ref q3_8, .ref q4_9, .ref q5_10, .int (-1), .int (-1), .int 0, .int 0, .int 0]))] H := hP
  have hD : va_D A [(x, .inr (5, [.ref q_1, .ref q_3, .int 0, .int 1, .int 0, .null, .null, .int 0, .null, .null, .int 0, .null, .null, .null, .null, .null])), (q_1, .inl (cA_2, 80, .inr (.inr (.inr (.inr (fun _ => none)))))), (q_3, .inr (0, [.int 0, .int (-1), .ref q1_6, .ref q2_7, .ref q3_8, .ref q4_9, .ref q5_10, .int (-1), .int (-1), .int 0, .int 0, .int 0]))] := hD
  refine lv_aload_n hx hb dX5_init_36 rfl (lv_at hl 0 rfl) ?_
  refine lv_iconst (v := 1) hx hb dX5_init_37 (by decide) ?_
  refine va_put (D := (dC, dI)) (ci := 5) (v := .int 1) (ty := .boolean) (C := RX5) (T := TX5) (N := 16) hx hb hts kt_X5 tyX5 tyX5_ok nmX5 hown hK hP hD hS 0 rfl rfl 4 (by decide) (kx_word hG kq_61 rfl) (fun _ h9 => h9) rfl (by decide +kernel) (by decide) (by decide) (Nat.le_of_ble_eq_true rfl) dX5_init_38 (fun H locs hP hD hS => ?_)
  have hP : va_P (dC, dI) kxCl [(x, .inr (5, [.ref q_1, .ref q_3, .int 0, .int 1, .int 1, .null, .null, .int 0, .null, .null, .int 0, .null, .null, .null, .null, .null])), (q_1, .inl (cA_2, 80, .inr (.inr (.inr (.inr (fun _ => none)))))), (q_3, .inr (0, [.int 0, .int (-1), .ref q1_6, .ref q2_7, .ref q3_8, .ref q4_9, .ref q5_10, .int (-1), .int (-1), .int 0, .int 0, .int 0]))] H := hP
  have hD : va_D A [(x, .inr (5, [.ref q_1, .ref q_3, .int 0, .int 1, .int 1, .null, .null, .int 0, .null, .null, .int 0, .null, .null, .null, .null, .null])), (q_1, .inl (cA_2, 80, .inr (.inr (.inr (.inr (fun _ => none)))))), (q_3, .inr (0, [.int 0, .int (-1), .ref q1_6, .ref q2_7, .ref q3_8, .ref q4_9, .ref q5_10, .int (-1), .int (-1), .int 0, .int 0, .int 0]))] := hD
  refine lv_aload_n hx hb dX5_init_41 rfl (lv_at hl 0 rfl) ?_
  refine va_new (ci := 1) (fs := [.int 0, .null, .int 0]) (C := RX1) (T := TX1) (N := 3) hx hb hts kt_X1 tyX1 tyX1_ok hown (kx_word hG kq_62 rfl) (kx_word hG kq_20 rfl) (kx_word hG kq_21 rfl) hK hP hD hS hA rfl (fun j hj => by rcases (show j = 0 ∨ j = 1 ∨ j = 2 by omega) with rfl | rfl | rfl <;> rfl) (Nat.le_of_ble_eq_true rfl) (Nat.le_of_ble_eq_true rfl) dX5_init_42 (fun q_11 H hP hD hS => ?_)
  have hP : va_P (dC, dI) kxCl [(x, .inr (5, [.ref q_1, .ref q_3, .int 0, .int 1, .int 1, .null, .null, .int 0, .null, .null, .int 0, .null, .null, .null, .null, .null])), (q_1, .inl (cA_2, 80, .inr (.inr (.inr (.inr (fun _ => none)))))), (q_3, .inr (0, [.int 0, .int (-1), .ref q1_6, .ref q2_7, .ref q3_8, .ref q4_9, .ref q5_10, .int (-1), .int (-1), .int 0, .int 0, .int 0])), (q_11, .inr (1, [.int 0, .null, .int 0]))] H := hP
  have hD : va_D A [(x, .inr (5, [.ref q_1, .ref q_3, .int 0, .int 1, .int 1, .null, .null, .int 0, .null, .null, .int 0, .null, .null, .null, .null, .null])), (q_1, .inl (cA_2, 80, .inr (.inr (.inr (.inr (fun _ => none)))))), (q_3, .inr (0, [.int 0, .int (-1), .ref q1_6, .ref q2_7, .ref q3_8, .ref q4_9, .ref q5_10, .int (-1), .int (-1), .int 0, .int 0, .int 0])), (q_11, .inr (1, [.int 0, .null, .int 0]))] := hD
  refine W.widen (k := 18) (n := 119) (by omega) (by omega) ?_
  refine lv_dup hx hb dX5_init_45 rfl ?_
  refine lv_bipush (v := 80) hx hb dX5_init_46 (by decide) ?_
  have hPc := hP.sub (ws' := [(q_11, .inr (1, [.int 0, .null, .int 0]))]) [3] rfl
  have hDc := hD.sub (ws' := [(q_11, .inr (1, [.int 0, .null, .int 0]))]) [3] (by decide) rfl
  have hKc := hK.sub (tys' := []) [] rfl
  have hFc := va_free (wc := [(q_11, .inr (1, [.int 0, .null, .int 0]))]) hD hS hA [3] rfl
  refine va_callv (va_runI (As := [.int 80]) (rest := [.ref q_11, .ref x]) ⟨hx, hb, hml, hown, hts⟩ (c_Ints_init l hlf dC dI q_11 80 H.size ) (cwI 1 hts (kx_gI kq_22 rfl) rfl rfl rfl (kx_word hG kq_21 rfl) (kx_word hG kq_63 rfl) (kx_word hG kq_24 rfl) rfl (by decide +kernel) ⟨Nat.le_of_ble_eq_true rfl, Nat.le_of_ble_eq_true rfl⟩) ⟨kx_blind, kx_give (ws := []) (tys := []) hPc hDc hKc hG hZ hS hFc⟩ rfl rfl hl.1 rfl (lv_room (Nat.le_of_ble_eq_true rfl)) dX5_init_48 ⟨Nat.le_of_ble_eq_true rfl, Nat.le_of_ble_eq_true rfl⟩) hS (fun q _ h => hFc q h) hFc (fun u t H1 locs ht hvm hw_13 hB hz1 hk1 hS => ?_)
  obtain ⟨q_14, cA_15⟩ := u
  obtain ⟨hP1, hK1, hD1⟩ := hB
  rw [ht] at hP1
  have hK1 := va_K.moved hvm.symm hK1
  try dsimp only at hw_13
  obtain ⟨hP, hD⟩ := va_join (wr := [(x, .inr (5, [.ref q_1, .ref q_3, .int 0, .int 1, .int 1, .null, .null, .int 0, .null, .null, .int 0, .null, .null, .null, .null, .null])), (q_1, .inl (cA_2, 80, .inr (.inr (.inr (.inr (fun _ => none)))))), (q_3, .inr (0, [.int 0, .int (-1), .ref q1_6, .ref q2_7, .ref q3_8, .ref q4_9, .ref q5_10, .int (-1), .int (-1), .int 0, .int 0, .int 0]))]) (w1 := [(q_11, .inr (1, [.int 80, .ref q_14, .int 0])), (q_14, .inl (cA_15, 0, .inl (fun _ => 0)))]) hP hD [3] [0, 1, 2] rfl rfl (by decide) (by decide) hk1 hFc hP1 hD1
  have hK := (hK.sub (tys' := [(cA_2, .object RX0)]) [0] rfl).app hK1
  generalize H1 = H at hP hS ⊢
  have hP : va_P (dC, dI) kxCl [(x, .inr (5, [.ref q_1, .ref q_3, .int 0, .int 1, .int 1, .null, .null, .int 0, .null, .null, .int 0, .null, .null, .null, .null, .null])), (q_1, .inl (cA_2, 80, .inr (.inr (.inr (.inr (fun _ => none)))))), (q_3, .inr (0, [.int 0, .int (-1), .ref q1_6, .ref q2_7, .ref q3_8, .ref q4_9, .ref q5_10, .int (-1), .int (-1), .int 0, .int 0, .int 0])), (q_11, .inr (1, [.int 80, .ref q_14, .int 0])), (q_14, .inl (cA_15, 0, .inl (fun _ => 0)))] H := hP
  have hD : va_D A [(x, .inr (5, [.ref q_1, .ref q_3, .int 0, .int 1, .int 1, .null, .null, .int 0, .null, .null, .int 0, .null, .null, .null, .null, .null])), (q_1, .inl (cA_2, 80, .inr (.inr (.inr (.inr (fun _ => none)))))), (q_3, .inr (0, [.int 0, .int (-1), .ref q1_6, .ref q2_7, .ref q3_8, .ref q4_9, .ref q5_10, .int (-1), .int (-1), .int 0, .int 0, .int 0])), (q_11, .inr (1, [.int 80, .ref q_14, .int 0])), (q_14, .inl (cA_15, 0, .inl (fun _ => 0)))] := hD
  have hK : va_K (dC, dI) kxCl [(cA_2, .object RX0), (cA_15, .int)] s := hK
  refine W.widen (k := 19) (n := 119) (by omega) (by omega) ?_
  refine va_putF (D := (dC, dI)) (ci := 5) (v := .ref q_11) (ty := .object "IndexSort$Ints") (C := RX5) (T := TX5) (N := 16) hx hb hts kt_X5 tyX5 tyX5_ok nmX5 hown hK hP hD hS 0 rfl rfl 5 (by decide) (kx_word hG kq_64 rfl) (fun _ h9 => h9) rfl hin rfl (by decide +kernel) rfl rfl (Nat.le_of_ble_eq_true rfl) dX5_init_51 (fun H locs hP hD hS => ?_)
  have hP : va_P (dC, dI) kxCl [(x, .inr (5, [.ref q_1, .ref q_3, .int 0, .int 1, .int 1, .ref q_11, .null, .int 0, .null, .null, .int 0, .null, .null, .null, .null, .null])), (q_1, .inl (cA_2, 80, .inr (.inr (.inr (.inr (fun _ => none)))))), (q_3, .inr (0, [.int 0, .int (-1), .ref q1_6, .ref q2_7, .ref q3_8, .ref q4_9, .ref q5_10, .int (-1), .int (-1), .int 0, .int 0, .int 0])), (q_11, .inr (1, [.int 80, .ref q_14, .int 0])), (q_14, .inl (cA_15, 0, .inl (fun _ => 0)))] H := hP
  have hD : va_D A [(x, .inr (5, [.ref q_1, .ref q_3, .int 0, .int 1, .int 1, .ref q_11, .null, .int 0, .null, .null, .int 0, .null, .null, .null, .null, .null])), (q_1, .inl (cA_2, 80, .inr (.inr (.inr (.inr (fun _ => none)))))), (q_3, .inr (0, [.int 0, .int (-1), .ref q1_6, .ref q2_7, .ref q3_8, .ref q4_9, .ref q5_10, .int (-1), .int (-1), .int 0, .int 0, .int 0])), (q_11, .inr (1, [.int 80, .ref q_14, .int 0])), (q_14, .inl (cA_15, 0, .inl (fun _ => 0)))] := hD
  refine lv_aload_n hx hb dX5_init_54 rfl (lv_at hl 0 rfl) ?_
  refine va_new (ci := 1) (fs := [.int 0, .null, .int 0]) (C := RX1) (T := TX1) (N := 3) hx hb hts kt_X1 tyX1 tyX1_ok hown (kx_word hG kq_62 rfl) (kx_word hG kq_20 rfl) (kx_word hG kq_21 rfl) hK hP hD hS hA rfl (fun j hj => by rcases (show j = 0 ∨ j = 1 ∨ j = 2 by omega) with rfl | rfl | rfl <;> rfl) (Nat.le_of_ble_eq_true rfl) (Nat.le_of_ble_eq_true rfl) dX5_init_55 (fun q_16 H hP hD hS => ?_)
  have hP : va_P (dC, dI) kxCl [(x, .inr (5, [.ref q_1, .ref q_3, .int 0, .int 1, .int 1, .ref q_11, .null, .int 0, .null, .null, .int 0, .null, .null, .null, .null, .null])), (q_1, .inl (cA_2, 80, .inr (.inr (.inr (.inr (fun _ => none)))))), (q_3, .inr (0, [.int 0, .int (-1), .ref q1_6, .ref q2_7, .ref q3_8, .ref q4_9, .ref q5_10, .int (-1), .int (-1), .int 0, .int 0, .int 0])), (q_11, .inr (1, [.int 80, .ref q_14, .int 0])), (q_14, .inl (cA_15, 0, .inl (fun _ => 0))), (q_16, .inr (1, [.int 0, .null, .int 0]))] H := hP
  have hD : va_D A [(x, .inr (5, [.ref q_1, .ref q_3, .int 0, .int 1, .int 1, .ref q_11, .null, .int 0, .null, .null, .int 0, .null, .null, .null, .null, .null])), (q_1, .inl (cA_2, 80, .inr (.inr (.inr (.inr (fun _ => none)))))), (q_3, .inr (0, [.int 0, .int (-1), .ref q1_6, .ref q2_7, .ref q3_8, .ref q4_9, .ref q5_10, .int (-1), .int (-1), .int 0, .int 0, .int 0])), (q_11, .inr (1, [.int 80, .ref q_14, .int 0])), (q_14, .inl (cA_15, 0, .inl (fun _ => 0))), (q_16, .inr (1, [.int 0, .null, .int 0]))] := hD
  refine W.widen (k := 20) (n := 122) (by omega) (by omega) ?_
  refine lv_dup hx hb dX5_init_58 rfl ?_
  refine lv_bipush (v := 80) hx hb dX5_init_59 (by decide) ?_
  have hPc := hP.sub (ws' := [(q_16, .inr (1, [.int 0, .null, .int 0]))]) [5] rfl
  have hDc := hD.sub (ws' := [(q_16, .inr (1, [.int 0, .null, .int 0]))]) [5] (by decide) rfl
  have hKc := hK.sub (tys' := []) [] rfl
  have hFc := va_free (wc := [(q_16, .inr (1, [.int 0, .null, .int 0]))]) hD hS hA [5] rfl
  refine va_callv (va_runI (As := [.int 80]) (rest := [.ref q_16, .ref x]) ⟨hx, hb, hml, hown, hts⟩ (c_Ints_init l hlf dC dI q_16 80 H.size ) (cwI 1 hts (kx_gI kq_22 rfl) rfl rfl rfl (kx_word hG kq_21 rfl) (kx_word hG kq_63 rfl) (kx_word hG kq_24 rfl) rfl (by decide +kernel) ⟨Nat.le_of_ble_eq_true rfl, Nat.le_of_ble_eq_true rfl⟩) ⟨kx_blind, kx_give (ws := []) (tys := []) hPc hDc hKc hG hZ hS hFc⟩ rfl rfl hl.1 rfl (lv_room (Nat.le_of_ble_eq_true rfl)) dX5_init_61 ⟨Nat.le_of_ble_eq_true rfl, Nat.le_of_ble_eq_true rfl⟩) hS (fun q _ h => hFc q h) hFc (fun u t H1 locs ht hvm hw_18 hB hz1 hk1 hS => ?_)
  obtain ⟨q_19, cA_20⟩ := u
  obtain ⟨hP1, hK1, hD1⟩ := hB
  rw [ht] at hP1
  have hK1 := va_K.moved hvm.symm hK1
  try dsimp only at hw_18
  obtain ⟨hP, hD⟩ := va_join (wr := [(x, .inr (5, [.ref q_1, .ref q_3, .int 0, .int 1, .int 1, .ref q_11, .null, .int 0, .null, .null, .int 0, .null, .null, .null, .null, .null])), (q_1, .inl (cA_2, 80, .inr (.inr (.inr (.inr (fun _ => none)))))), (q_3, .inr (0, [.int 0, .int (-1), .ref q1_6, .ref q2_7, .ref q3_8, .ref q4_9, .ref q5_10, .int (-1), .int (-1), .int 0, .int 0, .int 0])), (q_11, .inr (1, [.int 80, .ref q_14, .int 0])), (q_14, .inl (cA_15, 0, .inl (fun _ => 0)))]) (w1 := [(q_16, .inr (1, [.int 80, .ref q_19, .int 0])), (q_19, .inl (cA_20, 0, .inl (fun _ => 0)))]) hP hD [5] [0, 1, 2, 3, 4] rfl rfl (by decide) (by decide) hk1 hFc hP1 hD1
  have hK := (hK.sub (tys' := [(cA_2, .object RX0), (cA_15, .int)]) [0, 1] rfl).app hK1
  generalize H1 = H at hP hS ⊢
  have hP : va_P (dC, dI) kxCl [(x, .inr (5, [.ref q_1, .ref q_3, .int 0, .int 1, .int 1, .ref q_11, .null, .int 0, .null, .null, .int 0, .null, .null, .null, .null, .null])), (q_1, .inl (cA_2, 80, .inr (.inr (.inr (.inr (fun _ => none)))))), (q_3, .inr (0, [.int 0, .int (-1), .ref q1_6, .ref q2_7, .ref q3_8, .ref q4_9, .ref q5_10, .int (-1), .int (-1), .int 0, .int 0, .int 0])), (q_11, .inr (1, [.int 80, .ref q_14, .int 0])), (q_14, .inl (cA_15, 0, .inl (fun _ => 0))), (q_16, .inr (1, [.int 80, .ref q_19, .int 0])), (q_19, .inl (cA_20, 0, .inl (fun _ => 0)))] H := hP
  have hD : va_D A [(x, .inr (5, [.ref q_1, .ref q_3, .int 0, .int 1, .int 1, .ref q_11, .null, .int 0, .null, .null, .int 0, .null, .null, .null, .null, .null])), (q_1, .inl (cA_2, 80, .inr (.inr (.inr (.inr (fun _ => none)))))), (q_3, .inr (0, [.int 0, .int (-1), .ref q1_6, .ref q2_7, .ref q3_8, .ref q4_9, .ref q5_10, .int (-1), .int (-1), .int 0, .int 0, .int 0])), (q_11, .inr (1, [.int 80, .ref q_14, .int 0])), (q_14, .inl (cA_15, 0, .inl (fun _ => 0))), (q_16, .inr (1, [.int 80, .ref q_19, .int 0])), (q_19, .inl (cA_20, 0, .inl (fun _ => 0)))] := hD
  have hK : va_K (dC, dI) kxCl [(cA_2, .object RX0), (cA_15, .int), (cA_20, .int)] s := hK
  refine W.widen (k := 21) (n := 122) (by omega) (by omega) ?_
  refine va_putF (D := (dC, dI)) (ci := 5) (v := .ref q_16) (ty := .object "IndexSort$Ints") (C := RX5) (T := TX5) (N := 16) hx hb hts kt_X5 tyX5 tyX5_ok nmX5 hown hK hP hD hS 0 rfl rfl 6 (by decide) (kx_word hG kq_65 rfl) (fun _ h9 => h9) rfl hin rfl (by decide +kernel) rfl rfl (Nat.le_of_ble_eq_true rfl) dX5_init_64 (fun H locs hP hD hS => ?_)
  have hP : va_P (dC, dI) kxCl [(x, .inr (5, [.ref q_1, .ref q_3, .int 0, .int 1, .int 1, .ref q_11, .ref q_16, .int 0, .null, .null, .int 0, .null, .null, .null, .null, .null])), (q_1, .inl (cA_2, 80, .inr (.inr (.inr (.inr (fun _ => none)))))), (q_3, .inr (0, [.int 0, .int (-1), .ref q1_6, .ref q2_7, .ref q3_8, .ref q4_9, .ref q5_10, .int (-1), .int (-1), .int 0, .int 0, .int 0])), (q_11, .inr (1, [.int 80, .ref q_14, .int 0])), (q_14, .inl (cA_15, 0, .inl (fun _ => 0))), (q_16, .inr (1, [.int 80, .ref q_19, .int 0])), (q_19, .inl (cA_20, 0, .inl (fun _ => 0)))] H := hP
  have hD : va_D A [(x, .inr (5, [.ref q_1, .ref q_3, .int 0, .int 1, .int 1, .ref q_11, .ref q_16, .int 0, .null, .null, .int 0, .null, .null, .null, .null, .null])), (q_1, .inl (cA_2, 80, .inr (.inr (.inr (.inr (fun _ => none)))))), (q_3, .inr (0, [.int 0, .int (-1), .ref q1_6, .ref q2_7, .ref q3_8, .ref q4_9, .ref q5_10, .int (-1), .int (-1), .int 0, .int 0, .int 0])), (q_11, .inr (1, [.int 80, .ref q_14, .int 0])), (q_14, .inl (cA_15, 0, .inl (fun _ => 0))), (q_16, .inr (1, [.int 80, .ref q_19, .int 0])), (q_19, .inl (cA_20, 0, .inl (fun _ => 0)))] := hD
  refine lv_aload_n hx hb dX5_init_67 rfl (lv_at hl 0 rfl) ?_
  refine lv_iconst (v := 0) hx hb dX5_init_68 (by decide) ?_
  refine va_put (D := (dC, dI)) (ci := 5) (v := .int 0) (ty := .boolean) (C := RX5) (T := TX5) (N := 16) hx hb hts kt_X5 tyX5 tyX5_ok nmX5 hown hK hP hD hS 0 rfl rfl 7 (by decide) (kx_word hG kq_66 rfl) (fun _ h9 => h9) rfl (by decide +kernel) (by decide) (by decide) (Nat.le_of_ble_eq_true rfl) dX5_init_69 (fun H locs hP hD hS => ?_)
  have hP : va_P (dC, dI) kxCl [(x, .inr (5, [.ref q_1, .ref q_3, .int 0, .int 1, .int 1, .ref q_11, .ref q_16, .int 0, .null, .null, .int 0, .null, .null, .null, .null, .null])), (q_1, .inl (cA_2, 80, .inr (.inr (.inr (.inr (fun _ => none)))))), (q_3, .inr (0, [.int 0, .int (-1), .ref q1_6, .ref q2_7, .ref q3_8, .ref q4_9, .ref q5_10, .int (-1), .int (-1), .int 0, .int 0, .int 0])), (q_11, .inr (1, [.int 80, .ref q_14, .int 0])), (q_14, .inl (cA_15, 0, .inl (fun _ => 0))), (q_16, .inr (1, [.int 80, .ref q_19, .int 0])), (q_19, .inl (cA_20, 0, .inl (fun _ => 0)))] H := hP
  have hD : va_D A [(x, .inr (5, [.ref q_1, .ref q_3, .int 0, .int 1, .int 1, .ref q_11, .ref q_16, .int 0, .null, .null, .int 0, .null, .null, .null, .null, .null])), (q_1, .inl (cA_2, 80, .inr (.inr (.inr (.inr (fun _ => none)))))), (q_3, .inr (0, [.int 0, .int (-1), .ref q1_6, .ref q2_7, .ref q3_8, .ref q4_9, .ref q5_10, .int (-1), .int (-1), .int 0, .int 0, .int 0])), (q_11, .inr (1, [.int 80, .ref q_14, .int 0])), (q_14, .inl (cA_15, 0, .inl (fun _ => 0))), (q_16, .inr (1, [.int 80, .ref q_19, .int 0])), (q_19, .inl (cA_20, 0, .inl (fun _ => 0)))] := hD
  refine lv_aload_n hx hb dX5_init_72 rfl (lv_at hl 0 rfl) ?_
  refine va_new (ci := 3) (fs := [.null, .null, .null]) (C := RX3) (T := TX3) (N := 3) hx hb hts kt_X3 tyX3 tyX3_ok hown (kx_word hG kq_67 rfl) (kx_word hG kq_35 rfl) (kx_word hG kq_36 rfl) hK hP hD hS hA rfl (fun j hj => by rcases (show j = 0 ∨ j = 1 ∨ j = 2 by omega) with rfl | rfl | rfl <;> rfl) (Nat.le_of_ble_eq_true rfl) (Nat.le_of_ble_eq_true rfl) dX5_init_73 (fun q_21 H hP hD hS => ?_)
  have hP : va_P (dC, dI) kxCl [(x, .inr (5, [.ref q_1, .ref q_3, .int 0, .int 1, .int 1, .ref q_11, .ref q_16, .int 0, .null, .null, .int 0, .null, .null, .null, .null, .null])), (q_1, .inl (cA_2, 80, .inr (.inr (.inr (.inr (fun _ => none)))))), (q_3, .inr (0, [.int 0, .int (-1), .ref q1_6, .ref q2_7, .ref q3_8, .ref q4_9, .ref q5_10, .int (-1), .int (-1), .int 0, .int 0, .int 0])), (q_11, .inr (1, [.int 80, .ref q_14, .int 0])), (q_14, .inl (cA_15, 0, .inl (fun _ => 0))), (q_16, .inr (1, [.int 80, .ref q_19, .int 0])), (q_19, .inl (cA_20, 0, .inl (fun _ => 0))), (q_21, .inr (3, [.null, .null, .null]))] H := hP
  have hD : va_D A [(x, .inr (5, [.ref q_1, .ref q_3, .int 0, .int 1, .int 1, .ref q_11, .ref q_16, .int 0, .null, .null, .int 0, .null, .null, .null, .null, .null])), (q_1, .inl (cA_2, 80, .inr (.inr (.inr (.inr (fun _ => none)))))), (q_3, .inr (0, [.int 0, .int (-1), .ref q1_6, .ref q2_7, .ref q3_8, .ref q4_9, .ref q5_10, .int (-1), .int (-1), .int 0, .int 0, .int 0])), (q_11, .inr (1, [.int 80, .ref q_14, .int 0])), (q_14, .inl (cA_15, 0, .inl (fun _ => 0))), (q_16, .inr (1, [.int 80, .ref q_19, .int 0])), (q_19, .inl (cA_20, 0, .inl (fun _ => 0))), (q_21, .inr (3, [.null, .null, .null]))] := hD
  refine W.widen (k := 22) (n := 125) (by omega) (by omega) ?_
  refine lv_dup hx hb dX5_init_76 rfl ?_
  refine lv_sipush (v := 1600) hx hb dX5_init_77 (by decide) ?_
  have hPc := hP.sub (ws' := [(q_21, .inr (3, [.null, .null, .null]))]) [7] rfl
  have hDc := hD.sub (ws' := [(q_21, .inr (3, [.null, .null, .null]))]) [7] (by decide) rfl
  have hKc := hK.sub (tys' := []) [] rfl
  have hFc := va_free (wc := [(q_21, .inr (3, [.null, .null, .null]))]) hD hS hA [7] rfl
  refine va_callv (va_runI (As := [.int 1600]) (rest := [.ref q_21, .ref x]) ⟨hx, hb, hml, hown, hts⟩ (c_Spans_init l hlf dC dI q_21 1600 H.size ) (cwI 1 hts (kx_gI kq_37 rfl) rfl rfl rfl (kx_word hG kq_36 rfl) (kx_word hG kq_68 rfl) (kx_word hG kq_39 rfl) rfl (by decide +kernel) ⟨Nat.le_of_ble_eq_true rfl, Nat.le_of_ble_eq_true rfl⟩) ⟨kx_blind, kx_give (ws := []) (tys := []) hPc hDc hKc hG hZ hS hFc⟩ rfl rfl hl.1 rfl (lv_room (Nat.le_of_ble_eq_true rfl)) dX5_init_80 ⟨Nat.le_of_ble_eq_true rfl, Nat.le_of_ble_eq_true rfl⟩) hS (fun q _ h => hFc q h) hFc (fun u t H1 locs ht hvm hw_23 hB hz1 hk1 hS => ?_)
  obtain ⟨hP1, hK1, hD1⟩ := hB
  rw [ht] at hP1
  have hK1 := va_K.moved hvm.symm hK1
  try dsimp only at hw_23
  obtain ⟨hP, hD⟩ := va_join (wr := [(x, .inr (5, [.ref q_1, .ref q_3, .int 0, .int 1, .int 1, .ref q_11, .ref q_16, .int 0, .null, .null, .int 0, .null, .null, .null, .null, .null])), (q_1, .inl (cA_2, 80, .inr (.inr (.inr (.inr (fun _ => none)))))), (q_3, .inr (0, [.int 0, .int (-1), .ref q1_6, .ref q2_7, .ref q3_8, .ref q4_9, .ref q5_10, .int (-1), .int (-1), .int 0, .int 0, .int 0])), (q_11, .inr (1, [.int 80, .ref q_14, .int 0])), (q_14, .inl (cA_15, 0, .inl (fun _ => 0))), (q_16, .inr (1, [.int 80, .ref q_19, .int 0])), (q_19, .inl (cA_20, 0, .inl (fun _ => 0)))]) (w1 := []) hP hD [7] [0, 1, 2, 3, 4, 5, 6] rfl rfl (by decide) (by decide) hk1 hFc hP1 hD1
  have hK := (hK.sub (tys' := [(cA_2, .object RX0), (cA_15, .int), (cA_20, .int)]) [0, 1, 2] rfl).app hK1
  generalize H1 = H at hP hS ⊢
  have hP : va_P (dC, dI) kxCl [(x, .inr (5, [.ref q_1, .ref q_3, .int 0, .int 1, .int 1, .ref q_11, .ref q_16, .int 0, .null, .null, .int 0, .null, .null, .null, .null, .null])), (q_1, .inl (cA_2, 80, .inr (.inr (.inr (.inr (fun _ => none)))))), (q_3, .inr (0, [.int 0, .int (-1), .ref q1_6, .ref q2_7, .ref q3_8, .ref q4_9, .ref q5_10, .int (-1), .int (-1), .int 0, .int 0, .int 0])), (q_11, .inr (1, [.int 80, .ref q_14, .int 0])), (q_14, .inl (cA_15, 0, .inl (fun _ => 0))), (q_16, .inr (1, [.int 80, .ref q_19, .int 0])), (q_19, .inl (cA_20, 0, .inl (fun _ => 0)))] H := hP
  have hD : va_D A [(x, .inr (5, [.ref q_1, .ref q_3, .int 0, .int 1, .int 1, .ref q_11, .ref q_16, .int 0, .null, .null, .int 0, .null, .null, .null, .null, .null])), (q_1, .inl (cA_2, 80, .inr (.inr (.inr (.inr (fun _ => none)))))), (q_3, .inr (0, [.int 0, .int (-1), .ref q1_6, .ref q2_7, .ref q3_8, .ref q4_9, .ref q5_10, .int (-1), .int (-1), .int 0, .int 0, .int 0])), (q_11, .inr (1, [.int 80, .ref q_14, .int 0])), (q_14, .inl (cA_15, 0, .inl (fun _ => 0))), (q_16, .inr (1, [.int 80, .ref q_19, .int 0])), (q_19, .inl (cA_20, 0, .inl (fun _ => 0)))] := hD
  have hK : va_K (dC, dI) kxCl [(cA_2, .object RX0), (cA_15, .int), (cA_20, .int)] s := hK
  refine W.widen (k := 28) (n := 134) (by omega) (by omega) ?_
  refine va_putF (D := (dC, dI)) (ci := 5) (v := .ref q_21) (ty := .object "IndexSort$Spans") (C := RX5) (T := TX5) (N := 16) hx hb hts kt_X5 tyX5 tyX5_ok nmX5 hown hK hP hD hS 0 rfl rfl 8 (by decide) (kx_word hG kq_69 rfl) (fun _ h9 => h9) rfl hin rfl (by decide +kernel) rfl rfl (Nat.le_of_ble_eq_true rfl) dX5_init_83 (fun H locs hP hD hS => ?_)
  have hP : va_P (dC, dI) kxCl [(x, .inr (5, [.ref q_1, .ref q_3, .int 0, .int 1, .int 1, .ref q_11, .ref q_16, .int 0, .ref q_21, .null, .int 0, .null, .null, .null, .null, .null])), (q_1, .inl (cA_2, 80, .inr (.inr (.inr (.inr (fun _ => none)))))), (q_3, .inr (0, [.int 0, .int (-1), .ref q1_6, .ref q2_7, .ref q3_8, .ref q4_9, .ref q5_10, .int (-1), .int (-1), .int 0, .int 0, .int 0])), (q_11, .inr (1, [.int 80, .ref q_14, .int 0])), (q_14, .inl (cA_15, 0, .inl (fun _ => 0))), (q_16, .inr (1, [.int 80, .ref q_19, .int 0])), (q_19, .inl (cA_20, 0, .inl (fun _ => 0)))] H := hP
  have hD : va_D A [(x, .inr (5, [.ref q_1, .ref q_3, .int 0, .int 1, .int 1, .ref q_11, .ref q_16, .int 0, .ref q_21, .null, .int 0, .null, .null, .null, .null, .null])), (q_1, .inl (cA_2, 80, .inr (.inr (.inr (.inr (fun _ => none)))))), (q_3, .inr (0, [.int 0, .int (-1), .ref q1_6, .ref q2_7, .ref q3_8, .ref q4_9, .ref q5_10, .int (-1), .int (-1), .int 0, .int 0, .int 0])), (q_11, .inr (1, [.int 80, .ref q_14, .int 0])), (q_14, .inl (cA_15, 0, .inl (fun _ => 0))), (q_16, .inr (1, [.int 80, .ref q_19, .int 0])), (q_19, .inl (cA_20, 0, .inl (fun _ => 0)))] := hD
  refine lv_aload_n hx hb dX5_init_86 rfl (lv_at hl 0 rfl) ?_
  refine va_new (ci := 3) (fs := [.null, .null, .null]) (C := RX3) (T := TX3) (N := 3) hx hb hts kt_X3 tyX3 tyX3_ok hown (kx_word hG kq_67 rfl) (kx_word hG kq_35 rfl) (kx_word hG kq_36 rfl) hK hP hD hS hA rfl (fun j hj => by rcases (show j = 0 ∨ j = 1 ∨ j = 2 by omega) with rfl | rfl | rfl <;> rfl) (Nat.le_of_ble_eq_true rfl) (Nat.le_of_ble_eq_true rfl) dX5_init_87 (fun q_24 H hP hD hS => ?_)
  have hP : va_P (dC, dI) kxCl [(x, .inr (5, [.ref q_1, .ref q_3, .int 0, .int 1, .int 1, .ref q_11, .ref q_16, .int 0, .ref q_21, .null, .int 0, .null, .null, .null, .null, .null])), (q_1, .inl (cA_2, 80, .inr (.inr (.inr (.inr (fun _ => none)))))), (q_3, .inr (0, [.int 0, .int (-1), .ref q1_6, .ref q2_7, .ref q3_8, .ref q4_9, .ref q5_10, .int (-1), .int (-1), .int 0, .int 0, .int 0])), (q_11, .inr (1, [.int 80, .ref q_14, .int 0])), (q_14, .inl (cA_15, 0, .inl (fun _ => 0))), (q_16, .inr (1, [.int 80, .ref q_19, .int 0])), (q_19, .inl (cA_20, 0, .inl (fun _ => 0))), (q_24, .inr (3, [.null, .null, .null]))] H := hP
  have hD : va_D A [(x, .inr (5, [.ref q_1, .ref q_3, .int 0, .int 1, .int 1, .ref q_11, .ref q_16, .int 0, .ref q_21, .null, .int 0, .null, .null, .null, .null, .null])), (q_1, .inl (cA_2, 80, .inr (.inr (.inr (.inr (fun _ => none)))))), (q_3, .inr (0, [.int 0, .int (-1), .ref q1_6, .ref q2_7, .ref q3_8, .ref q4_9, .ref q5_10, .int (-1), .int (-1), .int 0, .int 0, .int 0])), (q_11, .inr (1, [.int 80, .ref q_14, .int 0])), (q_14, .inl (cA_15, 0, .inl (fun _ => 0))), (q_16, .inr (1, [.int 80, .ref q_19, .int 0])), (q_19, .inl (cA_20, 0, .inl (fun _ => 0))), (q_24, .inr (3, [.null, .null, .null]))] := hD
  refine W.widen (k := 29) (n := 137) (by omega) (by omega) ?_
  refine lv_dup hx hb dX5_init_90 rfl ?_
  refine lv_sipush (v := 1600) hx hb dX5_init_91 (by decide) ?_
  have hPc := hP.sub (ws' := [(q_24, .inr (3, [.null, .null, .null]))]) [7] rfl
  have hDc := hD.sub (ws' := [(q_24, .inr (3, [.null, .null, .null]))]) [7] (by decide) rfl
  have hKc := hK.sub (tys' := []) [] rfl
  have hFc := va_free (wc := [(q_24, .inr (3, [.null, .null, .null]))]) hD hS hA [7] rfl
  refine va_callv (va_runI (As := [.int 1600]) (rest := [.ref q_24, .ref x]) ⟨hx, hb, hml, hown, hts⟩ (c_Spans_init l hlf dC dI q_24 1600 H.size ) (cwI 1 hts (kx_gI kq_37 rfl) rfl rfl rfl (kx_word hG kq_36 rfl) (kx_word hG kq_68 rfl) (kx_word hG kq_39 rfl) rfl (by decide +kernel) ⟨Nat.le_of_ble_eq_true rfl, Nat.le_of_ble_eq_true rfl⟩) ⟨kx_blind, kx_give (ws := []) (tys := []) hPc hDc hKc hG hZ hS hFc⟩ rfl rfl hl.1 rfl (lv_room (Nat.le_of_ble_eq_true rfl)) dX5_init_94 ⟨Nat.le_of_ble_eq_true rfl, Nat.le_of_ble_eq_true rfl⟩) hS (fun q _ h => hFc q h) hFc (fun u t H1 locs ht hvm hw_26 hB hz1 hk1 hS => ?_)
  obtain ⟨hP1, hK1, hD1⟩ := hB
  rw [ht] at hP1
  have hK1 := va_K.moved hvm.symm hK1
  try dsimp only at hw_26
  obtain ⟨hP, hD⟩ := va_join (wr := [(x, .inr (5, [.ref q_1, .ref q_3, .int 0, .int 1, .int 1, .ref q_11, .ref q_16, .int 0, .ref q_21, .null, .int 0, .null, .null, .null, .null, .null])), (q_1, .inl (cA_2, 80, .inr (.inr (.inr (.inr (fun _ => none)))))), (q_3, .inr (0, [.int 0, .int (-1), .ref q1_6, .ref q2_7, .ref q3_8, .ref q4_9, .ref q5_10, .int (-1), .int (-1), .int 0, .int 0, .int 0])), (q_11, .inr (1, [.int 80, .ref q_14, .int 0])), (q_14, .inl (cA_15, 0, .inl (fun _ => 0))), (q_16, .inr (1, [.int 80, .ref q_19, .int 0])), (q_19, .inl (cA_20, 0, .inl (fun _ => 0)))]) (w1 := []) hP hD [7] [0, 1, 2, 3, 4, 5, 6] rfl rfl (by decide) (by decide) hk1 hFc hP1 hD1
  have hK := (hK.sub (tys' := [(cA_2, .object RX0), (cA_15, .int), (cA_20, .int)]) [0, 1, 2] rfl).app hK1
  generalize H1 = H at hP hS ⊢
  have hP : va_P (dC, dI) kxCl [(x, .inr (5, [.ref q_1, .ref q_3, .int 0, .int 1, .int 1, .ref q_11, .ref q_16, .int 0, .ref q_21, .null, .int 0, .null, .null, .null, .null, .null])), (q_1, .inl (cA_2, 80, .inr (.inr (.inr (.inr (fun _ => none)))))), (q_3, .inr (0, [.int 0, .int (-1), .ref q1_6, .ref q2_7, .ref q3_8, .ref q4_9, .ref q5_10, .int (-1), .int (-1), .int 0, .int 0, .int 0])), (q_11, .inr (1, [.int 80, .ref q_14, .int 0])), (q_14, .inl (cA_15, 0, .inl (fun _ => 0))), (q_16, .inr (1, [.int 80, .ref q_19, .int 0])), (q_19, .inl (cA_20, 0, .inl (fun _ => 0)))] H := hP
  have hD : va_D A [(x, .inr (5, [.ref q_1, .ref q_3, .int 0, .int 1, .int 1, .ref q_11, .ref q_16, .int 0, .ref q_21, .null, .int 0, .null, .null, .null, .null, .null])), (q_1, .inl (cA_2, 80, .inr (.inr (.inr (.inr (fun _ => none)))))), (q_3, .inr (0, [.int 0, .int (-1), .ref q1_6, .ref q2_7, .ref q3_8, .ref q4_9, .ref q5_10, .int (-1), .int (-1), .int 0, .int 0, .int 0])), (q_11, .inr (1, [.int 80, .ref q_14, .int 0])), (q_14, .inl (cA_15, 0, .inl (fun _ => 0))), (q_16, .inr (1, [.int 80, .ref q_19, .int 0])), (q_19, .inl (cA_20, 0, .inl (fun _ => 0)))] := hD
  have hK : va_K (dC, dI) kxCl [(cA_2, .object RX0), (cA_15, .int), (cA_20, .int)] s := hK
  refine W.widen (k := 35) (n := 146) (by omega) (by omega) ?_
  refine va_putF (D := (dC, dI)) (ci := 5) (v := .ref q_24) (ty := .object "IndexSort$Spans") (C := RX5) (T := TX5) (N := 16) hx hb hts kt_X5 tyX5 tyX5_ok nmX5 hown hK hP hD hS 0 rfl rfl 9 (by decide) (kx_word hG kq_70 rfl) (fun _ h9 => h9) rfl hin rfl (by decide +kernel) rfl rfl (Nat.le_of_ble_eq_true rfl) dX5_init_97 (fun H locs hP hD hS => ?_)
  have hP : va_P (dC, dI) kxCl [(x, .inr (5, [.ref q_1, .ref q_3, .int 0, .int 1, .int 1, .ref q_11, .ref q_16, .int 0, .ref q_21, .ref q_24, .int 0, .null, .null, .null, .null, .null])), (q_1, .inl (cA_2, 80, .inr (.inr (.inr (.inr (fun _ => none)))))), (q_3, .inr (0, [.int 0, .int (-1), .ref q1_6, .ref q2_7, .ref q3_8, .ref q4_9, .ref q5_10, .int (-1), .int (-1), .int 0, .int 0, .int 0])), (q_11, .inr (1, [.int 80, .ref q_14, .int 0])), (q_14, .inl (cA_15, 0, .inl (fun _ => 0))), (q_16, .inr (1, [.int 80, .ref q_19, .int 0])), (q_19, .inl (cA_20, 0, .inl (fun _ => 0)))] H := hP
  have hD : va_D A [(x, .inr (5, [.ref q_1, .ref q_3, .int 0, .int 1, .int 1, .ref q_11, .ref q_16, .int 0, .ref q_21, .ref q_24, .int 0, .null, .null, .null, .null, .null])), (q_1, .inl (cA_2, 80, .inr (.inr (.inr (.inr (fun _ => none)))))), (q_3, .inr (0, [.int 0, .int (-1), .ref q1_6, .ref q2_7, .ref q3_8, .ref q4_9, .ref q5_10, .int (-1), .int (-1), .int 0, .int 0, .int 0])), (q_11, .inr (1, [.int 80, .ref q_14, .int 0])), (q_14, .inl (cA_15, 0, .inl (fun _ => 0))), (q_16, .inr (1, [.int 80, .ref q_19, .int 0])), (q_19, .inl (cA_20, 0, .inl (fun _ => 0)))] := hD
  refine lv_aload_n hx hb dX5_init_100 rfl (lv_at hl 0 rfl) ?_
  refine lv_iconst (v := (-1)) hx hb dX5_init_101 (by decide) ?_
  refine va_put (D := (dC, dI)) (ci := 5) (v := .int (-1)) (ty := .int) (C := RX5) (T := TX5) (N := 16) hx hb hts kt_X5 tyX5 tyX5_ok nmX5 hown hK hP hD hS 0 rfl rfl 10 (by decide) (kx_word hG kq_71 rfl) (fun _ h9 => h9) rfl (by decide +kernel) rfl rfl (Nat.le_of_ble_eq_true rfl) dX5_init_102 (fun H locs hP hD hS => ?_)
  have hP : va_P (dC, dI) kxCl [(x, .inr (5, [.ref q_1, .ref q_3, .int 0, .int 1, .int 1, .ref q_11, .ref q_16, .int 0, .ref q_21, .ref q_24, .int (-1), .null, .null, .null, .null, .null])), (q_1, .inl (cA_2, 80, .inr (.inr (.inr (.inr (fun _ => none)))))), (q_3, .inr (0, [.int 0, .int (-1), .ref q1_6, .ref q2_7, .ref q3_8, .ref q4_9, .ref q5_10, .int (-1), .int (-1), .int 0, .int 0, .int 0])), (q_11, .inr (1, [.int 80, .ref q_14, .int 0])), (q_14, .inl (cA_15, 0, .inl (fun _ => 0))), (q_16, .inr (1, [.int 80, .ref q_19, .int 0])), (q_19, .inl (cA_20, 0, .inl (fun _ => 0)))] H := hP
  have hD : va_D A [(x, .inr (5, [.ref q_1, .ref q_3, .int 0, .int 1, .int 1, .ref q_11, .ref q_16, .int 0, .ref q_21, .ref q_24, .int (-1), .null, .null, .null, .null, .null])), (q_1, .inl (cA_2, 80, .inr (.inr (.inr (.inr (fun _ => none)))))), (q_3, .inr (0, [.int 0, .int (-1), .ref q1_6, .ref q2_7, .ref q3_8, .ref q4_9, .ref q5_10, .int (-1), .int (-1), .int 0, .int 0, .int 0])), (q_11, .inr (1, [.int 80, .ref q_14, .int 0])), (q_14, .inl (cA_15, 0, .inl (fun _ => 0))), (q_16, .inr (1, [.int 80, .ref q_19, .int 0])), (q_19, .inl (cA_20, 0, .inl (fun _ => 0)))] := hD
  refine lv_aload_n hx hb dX5_init_105 rfl (lv_at hl 0 rfl) ?_
  refine va_new (ci := 1) (fs := [.int 0, .null, .int 0]) (C := RX1) (T := TX1) (N := 3) hx hb hts kt_X1 tyX1 tyX1_ok hown (kx_word hG kq_62 rfl) (kx_word hG kq_20 rfl) (kx_word hG kq_21 rfl) hK hP hD hS hA rfl (fun j hj => by rcases (show j = 0 ∨ j = 1 ∨ j = 2 by omega) with rfl | rfl | rfl <;> rfl) (Nat.le_of_ble_eq_true rfl) (Nat.le_of_ble_eq_true rfl) dX5_init_106 (fun q_27 H hP hD hS => ?_)
  have hP : va_P (dC, dI) kxCl [(x, .inr (5, [.ref q_1, .ref q_3, .int 0, .int 1, .int 1, .ref q_11, .ref q_16, .int 0, .ref q_21, .ref q_24, .int (-1), .null, .null, .null, .null, .null])), (q_1, .inl (cA_2, 80, .inr (.inr (.inr (.inr (fun _ => none)))))), (q_3, .inr (0, [.int 0, .int (-1), .ref q1_6, .ref q2_7, .ref q3_8, .ref q4_9, .ref q5_10, .int (-1), .int (-1), .int 0, .int 0, .int 0])), (q_11, .inr (1, [.int 80, .ref q_14, .int 0])), (q_14, .inl (cA_15, 0, .inl (fun _ => 0))), (q_16, .inr (1, [.int 80, .ref q_19, .int 0])), (q_19, .inl (cA_20, 0, .inl (fun _ => 0))), (q_27, .inr (1, [.int 0, .null, .int 0]))] H := hP
  have hD : va_D A [(x, .inr (5, [.ref q_1, .ref q_3, .int 0, .int 1, .int 1, .ref q_11, .ref q_16, .int 0, .ref q_21, .ref q_24, .int (-1), .null, .null, .null, .null, .null])), (q_1, .inl (cA_2, 80, .inr (.inr (.inr (.inr (fun _ => none)))))), (q_3, .inr (0, [.int 0, .int (-1), .ref q1_6, .ref q2_7, .ref q3_8, .ref q4_9, .ref q5_10, .int (-1), .int (-1), .int 0, .int 0, .int 0])), (q_11, .inr (1, [.int 80, .ref q_14, .int 0])), (q_14, .inl (cA_15, 0, .inl (fun _ => 0))), (q_16, .inr (1, [.int 80, .ref q_19, .int 0])), (q_19, .inl (cA_20, 0, .inl (fun _ => 0))), (q_27, .inr (1, [.int 0, .null, .int 0]))] := hD
  refine W.widen (k := 36) (n := 149) (by omega) (by omega) ?_
  refine lv_dup hx hb dX5_init_109 rfl ?_
  refine lv_bipush (v := 80) hx hb dX5_init_110 (by decide) ?_
  have hPc := hP.sub (ws' := [(q_27, .inr (1, [.int 0, .null, .int 0]))]) [7] rfl
  have hDc := hD.sub (ws' := [(q_27, .inr (1, [.int 0, .null, .int 0]))]) [7] (by decide) rfl
  have hKc := hK.sub (tys' := []) [] rfl
  have hFc := va_free (wc := [(q_27, .inr (1, [.int 0, .null, .int 0]))]) hD hS hA [7] rfl
  refine va_callv (va_runI (As := [.int 80]) (rest := [.ref q_27, .ref x]) ⟨hx, hb, hml, hown, hts⟩ (c_Ints_init l hlf dC dI q_27 80 H.size ) (cwI 1 hts (kx_gI kq_22 rfl) rfl rfl rfl (kx_word hG kq_21 rfl) (kx_word hG kq_63 rfl) (kx_word hG kq_24 rfl) rfl (by decide +kernel) ⟨Nat.le_of_ble_eq_true rfl, Nat.le_of_ble_eq_true rfl⟩) ⟨kx_blind, kx_give (ws := []) (tys := []) hPc hDc hKc hG hZ hS hFc⟩ rfl rfl hl.1 rfl (lv_room (Nat.le_of_ble_eq_true rfl)) dX5_init_112 ⟨Nat.le_of_ble_eq_true rfl, Nat.le_of_ble_eq_true rfl⟩) hS (fun q _ h => hFc q h) hFc (fun u t H1 locs ht hvm hw_29 hB hz1 hk1 hS => ?_)
  obtain ⟨q_30, cA_31⟩ := u
  obtain ⟨hP1, hK1, hD1⟩ := hB
  rw [ht] at hP1
  have hK1 := va_K.moved hvm.symm hK1
  try dsimp only at hw_29
  obtain ⟨hP, hD⟩ := va_join (wr := [(x, .inr (5, [.ref q_1, .ref q_3, .int 0, .int 1, .int 1, .ref q_11, .ref q_16, .int 0, .ref q_21, .ref q_24, .int (-1), .null, .null, .null, .null, .null])), (q_1, .inl (cA_2, 80, .inr (.inr (.inr (.inr (fun _ => none)))))), (q_3, .inr (0, [.int 0, .int (-1), .ref q1_6, .ref q2_7, .ref q3_8, .ref q4_9, .ref q5_10, .int (-1), .int (-1), .int 0, .int 0, .int 0])), (q_11, .inr (1, [.int 80, .ref q_14, .int 0])), (q_14, .inl (cA_15, 0, .inl (fun _ => 0))), (q_16, .inr (1, [.int 80, .ref q_19, .int 0])), (q_19, .inl (cA_20, 0, .inl (fun _ => 0)))]) (w1 := [(q_27, .inr (1, [.int 80, .ref q_30, .int 0])), (q_30, .inl (cA_31, 0, .inl (fun _ => 0)))]) hP hD [7] [0, 1, 2, 3, 4, 5, 6] rfl rfl (by decide) (by decide) hk1 hFc hP1 hD1
  have hK := (hK.sub (tys' := [(cA_2, .object RX0), (cA_15, .int), (cA_20, .int)]) [0, 1, 2] rfl).app hK1
  generalize H1 = H at hP hS ⊢
  have hP : va_P (dC, dI) kxCl [(x, .inr (5, [.ref q_1, .ref q_3, .int 0, .int 1, .int 1, .ref q_11, .ref q_16, .int 0, .ref q_21, .ref q_24, .int (-1), .null, .null, .null, .null, .null])), (q_1, .inl (cA_2, 80, .inr (.inr (.inr (.inr (fun _ => none)))))), (q_3, .inr (0, [.int 0, .int (-1), .ref q1_6, .ref q2_7, .ref q3_8, .ref q4_9, .ref q5_10, .int (-1), .int (-1), .int 0, .int 0, .int 0])), (q_11, .inr (1, [.int 80, .ref q_14, .int 0])), (q_14, .inl (cA_15, 0, .inl (fun _ => 0))), (q_16, .inr (1, [.int 80, .ref q_19, .int 0])), (q_19, .inl (cA_20, 0, .inl (fun _ => 0))), (q_27, .inr (1, [.int 80, .ref q_30, .int 0])), (q_30, .inl (cA_31, 0, .inl (fun _ => 0)))] H := hP
  have hD : va_D A [(x, .inr (5, [.ref q_1, .ref q_3, .int 0, .int 1, .int 1, .ref q_11, .ref q_16, .int 0, .ref q_21, .ref q_24, .int (-1), .null, .null, .null, .null, .null])), (q_1, .inl (cA_2, 80, .inr (.inr (.inr (.inr (fun _ => none)))))), (q_3, .inr (0, [.int 0, .int (-1), .ref q1_6, .ref q2_7, .ref q3_8, .ref q4_9, .ref q5_10, .int (-1), .int (-1), .int 0, .int 0, .int 0])), (q_11, .inr (1, [.int 80, .ref q_14, .int 0])), (q_14, .inl (cA_15, 0, .inl (fun _ => 0))), (q_16, .inr (1, [.int 80, .ref q_19, .int 0])), (q_19, .inl (cA_20, 0, .inl (fun _ => 0))), (q_27, .inr (1, [.int 80, .ref q_30, .int 0])), (q_30, .inl (cA_31, 0, .inl (fun _ => 0)))] := hD
  have hK : va_K (dC, dI) kxCl [(cA_2, .object RX0), (cA_15, .int), (cA_20, .int), (cA_31, .int)] s := hK
  refine W.widen (k := 37) (n := 149) (by omega) (by omega) ?_
  refine va_putF (D := (dC, dI)) (ci := 5) (v := .ref q_27) (ty := .object "IndexSort$Ints") (C := RX5) (T := TX5) (N := 16) hx hb hts kt_X5 tyX5 tyX5_ok nmX5 hown hK hP hD hS 0 rfl rfl 11 (by decide) (kx_word hG kq_72 rfl) (fun _ h9 => h9) rfl hin rfl (by decide +kernel) rfl rfl (Nat.le_of_ble_eq_true rfl) dX5_init_115 (fun H locs hP hD hS => ?_)
  have hP : va_P (dC, dI) kxCl [(x, .inr (5, [.ref q_1, .ref q_3, .int 0, .int 1, .int 1, .ref q_11, .ref q_16, .int 0, .ref q_21, .ref q_24, .int (-1), .ref q_27, .null, .null, .null, .null])), (q_1, .inl (cA_2, 80, .inr (.inr (.inr (.inr (fun _ => none)))))), (q_3, .inr (0, [.int 0, .int (-1), .ref q1_6, .ref q2_7, .ref q3_8, .ref q4_9, .ref q5_10, .int (-1), .int (-1), .int 0, .int 0, .int 0])), (q_11, .inr (1, [.int 80, .ref q_14, .int 0])), (q_14, .inl (cA_15, 0, .inl (fun _ => 0))), (q_16, .inr (1, [.int 80, .ref q_19, .int 0])), (q_19, .inl (cA_20, 0, .inl (fun _ => 0))), (q_27, .inr (1, [.int 80, .ref q_30, .int 0])), (q_30, .inl (cA_31, 0, .inl (fun _ => 0)))] H := hP
  have hD : va_D A [(x, .inr (5, [.ref q_1, .ref q_3, .int 0, .int 1, .int 1, .ref q_11, .ref q_16, .int 0, .ref q_21, .ref q_24, .int (-1), .ref q_27, .null, .null, .null, .null])), (q_1, .inl (cA_2, 80, .inr (.inr (.inr (.inr (fun _ => none)))))), (q_3, .inr (0, [.int 0, .int (-1), .ref q1_6, .ref q2_7, .ref q3_8, .ref q4_9, .ref q5_10, .int (-1), .int (-1), .int 0, .int 0, .int 0])), (q_11, .inr (1, [.int 80, .ref q_14, .int 0])), (q_14, .inl (cA_15, 0, .inl (fun _ => 0))), (q_16, .inr (1, [.int 80, .ref q_19, .int 0])), (q_19, .inl (cA_20, 0, .inl (fun _ => 0))), (q_27, .inr (1, [.int 80, .ref q_30, .int 0])), (q_30, .inl (cA_31, 0, .inl (fun _ => 0)))] := hD
  refine lv_aload_n hx hb dX5_init_118 rfl (lv_at hl 0 rfl) ?_
  refine va_new (ci := 4) (fs := [.int 0, .int 0, .int 0, .int 0, .int 0]) (C := RX4) (T := TX4) (N := 5) hx hb hts kt_X4 tyX4 tyX4_ok hown (kx_word hG kq_73 rfl) (kx_word hG kq_74 rfl) (kx_word hG kq_75 rfl) hK hP hD hS hA rfl (fun j hj => by rcases (show j = 0 ∨ j = 1 ∨ j = 2 ∨ j = 3 ∨ j = 4 by omega) with rfl | rfl | rfl | rfl | rfl <;> rfl) (Nat.le_of_ble_eq_true rfl) (Nat.le_of_ble_eq_true rfl) dX5_init_119 (fun q_32 H hP hD hS => ?_)
  have hP : va_P (dC, dI) kxCl [(x, .inr (5, [.ref q_1, .ref q_3, .int 0, .int 1, .int 1, .ref q_11, .ref q_16, .int 0, .ref q_21, .ref q_24, .int (-1), .ref q_27, .null, .null, .null, .null])), (q_1, .inl (cA_2, 80, .inr (.inr (.inr (.inr (fun _ => none)))))), (q_3, .inr (0, [.int 0, .int (-1), .ref q1_6, .ref q2_7, .ref q3_8, .ref q4_9, .ref q5_10, .int (-1), .int (-1), .int 0, .int 0, .int 0])), (q_11, .inr (1, [.int 80, .ref q_14, .int 0])), (q_14, .inl (cA_15, 0, .inl (fun _ => 0))), (q_16, .inr (1, [.int 80, .ref q_19, .int 0])), (q_19, .inl (cA_20, 0, .inl (fun _ => 0))), (q_27, .inr (1, [.int 80, .ref q_30, .int 0])), (q_30, .inl (cA_31, 0, .inl (fun _ => 0))), (q_32, .inr (4, [.int 0, .int 0, .int 0, .int 0, .int 0]))] H := hP
  have hD : va_D A [(x, .inr (5, [.ref q_1, .ref q_3, .int 0, .int 1, .int 1, .ref q_11, .ref q_16, .int 0, .ref q_21, .ref q_24, .int (-1), .ref q_27, .null, .null, .null, .null])), (q_1, .inl (cA_2, 80, .inr (.inr (.inr (.inr (fun _ => none)))))), (q_3, .inr (0, [.int 0, .int (-1), .ref q1_6, .ref q2_7, .ref q3_8, .ref q4_9, .ref q5_10, .int (-1), .int (-1), .int 0, .int 0, .int 0])), (q_11, .inr (1, [.int 80, .ref q_14, .int 0])), (q_14, .inl (cA_15, 0, .inl (fun _ => 0))), (q_16, .inr (1, [.int 80, .ref q_19, .int 0])), (q_19, .inl (cA_20, 0, .inl (fun _ => 0))), (q_27, .inr (1, [.int 80, .ref q_30, .int 0])), (q_30, .inl (cA_31, 0, .inl (fun _ => 0))), (q_32, .inr (4, [.int 0, .int 0, .int 0, .int 0, .int 0]))] := hD
  refine W.widen (k := 38) (n := 154) (by omega) (by omega) ?_
  refine lv_dup hx hb dX5_init_122 rfl ?_
  have hPc := hP.sub (ws' := [(q_32, .inr (4, [.int 0, .int 0, .int 0, .int 0, .int 0]))]) [9] rfl
  have hDc := hD.sub (ws' := [(q_32, .inr (4, [.int 0, .int 0, .int 0, .int 0, .int 0]))]) [9] (by decide) rfl
  have hKc := hK.sub (tys' := []) [] rfl
  have hFc := va_free (wc := [(q_32, .inr (4, [.int 0, .int 0, .int 0, .int 0, .int 0]))]) hD hS hA [9] rfl
  refine va_callv (va_runIN (As := []) (rest := [.ref q_32, .ref x]) ⟨hx, hb, hml, hown, hts⟩ (c_Warnings_init l hlf dC dI q_32 H.size ) ⟨va_cnB (host := RX5) 0 hts (kx_gI kq_76 rfl) rfl rfl rfl (kx_nm hG kq_77) (kx_word hG kq_75 rfl) (by decide +kernel) ⟨Nat.le_of_ble_eq_true rfl, Nat.le_of_ble_eq_true rfl⟩, rfl, (kx_word hG kq_78 rfl)⟩ ⟨kx_blind, kx_give (ws := []) (tys := []) hPc hDc hKc hG hZ hS hFc⟩ rfl rfl hl.1 rfl (lv_room (Nat.le_of_ble_eq_true rfl)) dX5_init_123 ⟨Nat.le_of_ble_eq_true rfl, Nat.le_of_ble_eq_true rfl⟩) hS (fun q _ h => hFc q h) hFc (fun u t H1 locs ht hvm hw_34 hB hz1 hk1 hS => ?_)
  obtain ⟨hP1, hK1, hD1⟩ := hB
  rw [ht] at hP1
  have hK1 := va_K.moved hvm.symm hK1
  try dsimp only at hw_34
  obtain ⟨hP, hD⟩ := va_join (wr := [(x, .inr (5, [.ref q_1, .ref q_3, .int 0, .int 1, .int 1, .ref q_11, .ref q_16, .int 0, .ref q_21, .ref q_24, .int (-1), .ref q_27, .null, .null, .null, .null])), (q_1, .inl (cA_2, 80, .inr (.inr (.inr (.inr (fun _ => none)))))), (q_3, .inr (0, [.int 0, .int (-1), .ref q1_6, .ref q2_7, .ref q3_8, .ref q4_9, .ref q5_10, .int (-1), .int (-1), .int 0, .int 0, .int 0])), (q_11, .inr (1, [.int 80, .ref q_14, .int 0])), (q_14, .inl (cA_15, 0, .inl (fun _ => 0))), (q_16, .inr (1, [.int 80, .ref q_19, .int 0])), (q_19, .inl (cA_20, 0, .inl (fun _ => 0))), (q_27, .inr (1, [.int 80, .ref q_30, .int 0])), (q_30, .inl (cA_31, 0, .inl (fun _ => 0)))]) (w1 := [(q_32, .inr (4, [.int (-1), .int 0, .int 0, .int 0, .int 0]))]) hP hD [9] [0, 1, 2, 3, 4, 5, 6, 7, 8] rfl rfl (by decide) (by decide) hk1 hFc hP1 hD1
  have hK := (hK.sub (tys' := [(cA_2, .object RX0), (cA_15, .int), (cA_20, .int), (cA_31, .int)]) [0, 1, 2, 3] rfl).app hK1
  generalize H1 = H at hP hS ⊢
  have hP : va_P (dC, dI) kxCl [(x, .inr (5, [.ref q_1, .ref q_3, .int 0, .int 1, .int 1, .ref q_11, .ref q_16, .int 0, .ref q_21, .ref q_24, .int (-1), .ref q_27, .null, .null, .null, .null])), (q_1, .inl (cA_2, 80, .inr (.inr (.inr (.inr (fun _ => none)))))), (q_3, .inr (0, [.int 0, .int (-1), .ref q1_6, .ref q2_7, .ref q3_8, .ref q4_9, .ref q5_10, .int (-1), .int (-1), .int 0, .int 0, .int 0])), (q_11, .inr (1, [.int 80, .ref q_14, .int 0])), (q_14, .inl (cA_15, 0, .inl (fun _ => 0))), (q_16, .inr (1, [.int 80, .ref q_19, .int 0])), (q_19, .inl (cA_20, 0, .inl (fun _ => 0))), (q_27, .inr (1, [.int 80, .ref q_30, .int 0])), (q_30, .inl (cA_31, 0, .inl (fun _ => 0))), (q_32, .inr (4, [.int (-1), .int 0, .int 0, .int 0, .int 0]))] H := hP
  have hD : va_D A [(x, .inr (5, [.ref q_1, .ref q_3, .int 0, .int 1, .int 1, .ref q_11, .ref q_16, .int 0, .ref q_21, .ref q_24, .int (-1), .ref q_27, .null, .null, .null, .null])), (q_1, .inl (cA_2, 80, .inr (.inr (.inr (.inr (fun _ => none)))))), (q_3, .inr (0, [.int 0, .int (-1), .ref q1_6, .ref q2_7, .ref q3_8, .ref q4_9, .ref q5_10, .int (-1), .int (-1), .int 0, .int 0, .int 0])), (q_11, .inr (1, [.int 80, .ref q_14, .int 0])), (q_14, .inl (cA_15, 0, .inl (fun _ => 0))), (q_16, .inr (1, [.int 80, .ref q_19, .int 0])), (q_19, .inl (cA_20, 0, .inl (fun _ => 0))), (q_27, .inr (1, [.int 80, .ref q_30, .int 0])), (q_30, .inl (cA_31, 0, .inl (fun _ => 0))), (q_32, .inr (4, [.int (-1), .int 0, .int 0, .int 0, .int 0]))] := hD
  have hK : va_K (dC, dI) kxCl [(cA_2, .object RX0), (cA_15, .int), (cA_20, .int), (cA_31, .int)] s := hK
  refine va_putF (D := (dC, dI)) (ci := 5) (v := .ref q_32) (ty := .object "IndexSort$Warnings") (C := RX5) (T := TX5) (N := 16) hx hb hts kt_X5 tyX5 tyX5_ok nmX5 hown hK hP hD hS 0 rfl rfl 12 (by decide) (kx_word hG kq_79 rfl) (fun _ h9 => h9) rfl hin rfl (by decide +kernel) rfl rfl (Nat.le_of_ble_eq_true rfl) dX5_init_126 (fun H locs hP hD hS => ?_)
  have hP : va_P (dC, dI) kxCl [(x, .inr (5, [.ref q_1, .ref q_3, .int 0, .int 1, .int 1, .ref q_11, .ref q_16, .int 0, .ref q_21, .ref q_24, .int (-1), .ref q_27, .ref q_32, .null, .null, .null])), (q_1, .inl (cA_2, 80, .inr (.inr (.inr (.inr (fun _ => none)))))), (q_3, .inr (0, [.int 0, .int (-1), .ref q1_6, .ref q2_7, .ref q3_8, .ref q4_9, .ref q5_10, .int (-1), .int (-1), .int 0, .int 0, .int 0])), (q_11, .inr (1, [.int 80, .ref q_14, .int 0])), (q_14, .inl (cA_15, 0, .inl (fun _ => 0))), (q_16, .inr (1, [.int 80, .ref q_19, .int 0])), (q_19, .inl (cA_20, 0, .inl (fun _ => 0))), (q_27, .inr (1, [.int 80, .ref q_30, .int 0])), (q_30, .inl (cA_31, 0, .inl (fun _ => 0))), (q_32, .inr (4, [.int (-1), .int 0, .int 0, .int 0, .int 0]))] H := hP
  have hD : va_D A [(x, .inr (5, [.ref q_1, .ref q_3, .int 0, .int 1, .int 1, .ref q_11, .ref q_16, .int 0, .ref q_21, .ref q_24, .int (-1), .ref q_27, .ref q_32, .null, .null, .null])), (q_1, .inl (cA_2, 80, .inr (.inr (.inr (.inr (fun _ => none)))))), (q_3, .inr (0, [.int 0, .int (-1), .ref q1_6, .ref q2_7, .ref q3_8, .ref q4_9, .ref q5_10, .int (-1), .int (-1), .int 0, .int 0, .int 0])), (q_11, .inr (1, [.int 80, .ref q_14, .int 0])), (q_14, .inl (cA_15, 0, .inl (fun _ => 0))), (q_16, .inr (1, [.int 80, .ref q_19, .int 0])), (q_19, .inl (cA_20, 0, .inl (fun _ => 0))), (q_27, .inr (1, [.int 80, .ref q_30, .int 0])), (q_30, .inl (cA_31, 0, .inl (fun _ => 0))), (q_32, .inr (4, [.int (-1), .int 0, .int 0, .int 0, .int 0]))] := hD
  refine lv_aload_n hx hb dX5_init_129 rfl (lv_at hl 0 rfl) ?_
  refine va_new (ci := 1) (fs := [.int 0, .null, .int 0]) (C := RX1) (T := TX1) (N := 3) hx hb hts kt_X1 tyX1 tyX1_ok hown (kx_word hG kq_62 rfl) (kx_word hG kq_20 rfl) (kx_word hG kq_21 rfl) hK hP hD hS hA rfl (fun j hj => by rcases (show j = 0 ∨ j = 1 ∨ j = 2 by omega) with rfl | rfl | rfl <;> rfl) (Nat.le_of_ble_eq_true rfl) (Nat.le_of_ble_eq_true rfl) dX5_init_130 (fun q_35 H hP hD hS => ?_)
  have hP : va_P (dC, dI) kxCl [(x, .inr (5, [.ref q_1, .ref q_3, .int 0, .int 1, .int 1, .ref q_11, .ref q_16, .int 0, .ref q_21, .ref q_24, .int (-1), .ref q_27, .ref q_32, .null, .null, .null])), (q_1, .inl (cA_2, 80, .inr (.inr (.inr (.inr (fun _ => none)))))), (q_3, .inr (0, [.int 0, .int (-1), .ref q1_6, .ref q2_7, .ref q3_8, .ref q4_9, .ref q5_10, .int (-1), .int (-1), .int 0, .int 0, .int 0])), (q_11, .inr (1, [.int 80, .ref q_14, .int 0])), (q_14, .inl (cA_15, 0, .inl (fun _ => 0))), (q_16, .inr (1, [.int 80, .ref q_19, .int 0])), (q_19, .inl (cA_20, 0, .inl (fun _ => 0))), (q_27, .inr (1, [.int 80, .ref q_30, .int 0])), (q_30, .inl (cA_31, 0, .inl (fun _ => 0))), (q_32, .inr (4, [.int (-1), .int 0, .int 0, .int 0, .int 0])), (q_35, .inr (1, [.int 0, .null, .int 0]))] H := hP
  have hD : va_D A [(x, .inr (5, [.ref q_1, .ref q_3, .int 0, .int 1, .int 1, .ref q_11, .ref q_16, .int 0, .ref q_21, .ref q_24, .int (-1), .ref q_27, .ref q_32, .null, .null, .null])), (q_1, .inl (cA_2, 80, .inr (.inr (.inr (.inr (fun _ => none)))))), (q_3, .inr (0, [.int 0, .int (-1), .ref q1_6, .ref q2_7, .ref q3_8, .ref q4_9, .ref q5_10, .int (-1), .int (-1), .int 0, .int 0, .int 0])), (q_11, .inr (1, [.int 80, .ref q_14, .int 0])), (q_14, .inl (cA_15, 0, .inl (fun _ => 0))), (q_16, .inr (1, [.int 80, .ref q_19, .int 0])), (q_19, .inl (cA_20, 0, .inl (fun _ => 0))), (q_27, .inr (1, [.int 80, .ref q_30, .int 0])), (q_30, .inl (cA_31, 0, .inl (fun _ => 0))), (q_32, .inr (4, [.int (-1), .int 0, .int 0, .int 0, .int 0])), (q_35, .inr (1, [.int 0, .null, .int 0]))] := hD
  refine W.widen (k := 39) (n := 157) (by omega) (by omega) ?_
  refine lv_dup hx hb dX5_init_133 rfl ?_
  refine lv_bipush (v := 80) hx hb dX5_init_134 (by decide) ?_
  have hPc := hP.sub (ws' := [(q_35, .inr (1, [.int 0, .null, .int 0]))]) [10] rfl
  have hDc := hD.sub (ws' := [(q_35, .inr (1, [.int 0, .null, .int 0]))]) [10] (by decide) rfl
  have hKc := hK.sub (tys' := []) [] rfl
  have hFc := va_free (wc := [(q_35, .inr (1, [.int 0, .null, .int 0]))]) hD hS hA [10] rfl
  refine va_callv (va_runI (As := [.int 80]) (rest := [.ref q_35, .ref x]) ⟨hx, hb, hml, hown, hts⟩ (c_Ints_init l hlf dC dI q_35 80 H.size ) (cwI 1 hts (kx_gI kq_22 rfl) rfl rfl rfl (kx_word hG kq_21 rfl) (kx_word hG kq_63 rfl) (kx_word hG kq_24 rfl) rfl (by decide +kernel) ⟨Nat.le_of_ble_eq_true rfl, Nat.le_of_ble_eq_true rfl⟩) ⟨kx_blind, kx_give (ws := []) (tys := []) hPc hDc hKc hG hZ hS hFc⟩ rfl rfl hl.1 rfl (lv_room (Nat.le_of_ble_eq_true rfl)) dX5_init_136 ⟨Nat.le_of_ble_eq_true rfl, Nat.le_of_ble_eq_true rfl⟩) hS (fun q _ h => hFc q h) hFc (fun u t H1 locs ht hvm hw_37 hB hz1 hk1 hS => ?_)
  obtain ⟨q_38, cA_39⟩ := u
  obtain ⟨hP1, hK1, hD1⟩ := hB
  rw [ht] at hP1
  have hK1 := va_K.moved hvm.symm hK1
  try dsimp only at hw_37
  obtain ⟨hP, hD⟩ := va_join (wr := [(x, .inr (5, [.ref q_1, .ref q_3, .int 0, .int 1, .int 1, .ref q_11, .ref q_16, .int 0, .ref q_21, .ref q_24, .int (-1), .ref q_27, .ref q_32, .null, .null, .null])), (q_1, .inl (cA_2, 80, .inr (.inr (.inr (.inr (fun _ => none)))))), (q_3, .inr (0, [.int 0, .int (-1), .ref q1_6, .ref q2_7, .ref q3_8, .ref q4_9, .ref q5_10, .int (-1), .int (-1), .int 0, .int 0, .int 0])), (q_11, .inr (1, [.int 80, .ref q_14, .int 0])), (q_14, .inl (cA_15, 0, .inl (fun _ => 0))), (q_16, .inr (1, [.int 80, .ref q_19, .int 0])), (q_19, .inl (cA_20, 0, .inl (fun _ => 0))), (q_27, .inr (1, [.int 80, .ref q_30, .int 0])), (q_30, .inl (cA_31, 0, .inl (fun _ => 0))), (q_32, .inr (4, [.int (-1), .int 0, .int 0, .int 0, .int 0]))]) (w1 := [(q_35, .inr (1, [.int 80, .ref q_38, .int 0])), (q_38, .inl (cA_39, 0, .inl (fun _ => 0)))]) hP hD [10] [0, 1, 2, 3, 4, 5, 6, 7, 8, 9] rfl rfl (by decide) (by decide) hk1 hFc hP1 hD1
  have hK := (hK.sub (tys' := [(cA_2, .object RX0), (cA_15, .int), (cA_20, .int), (cA_31, .int)]) [0, 1, 2, 3] rfl).app hK1
  generalize H1 = H at hP hS ⊢
  have hP : va_P (dC, dI) kxCl [(x, .inr (5, [.ref q_1, .ref q_3, .int 0, .int 1, .int 1, .ref q_11, .ref q_16, .int 0, .ref q_21, .ref q_24, .int (-1), .ref q_27, .ref q_32, .null, .null, .null])), (q_1, .inl (cA_2, 80, .inr (.inr (.inr (.inr (fun _ => none)))))), (q_3, .inr (0, [.int 0, .int (-1), .ref q1_6, .ref q2_7, .ref q3_8, .ref q4_9, .ref q5_10, .int (-1), .int (-1), .int 0, .int 0, .int 0])), (q_11, .inr (1, [.int 80, .ref q_14, .int 0])), (q_14, .inl (cA_15, 0, .inl (fun _ => 0))), (q_16, .inr (1, [.int 80, .ref q_19, .int 0])), (q_19, .inl (cA_20, 0, .inl (fun _ => 0))), (q_27, .inr (1, [.int 80, .ref q_30, .int 0])), (q_30, .inl (cA_31, 0, .inl (fun _ => 0))), (q_32, .inr (4, [.int (-1), .int 0, .int 0, .int 0, .int 0])), (q_35, .inr (1, [.int 80, .ref q_38, .int 0])), (q_38, .inl (cA_39, 0, .inl (fun _ => 0)))] H := hP
  have hD : va_D A [(x, .inr (5, [.ref q_1, .ref q_3, .int 0, .int 1, .int 1, .ref q_11, .ref q_16, .int 0, .ref q_21, .ref q_24, .int (-1), .ref q_27, .ref q_32, .null, .null, .null])), (q_1, .inl (cA_2, 80, .inr (.inr (.inr (.inr (fun _ => none)))))), (q_3, .inr (0, [.int 0, .int (-1), .ref q1_6, .ref q2_7, .ref q3_8, .ref q4_9, .ref q5_10, .int (-1), .int (-1), .int 0, .int 0, .int 0])), (q_11, .inr (1, [.int 80, .ref q_14, .int 0])), (q_14, .inl (cA_15, 0, .inl (fun _ => 0))), (q_16, .inr (1, [.int 80, .ref q_19, .int 0])), (q_19, .inl (cA_20, 0, .inl (fun _ => 0))), (q_27, .inr (1, [.int 80, .ref q_30, .int 0])), (q_30, .inl (cA_31, 0, .inl (fun _ => 0))), (q_32, .inr (4, [.int (-1), .int 0, .int 0, .int 0, .int 0])), (q_35, .inr (1, [.int 80, .ref q_38, .int 0])), (q_38, .inl (cA_39, 0, .inl (fun _ => 0)))] := hD
  have hK : va_K (dC, dI) kxCl [(cA_2, .object RX0), (cA_15, .int), (cA_20, .int), (cA_31, .int), (cA_39, .int)] s := hK
  refine W.widen (k := 40) (n := 157) (by omega) (by omega) ?_
  refine va_putF (D := (dC, dI)) (ci := 5) (v := .ref q_35) (ty := .object "IndexSort$Ints") (C := RX5) (T := TX5) (N := 16) hx hb hts kt_X5 tyX5 tyX5_ok nmX5 hown hK hP hD hS 0 rfl rfl 13 (by decide) (kx_word hG kq_80 rfl) (fun _ h9 => h9) rfl hin rfl (by decide +kernel) rfl rfl (Nat.le_of_ble_eq_true rfl) dX5_init_139 (fun H locs hP hD hS => ?_)
  have hP : va_P (dC, dI) kxCl [(x, .inr (5, [.ref q_1, .ref q_3, .int 0, .int 1, .int 1, .ref q_11, .ref q_16, .int 0, .ref q_21, .ref q_24, .int (-1), .ref q_27, .ref q_32, .ref q_35, .null, .null])), (q_1, .inl (cA_2, 80, .inr (.inr (.inr (.inr (fun _ => none)))))), (q_3, .inr (0, [.int 0, .int (-1), .ref q1_6, .ref q2_7, .ref q3_8, .ref q4_9, .ref q5_10, .int (-1), .int (-1), .int 0, .int 0, .int 0])), (q_11, .inr (1, [.int 80, .ref q_14, .int 0])), (q_14, .inl (cA_15, 0, .inl (fun _ => 0))), (q_16, .inr (1, [.int 80, .ref q_19, .int 0])), (q_19, .inl (cA_20, 0, .inl (fun _ => 0))), (q_27, .inr (1, [.int 80, .ref q_30, .int 0])), (q_30, .inl (cA_31, 0, .inl (fun _ => 0))), (q_32, .inr (4, [.int (-1), .int 0, .int 0, .int 0, .int 0])), (q_35, .inr (1, [.int 80, .ref q_38, .int 0])), (q_38, .inl (cA_39, 0, .inl (fun _ => 0)))] H := hP
  have hD : va_D A [(x, .inr (5, [.ref q_1, .ref q_3, .int 0, .int 1, .int 1, .ref q_11, .ref q_16, .int 0, .ref q_21, .ref q_24, .int (-1), .ref q_27, .ref q_32, .ref q_35, .null, .null])), (q_1, .inl (cA_2, 80, .inr (.inr (.inr (.inr (fun _ => none)))))), (q_3, .inr (0, [.int 0, .int (-1), .ref q1_6, .ref q2_7, .ref q3_8, .ref q4_9, .ref q5_10, .int (-1), .int (-1), .int 0, .int 0, .int 0])), (q_11, .inr (1, [.int 80, .ref q_14, .int 0])), (q_14, .inl (cA_15, 0, .inl (fun _ => 0))), (q_16, .inr (1, [.int 80, .ref q_19, .int 0])), (q_19, .inl (cA_20, 0, .inl (fun _ => 0))), (q_27, .inr (1, [.int 80, .ref q_30, .int 0])), (q_30, .inl (cA_31, 0, .inl (fun _ => 0))), (q_32, .inr (4, [.int (-1), .int 0, .int 0, .int 0, .int 0])), (q_35, .inr (1, [.int 80, .ref q_38, .int 0])), (q_38, .inl (cA_39, 0, .inl (fun _ => 0)))] := hD
  refine lv_aload_n hx hb dX5_init_142 rfl (lv_at hl 0 rfl) ?_
  refine va_new (ci := 2) (fs := [.null, .int 0, .int 0]) (C := RX2) (T := TX2) (N := 3) hx hb hts kt_X2 tyX2 tyX2_ok hown (kx_word hG kq_81 rfl) (kx_word hG kq_82 rfl) (kx_word hG kq_83 rfl) hK hP hD hS hA rfl (fun j hj => by rcases (show j = 0 ∨ j = 1 ∨ j = 2 by omega) with rfl | rfl | rfl <;> rfl) (Nat.le_of_ble_eq_true rfl) (Nat.le_of_ble_eq_true rfl) dX5_init_143 (fun q_40 H hP hD hS => ?_)
  have hP : va_P (dC, dI) kxCl [(x, .inr (5, [.ref q_1, .ref q_3, .int 0, .int 1, .int 1, .ref q_11, .ref q_16, .int 0, .ref q_21, .ref q_24, .int (-1), .ref q_27, .ref q_32, .ref q_35, .null, .null])), (q_1, .inl (cA_2, 80, .inr (.inr (.inr (.inr (fun _ => none)))))), (q_3, .inr (0, [.int 0, .int (-1), .ref q1_6, .ref q2_7, .ref q3_8, .ref q4_9, .ref q5_10, .int (-1), .int (-1), .int 0, .int 0, .int 0])), (q_11, .inr (1, [.int 80, .ref q_14, .int 0])), (q_14, .inl (cA_15, 0, .inl (fun _ => 0))), (q_16, .inr (1, [.int 80, .ref q_19, .int 0])), (q_19, .inl (cA_20, 0, .inl (fun _ => 0))), (q_27, .inr (1, [.int 80, .ref q_30, .int 0])), (q_30, .inl (cA_31, 0, .inl (fun _ => 0))), (q_32, .inr (4, [.int (-1), .int 0, .int 0, .int 0, .int 0])), (q_35, .inr (1, [.int 80, .ref q_38, .int 0])), (q_38, .inl (cA_39, 0, .inl (fun _ => 0))), (q_40, .inr (2, [.null, .int 0, .int 0]))] H := hP
  have hD : va_D A [(x, .inr (5, [.ref q_1, .ref q_3, .int 0, .int 1, .int 1, .ref q_11, .ref q_16, .int 0, .ref q_21, .ref q_24, .int (-1), .ref q_27, .ref q_32, .ref q_35, .null, .null])), (q_1, .inl (cA_2, 80, .inr (.inr (.inr (.inr (fun _ => none)))))), (q_3, .inr (0, [.int 0, .int (-1), .ref q1_6, .ref q2_7, .ref q3_8, .ref q4_9, .ref q5_10, .int (-1), .int (-1), .int 0, .int 0, .int 0])), (q_11, .inr (1, [.int 80, .ref q_14, .int 0])), (q_14, .inl (cA_15, 0, .inl (fun _ => 0))), (q_16, .inr (1, [.int 80, .ref q_19, .int 0])), (q_19, .inl (cA_20, 0, .inl (fun _ => 0))), (q_27, .inr (1, [.int 80, .ref q_30, .int 0])), (q_30, .inl (cA_31, 0, .inl (fun _ => 0))), (q_32, .inr (4, [.int (-1), .int 0, .int 0, .int 0, .int 0])), (q_35, .inr (1, [.int 80, .ref q_38, .int 0])), (q_38, .inl (cA_39, 0, .inl (fun _ => 0))), (q_40, .inr (2, [.null, .int 0, .int 0]))] := hD
  refine W.widen (k := 41) (n := 160) (by omega) (by omega) ?_
  refine lv_dup hx hb dX5_init_146 rfl ?_
  have hPc := hP.sub (ws' := [(q_40, .inr (2, [.null, .int 0, .int 0]))]) [12] rfl
  have hDc := hD.sub (ws' := [(q_40, .inr (2, [.null, .int 0, .int 0]))]) [12] (by decide) rfl
  have hKc := hK.sub (tys' := []) [] rfl
  have hFc := va_free (wc := [(q_40, .inr (2, [.null, .int 0, .int 0]))]) hD hS hA [12] rfl
  refine va_callv (va_runIN (As := []) (rest := [.ref q_40, .ref x]) ⟨hx, hb, hml, hown, hts⟩ (c_Paper_init l hlf dC dI q_40 H.size ) ⟨va_cnB (host := RX5) 0 hts (kx_gI kq_84 rfl) rfl rfl rfl (kx_nm hG kq_85) (kx_word hG kq_83 rfl) (by decide +kernel) ⟨Nat.le_of_ble_eq_true rfl, Nat.le_of_ble_eq_true rfl⟩, rfl, (kx_word hG kq_86 rfl)⟩ ⟨kx_blind, kx_give (ws := []) (tys := []) hPc hDc hKc hG hZ hS hFc⟩ rfl rfl hl.1 rfl (lv_room (Nat.le_of_ble_eq_true rfl)) dX5_init_147 ⟨Nat.le_of_ble_eq_true rfl, Nat.le_of_ble_eq_true rfl⟩) hS (fun q _ h => hFc q h) hFc (fun u t H1 locs ht hvm hw_42 hB hz1 hk1 hS => ?_)
  obtain ⟨q_43, rfl⟩ : ∃ z, z = u := ⟨_, rfl⟩
  obtain ⟨hP1, hK1, hD1⟩ := hB
  rw [ht] at hP1
  have hK1 := va_K.moved hvm.symm hK1
  try dsimp only at hw_42
  obtain ⟨hP, hD⟩ := va_join (wr := [(x, .inr (5, [.ref q_1, .ref q_3, .int 0, .int 1, .int 1, .ref q_11, .ref q_16, .int 0, .ref q_21, .ref q_24, .int (-1), .ref q_27, .ref q_32, .ref q_35, .null, .null])), (q_1, .inl (cA_2, 80, .inr (.inr (.inr (.inr (fun _ => none)))))), (q_3, .inr (0, [.int 0, .int (-1), .ref q1_6, .ref q2_7, .ref q3_8, .ref q4_9, .ref q5_10, .int (-1), .int (-1), .int 0, .int 0, .int 0])), (q_11, .inr (1, [.int 80, .ref q_14, .int 0])), (q_14, .inl (cA_15, 0, .inl (fun _ => 0))), (q_16, .inr (1, [.int 80, .ref q_19, .int 0])), (q_19, .inl (cA_20, 0, .inl (fun _ => 0))), (q_27, .inr (1, [.int 80, .ref q_30, .int 0])), (q_30, .inl (cA_31, 0, .inl (fun _ => 0))), (q_32, .inr (4, [.int (-1), .int 0, .int 0, .int 0, .int 0])), (q_35, .inr (1, [.int 80, .ref q_38, .int 0])), (q_38, .inl (cA_39, 0, .inl (fun _ => 0)))]) (w1 := [(q_40, .inr (2, [.ref q_43, .int 0, .int 0]))]) hP hD [12] [0, 1, 2, 3, 4, 5, 6, 7, 8, 9, 10, 11] rfl rfl (by decide) (by decide) hk1 hFc hP1 hD1
  have hK := (hK.sub (tys' := [(cA_2, .object RX0), (cA_15, .int), (cA_20, .int), (cA_31, .int), (cA_39, .int)]) [0, 1, 2, 3, 4] rfl).app hK1
  generalize H1 = H at hP hS ⊢
  have hP : va_P (dC, dI) kxCl [(x, .inr (5, [.ref q_1, .ref q_3, .int 0, .int 1, .int 1, .ref q_11, .ref q_16, .int 0, .ref q_21, .ref q_24, .int (-1), .ref q_27, .ref q_32, .ref q_35, .null, .null])), (q_1, .inl (cA_2, 80, .inr (.inr (.inr (.inr (fun _ => none)))))), (q_3, .inr (0, [.int 0, .int (-1), .ref q1_6, .ref q2_7, .ref q3_8, .ref q4_9, .ref q5_10, .int (-1), .int (-1), .int 0, .int 0, .int 0])), (q_11, .inr (1, [.int 80, .ref q_14, .int 0])), (q_14, .inl (cA_15, 0, .inl (fun _ => 0))), (q_16, .inr (1, [.int 80, .ref q_19, .int 0])), (q_19, .inl (cA_20, 0, .inl (fun _ => 0))), (q_27, .inr (1, [.int 80, .ref q_30, .int 0])), (q_30, .inl (cA_31, 0, .inl (fun _ => 0))), (q_32, .inr (4, [.int (-1), .int 0, .int 0, .int 0, .int 0])), (q_35, .inr (1, [.int 80, .ref q_38, .int 0])), (q_38, .inl (cA_39, 0, .inl (fun _ => 0))), (q_40, .inr (2, [.ref q_43, .int 0, .int 0]))] H := hP
  have hD : va_D A [(x, .inr (5, [.ref q_1, .ref q_3, .int 0, .int 1, .int 1, .ref q_11, .ref q_16, .int 0, .ref q_21, .ref q_24, .int (-1), .ref q_27, .ref q_32, .ref q_35, .null, .null])), (q_1, .inl (cA_2, 80, .inr (.inr (.inr (.inr (fun _ => none)))))), (q_3, .inr (0, [.int 0, .int (-1), .ref q1_6, .ref q2_7, .ref q3_8, .ref q4_9, .ref q5_10, .int (-1), .int (-1), .int 0, .int 0, .int 0])), (q_11, .inr (1, [.int 80, .ref q_14, .int 0])), (q_14, .inl (cA_15, 0, .inl (fun _ => 0))), (q_16, .inr (1, [.int 80, .ref q_19, .int 0])), (q_19, .inl (cA_20, 0, .inl (fun _ => 0))), (q_27, .inr (1, [.int 80, .ref q_30, .int 0])), (q_30, .inl (cA_31, 0, .inl (fun _ => 0))), (q_32, .inr (4, [.int (-1), .int 0, .int 0, .int 0, .int 0])), (q_35, .inr (1, [.int 80, .ref q_38, .int 0])), (q_38, .inl (cA_39, 0, .inl (fun _ => 0))), (q_40, .inr (2, [.ref q_43, .int 0, .int 0]))] := hD
  have hK : va_K (dC, dI) kxCl [(cA_2, .object RX0), (cA_15, .int), (cA_20, .int), (cA_31, .int), (cA_39, .int)] s := hK
  refine W.widen (k := 42) (n := 160) (by omega) (by omega) ?_
  refine va_put (D := (dC, dI)) (ci := 5) (v := .ref q_40) (ty := .object "IndexSort$Paper") (C := RX5) (T := TX5) (N := 16) hx hb hts kt_X5 tyX5 tyX5_ok nmX5 hown hK hP hD hS 0 rfl rfl 14 (by decide) (kx_word hG kq_87 rfl) (fun _ h9 => h9) rfl (by decide +kernel) rfl rfl (Nat.le_of_ble_eq_true rfl) dX5_init_150 (fun H locs hP hD hS => ?_)
  have hP : va_P (dC, dI) kxCl [(x, .inr (5, [.ref q_1, .ref q_3, .int 0, .int 1, .int 1, .ref q_11, .ref q_16, .int 0, .ref q_21, .ref q_24, .int (-1), .ref q_27, .ref q_32, .ref q_35, .ref q_40, .null])), (q_1, .inl (cA_2, 80, .inr (.inr (.inr (.inr (fun _ => none)))))), (q_3, .inr (0, [.int 0, .int (-1), .ref q1_6, .ref q2_7, .ref q3_8, .ref q4_9, .ref q5_10, .int (-1), .int (-1), .int 0, .int 0, .int 0])), (q_11, .inr (1, [.int 80, .ref q_14, .int 0])), (q_14, .inl (cA_15, 0, .inl (fun _ => 0))), (q_16, .inr (1, [.int 80, .ref q_19, .int 0])), (q_19, .inl (cA_20, 0, .inl (fun _ => 0))), (q_27, .inr (1, [.int 80, .ref q_30, .int 0])), (q_30, .inl (cA_31, 0, .inl (fun _ => 0))), (q_32, .inr (4, [.int (-1), .int 0, .int 0, .int 0, .int 0])), (q_35, .inr (1, [.int 80, .ref q_38, .int 0])), (q_38, .inl (cA_39, 0, .inl (fun _ => 0))), (q_40, .inr (2, [.ref q_43, .int 0, .int 0]))] H := hP
  have hD : va_D A [(x, .inr (5, [.ref q_1, .ref q_3, .int 0, .int 1, .int 1, .ref q_11, .ref q_16, .int 0, .ref q_21, .ref q_24, .int (-1), .ref q_27, .ref q_32, .ref q_35, .ref q_40, .null])), (q_1, .inl (cA_2, 80, .inr (.inr (.inr (.inr (fun _ => none)))))), (q_3, .inr (0, [.int 0, .int (-1), .ref q1_6, .ref q2_7, .ref q3_8, .ref q4_9, .ref q5_10, .int (-1), .int (-1), .int 0, .int 0, .int 0])), (q_11, .inr (1, [.int 80, .ref q_14, .int 0])), (q_14, .inl (cA_15, 0, .inl (fun _ => 0))), (q_16, .inr (1, [.int 80, .ref q_19, .int 0])), (q_19, .inl (cA_20, 0, .inl (fun _ => 0))), (q_27, .inr (1, [.int 80, .ref q_30, .int 0])), (q_30, .inl (cA_31, 0, .inl (fun _ => 0))), (q_32, .inr (4, [.int (-1), .int 0, .int 0, .int 0, .int 0])), (q_35, .inr (1, [.int 80, .ref q_38, .int 0])), (q_38, .inl (cA_39, 0, .inl (fun _ => 0))), (q_40, .inr (2, [.ref q_43, .int 0, .int 0]))] := hD
  refine lv_aload_n hx hb dX5_init_153 rfl (lv_at hl 0 rfl) ?_
  refine va_new (ci := 2) (fs := [.null, .int 0, .int 0]) (C := RX2) (T := TX2) (N := 3) hx hb hts kt_X2 tyX2 tyX2_ok hown (kx_word hG kq_81 rfl) (kx_word hG kq_82 rfl) (kx_word hG kq_83 rfl) hK hP hD hS hA rfl (fun j hj => by rcases (show j = 0 ∨ j = 1 ∨ j = 2 by omega) with rfl | rfl | rfl <;> rfl) (Nat.le_of_ble_eq_true rfl) (Nat.le_of_ble_eq_true rfl) dX5_init_154 (fun q_44 H hP hD hS => ?_)
  have hP : va_P (dC, dI) kxCl [(x, .inr (5, [.ref q_1, .ref q_3, .int 0, .int 1, .int 1, .ref q_11, .ref q_16, .int 0, .ref q_21, .ref q_24, .int (-1), .ref q_27, .ref q_32, .ref q_35, .ref q_40, .null])), (q_1, .inl (cA_2, 80, .inr (.inr (.inr (.inr (fun _ => none)))))), (q_3, .inr (0, [.int 0, .int (-1), .ref q1_6, .ref q2_7, .ref q3_8, .ref q4_9, .ref q5_10, .int (-1), .int (-1), .int 0, .int 0, .int 0])), (q_11, .inr (1, [.int 80, .ref q_14, .int 0])), (q_14, .inl (cA_15, 0, .inl (fun _ => 0))), (q_16, .inr (1, [.int 80, .ref q_19, .int 0])), (q_19, .inl (cA_20, 0, .inl (fun _ => 0))), (q_27, .inr (1, [.int 80, .ref q_30, .int 0])), (q_30, .inl (cA_31, 0, .inl (fun _ => 0))), (q_32, .inr (4, [.int (-1), .int 0, .int 0, .int 0, .int 0])), (q_35, .inr (1, [.int 80, .ref q_38, .int 0])), (q_38, .inl (cA_39, 0, .inl (fun _ => 0))), (q_40, .inr (2, [.ref q_43, .int 0, .int 0])), (q_44, .inr (2, [.null, .int 0, .int 0]))] H := hP
  have hD : va_D A [(x, .inr (5, [.ref q_1, .ref q_3, .int 0, .int 1, .int 1, .ref q_11, .ref q_16, .int 0, .ref q_21, .ref q_24, .int (-1), .ref q_27, .ref q_32, .ref q_35, .ref q_40, .null])), (q_1, .inl (cA_2, 80, .inr (.inr (.inr (.inr (fun _ => none)))))), (q_3, .inr (0, [.int 0, .int (-1), .ref q1_6, .ref q2_7, .ref q3_8, .ref q4_9, .ref q5_10, .int (-1), .int (-1), .int 0, .int 0, .int 0])), (q_11, .inr (1, [.int 80, .ref q_14, .int 0])), (q_14, .inl (cA_15, 0, .inl (fun _ => 0))), (q_16, .inr (1, [.int 80, .ref q_19, .int 0])), (q_19, .inl (cA_20, 0, .inl (fun _ => 0))), (q_27, .inr (1, [.int 80, .ref q_30, .int 0])), (q_30, .inl (cA_31, 0, .inl (fun _ => 0))), (q_32, .inr (4, [.int (-1), .int 0, .int 0, .int 0, .int 0])), (q_35, .inr (1, [.int 80, .ref q_38, .int 0])), (q_38, .inl (cA_39, 0, .inl (fun _ => 0))), (q_40, .inr (2, [.ref q_43, .int 0, .int 0])), (q_44, .inr (2, [.null, .int 0, .int 0]))] := hD
  refine W.widen (k := 43) (n := 163) (by omega) (by omega) ?_
  refine lv_dup hx hb dX5_init_157 rfl ?_
  have hPc := hP.sub (ws' := [(q_44, .inr (2, [.null, .int 0, .int 0]))]) [13] rfl
  have hDc := hD.sub (ws' := [(q_44, .inr (2, [.null, .int 0, .int 0]))]) [13] (by decide) rfl
  have hKc := hK.sub (tys' := []) [] rfl
  have hFc := va_free (wc := [(q_44, .inr (2, [.null, .int 0, .int 0]))]) hD hS hA [13] rfl
  refine va_callv (va_runIN (As := []) (rest := [.ref q_44, .ref x]) ⟨hx, hb, hml, hown, hts⟩ (c_Paper_init l hlf dC dI q_44 H.size ) ⟨va_cnB (host := RX5) 0 hts (kx_gI kq_84 rfl) rfl rfl rfl (kx_nm hG kq_85) (kx_word hG kq_83 rfl) (by decide +kernel) ⟨Nat.le_of_ble_eq_true rfl, Nat.le_of_ble_eq_true rfl⟩, rfl, (kx_word hG kq_86 rfl)⟩ ⟨kx_blind, kx_give (ws := []) (tys := []) hPc hDc hKc hG hZ hS hFc⟩ rfl rfl hl.1 rfl (lv_room (Nat.le_of_ble_eq_true rfl)) dX5_init_158 ⟨Nat.le_of_ble_eq_true rfl, Nat.le_of_ble_eq_true rfl⟩) hS (fun q _ h => hFc q h) hFc (fun u t H1 locs ht hvm hw_46 hB hz1 hk1 hS => ?_)
  obtain ⟨q_47, rfl⟩ : ∃ z, z = u := ⟨_, rfl⟩
  obtain ⟨hP1, hK1, hD1⟩ := hB
  rw [ht] at hP1
  have hK1 := va_K.moved hvm.symm hK1
  try dsimp only at hw_46
  obtain ⟨hP, hD⟩ := va_join (wr := [(x, .inr (5, [.ref q_1, .ref q_3, .int 0, .int 1, .int 1, .ref q_11, .ref q_16, .int 0, .ref q_21, .ref q_24, .int (-1), .ref q_27, .ref q_32, .ref q_35, .ref q_40, .null])), (q_1, .inl (cA_2, 80, .inr (.inr (.inr (.inr (fun _ => none)))))), (q_3, .inr (0, [.int 0, .int (-1), .ref q1_6, .ref q2_7, .ref q3_8, .ref q4_9, .ref q5_10, .int (-1), .int (-1), .int 0, .int 0, .int 0])), (q_11, .inr (1, [.int 80, .ref q_14, .int 0])), (q_14, .inl (cA_15, 0, .inl (fun _ => 0))), (q_16, .inr (1, [.int 80, .ref q_19, .int 0])), (q_19, .inl (cA_20, 0, .inl (fun _ => 0))), (q_27, .inr (1, [.int 80, .ref q_30, .int 0])), (q_30, .inl (cA_31, 0, .inl (fun _ => 0))), (q_32, .inr (4, [.int (-1), .int 0, .int 0, .int 0, .int 0])), (q_35, .inr (1, [.int 80, .ref q_38, .int 0])), (q_38, .inl (cA_39, 0, .inl (fun _ => 0))), (q_40, .inr (2, [.ref q_43, .int 0, .int 0]))]) (w1 := [(q_44, .inr (2, [.ref q_47, .int 0, .int 0]))]) hP hD [13] [0, 1, 2, 3, 4, 5, 6, 7, 8, 9, 10, 11, 12] rfl rfl (by decide) (by decide) hk1 hFc hP1 hD1
  have hK := (hK.sub (tys' := [(cA_2, .object RX0), (cA_15, .int), (cA_20, .int), (cA_31, .int), (cA_39, .int)]) [0, 1, 2, 3, 4] rfl).app hK1
  generalize H1 = H at hP hS ⊢
  have hP : va_P (dC, dI) kxCl [(x, .inr (5, [.ref q_1, .ref q_3, .int 0, .int 1, .int 1, .ref q_11, .ref q_16, .int 0, .ref q_21, .ref q_24, .int (-1), .ref q_27, .ref q_32, .ref q_35, .ref q_40, .null])), (q_1, .inl (cA_2, 80, .inr (.inr (.inr (.inr (fun _ => none)))))), (q_3, .inr (0, [.int 0, .int (-1), .ref q1_6, .ref q2_7, .ref q3_8, .ref q4_9, .ref q5_10, .int (-1), .int (-1), .int 0, .int 0, .int 0])), (q_11, .inr (1, [.int 80, .ref q_14, .int 0])), (q_14, .inl (cA_15, 0, .inl (fun _ => 0))), (q_16, .inr (1, [.int 80, .ref q_19, .int 0])), (q_19, .inl (cA_20, 0, .inl (fun _ => 0))), (q_27, .inr (1, [.int 80, .ref q_30, .int 0])), (q_30, .inl (cA_31, 0, .inl (fun _ => 0))), (q_32, .inr (4, [.int (-1), .int 0, .int 0, .int 0, .int 0])), (q_35, .inr (1, [.int 80, .ref q_38, .int 0])), (q_38, .inl (cA_39, 0, .inl (fun _ => 0))), (q_40, .inr (2, [.ref q_43, .int 0, .int 0])), (q_44, .inr (2, [.ref q_47, .int 0, .int 0]))] H := hP
  have hD : va_D A [(x, .inr (5, [.ref q_1, .ref q_3, .int 0, .int 1, .int 1, .ref q_11, .ref q_16, .int 0, .ref q_21, .ref q_24, .int (-1), .ref q_27, .ref q_32, .ref q_35, .ref q_40, .null])), (q_1, .inl (cA_2, 80, .inr (.inr (.inr (.inr (fun _ => none)))))), (q_3, .inr (0, [.int 0, .int (-1), .ref q1_6, .ref q2_7, .ref q3_8, .ref q4_9, .ref q5_10, .int (-1), .int (-1), .int 0, .int 0, .int 0])), (q_11, .inr (1, [.int 80, .ref q_14, .int 0])), (q_14, .inl (cA_15, 0, .inl (fun _ => 0))), (q_16, .inr (1, [.int 80, .ref q_19, .int 0])), (q_19, .inl (cA_20, 0, .inl (fun _ => 0))), (q_27, .inr (1, [.int 80, .ref q_30, .int 0])), (q_30, .inl (cA_31, 0, .inl (fun _ => 0))), (q_32, .inr (4, [.int (-1), .int 0, .int 0, .int 0, .int 0])), (q_35, .inr (1, [.int 80, .ref q_38, .int 0])), (q_38, .inl (cA_39, 0, .inl (fun _ => 0))), (q_40, .inr (2, [.ref q_43, .int 0, .int 0])), (q_44, .inr (2, [.ref q_47, .int 0, .int 0]))] := hD
  have hK : va_K (dC, dI) kxCl [(cA_2, .object RX0), (cA_15, .int), (cA_20, .int), (cA_31, .int), (cA_39, .int)] s := hK
  refine W.widen (k := 44) (n := 163) (by omega) (by omega) ?_
  refine va_put (D := (dC, dI)) (ci := 5) (v := .ref q_44) (ty := .object "IndexSort$Paper") (C := RX5) (T := TX5) (N := 16) hx hb hts kt_X5 tyX5 tyX5_ok nmX5 hown hK hP hD hS 0 rfl rfl 15 (by decide) (kx_word hG kq_88 rfl) (fun _ h9 => h9) rfl (by decide +kernel) rfl rfl (Nat.le_of_ble_eq_true rfl) dX5_init_161 (fun H locs hP hD hS => ?_)
  have hP : va_P (dC, dI) kxCl [(x, .inr (5, [.ref q_1, .ref q_3, .int 0, .int 1, .int 1, .ref q_11, .ref q_16, .int 0, .ref q_21, .ref q_24, .int (-1), .ref q_27, .ref q_32, .ref q_35, .ref q_40, .ref q_44])), (q_1, .inl (cA_2, 80, .inr (.inr (.inr (.inr (fun _ => none)))))), (q_3, .inr (0, [.int 0, .int (-1), .ref q1_6, .ref q2_7, .ref q3_8, .ref q4_9, .ref q5_10, .int (-1), .int (-1), .int 0, .int 0, .int 0])), (q_11, .inr (1, [.int 80, .ref q_14, .int 0])), (q_14, .inl (cA_15, 0, .inl (fun _ => 0))), (q_16, .inr (1, [.int 80, .ref q_19, .int 0])), (q_19, .inl (cA_20, 0, .inl (fun _ => 0))), (q_27, .inr (1, [.int 80, .ref q_30, .int 0])), (q_30, .inl (cA_31, 0, .inl (fun _ => 0))), (q_32, .inr (4, [.int (-1), .int 0, .int 0, .int 0, .int 0])), (q_35, .inr (1, [.int 80, .ref q_38, .int 0])), (q_38, .inl (cA_39, 0, .inl (fun _ => 0))), (q_40, .inr (2, [.ref q_43, .int 0, .int 0])), (q_44, .inr (2, [.ref q_47, .int 0, .int 0]))] H := hP
  have hD : va_D A [(x, .inr (5, [.ref q_1, .ref q_3, .int 0, .int 1, .int 1, .ref q_11, .ref q_16, .int 0, .ref q_21, .ref q_24, .int (-1), .ref q_27, .ref q_32, .ref q_35, .ref q_40, .ref q_44])), (q_1, .inl (cA_2, 80, .inr (.inr (.inr (.inr (fun _ => none)))))), (q_3, .inr (0, [.int 0, .int (-1), .ref q1_6, .ref q2_7, .ref q3_8, .ref q4_9, .ref q5_10, .int (-1), .int (-1), .int 0, .int 0, .int 0])), (q_11, .inr (1, [.int 80, .ref q_14, .int 0])), (q_14, .inl (cA_15, 0, .inl (fun _ => 0))), (q_16, .inr (1, [.int 80, .ref q_19, .int 0])), (q_19, .inl (cA_20, 0, .inl (fun _ => 0))), (q_27, .inr (1, [.int 80, .ref q_30, .int 0])), (q_30, .inl (cA_31, 0, .inl (fun _ => 0))), (q_32, .inr (4, [.int (-1), .int 0, .int 0, .int 0, .int 0])), (q_35, .inr (1, [.int 80, .ref q_38, .int 0])), (q_38, .inl (cA_39, 0, .inl (fun _ => 0))), (q_40, .inr (2, [.ref q_43, .int 0, .int 0])), (q_44, .inr (2, [.ref q_47, .int 0, .int 0]))] := hD
  have hP9 := hP.sub (ws' := [(x, .inr (5, [.ref q_1, .ref q_3, .int 0, .int 1, .int 1, .ref q_11, .ref q_16, .int 0, .ref q_21, .ref q_24, .int (-1), .ref q_27, .ref q_32, .ref q_35, .ref q_40, .ref q_44])), (q_1, .inl (cA_2, 80, .inr (.inr (.inr (.inr (fun _ => none)))))), (q_11, .inr (1, [.int 80, .ref q_14, .int 0])), (q_16, .inr (1, [.int 80, .ref q_19, .int 0])), (q_32, .inr (4, [.int (-1), .int 0, .int 0, .int 0, .int 0])), (q_35, .inr (1, [.int 80, .ref q_38, .int 0])), (q_38, .inl (cA_39, 0, .inl (fun _ => 0))), (q_40, .inr (2, [.ref q_43, .int 0, .int 0]))]) [0, 1, 3, 5, 9, 10, 11, 12] rfl
  have hD9 := hD.sub (ws' := [(x, .inr (5, [.ref q_1, .ref q_3, .int 0, .int 1, .int 1, .ref q_11, .ref q_16, .int 0, .ref q_21, .ref q_24, .int (-1), .ref q_27, .ref q_32, .ref q_35, .ref q_40, .ref q_44])), (q_1, .inl (cA_2, 80, .inr (.inr (.inr (.inr (fun _ => none)))))), (q_11, .inr (1, [.int 80, .ref q_14, .int 0])), (q_16, .inr (1, [.int 80, .ref q_19, .int 0])), (q_32, .inr (4, [.int (-1), .int 0, .int 0, .int 0, .int 0])), (q_35, .inr (1, [.int 80, .ref q_38, .int 0])), (q_38, .inl (cA_39, 0, .inl (fun _ => 0))), (q_40, .inr (2, [.ref q_43, .int 0, .int 0]))]) [0, 1, 3, 5, 9, 10, 11, 12] (by decide) rfl
  have hK9 := hK.sub (tys' := [(cA_2, .object RX0), (cA_39, .int)]) [0, 4] rfl
  exact W.vret hx hb hr (fun t ht hW => ⟨⟨(q_1, q_3, q_11, q_16, q_21, q_24, q_27, q_32, q_35, q_40, q_44, q_14, q_19, q_38, q_43, cA_2, cA_39), rfl, trivial, by rw [ht]; exact hP9, va_K.moved hW.alike hK9, hD9⟩, hS.F ht⟩) hS.2.2 dX5_init_164
