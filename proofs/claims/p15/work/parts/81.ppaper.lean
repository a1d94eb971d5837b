/-! the landed class: paper, exact -/

set_option maxHeartbeats 4000000 in
set_option maxRecDepth 100000 in
theorem x_put2 (l : Launch) (dC : Nat → ClassId) (dI : Nat → Nat → Nat) (cI cB cE : ClassId) (o : Nat) (r : Nat) (n : Nat) (z : Int) (tl : Int) (F : Int → Int) (p0 : Int) (sz : Nat) (hok : 0 ≤ z ∧ z ≤ (n : Int) ∧ (n = 0 ∨ n = 6000)) (ht : tl = 0 ∨ tl = 1) (hF : iB F) (hn6 : n = 6000) (hp01 : -2147483648 ≤ p0) (hp02 : p0 < 2147483648) : Met l yX2_put [.code yX2_put cX2_put 2 none] ({ frames := 0, cells := 0, slots := 0, locals := 0 }) (va_Pc [.ref o, .int (iz p0)] (kx_Pre dC dI (pU cB o r n z tl F) (xT cI cB cE) sz)) (xQ (fun _ : Int × Int × (Int → Int) => none) (fun (u : Int × Int × (Int → Int)) (dn dm : Nat) => match u with | (z', tl', F') => dn = 0 ∧ dm = 0 ∧ (0 ≤ z' ∧ z' ≤ (n : Int)) ∧ (tl' = 0 ∨ tl' = 1) ∧ iB F' ∧ pt_X F z tl ([pt_b p0]) F' z' tl') (fun u t => kx_At dC dI (va_A (pU cB o r n z tl F) sz) ((fun u : Int × Int × (Int → Int) => match u with | (z', tl', F') => (pU cB o r n z' tl' F')) u) (xT cI cB cE) t) (va_A (pU cB o r n z tl F) sz)) 0 0 (va_A (pU cB o r n z tl F) sz) := by
  refine Met.ofW (cc := cX2_put) (maxL := 2) (ret := none) (by decide) rfl ?_
  intro p e s m args below meth c s₁ B hml hv
  obtain ⟨rfl, hsz, hP, hK, hD0, hG, hZ⟩ := hv
  have hx := B.exec
  have hb := B.bytes
  have hr := B.returns
  have hts := kx_hts (a := ([.ref o, .int (iz p0)] : List Value).toArray) hG
  have hown : s.vm.findClass RX2 = some m.cls := findClass_of_methodNamed B.named
  have hlocks := B.notSynchronized
  subst hsz
  have hD := hD0.self (sz := s.heap.size)
  generalize hAe : va_A (pU cB o r n z tl F) s.heap.size = A at hD hZ ⊢
  have hA : ∀ q : Nat, s.heap.size ≤ q → A q := fun q h => by rw [← hAe]; exact Or.inr h
  have hS : va_S A s.heap s.heap [] := va_S.rf
  have hl := lv_entry ([.ref o, .int (iz p0)]) (n := 2) (Nat.le_of_ble_eq_true rfl)
  rw [lg_entry_eq]
  generalize (lg_sl ([.ref o, .int (iz p0)]) ++ List.replicate (2 - (lg_sl ([.ref o, .int (iz p0)])).length) Slot.unset).toArray = ls at hl ⊢
  have hl : lv_has ls 2 [(0, .ref o), (1, .int (iz p0))] := hl
  refine lv_aload_n hx hb dX2_put_0 rfl (lv_at hl 0 rfl) ?_
  refine va_get (D := (dC, dI)) (ci := 2) (v := .int (iz z)) (C := RX2) (T := TX2) (N := 3) hx hb hts kt_X2 hown hK hP 0 rfl rfl 1 (by decide) (kx_word hG kq_15_xspan_5 rfl) (fun _ h9 => h9) rfl dX2_put_1 ?_
  refine ki_if_lt (tgt := 19) hx hb dX2_put_4 (by decide) (by omega) (by omega) (fun c_1 => ?_) (fun c_1 => ?_)
  · skip
    refine lv_aload_n hx hb dX2_put_19 rfl (lv_at hl 0 rfl) ?_
    refine lv_iconst (v := iz 1) hx hb dX2_put_20 (by decide) ?_
    refine va_put (D := (dC, dI)) (ci := 2) (v := .int (iz 1)) (ty := .boolean) (C := RX2) (T := TX2) (N := 3) hx hb hts kt_X2 tyX2 tyX2_ok nmX2 hown hK hP hD hS 0 rfl rfl 2 (by decide) (kx_word hG kq_15_xspan_7 rfl) (fun _ h9 => h9) rfl (by decide +kernel) (mz_bool (Or.inr rfl)).1 (mz_bool (Or.inr rfl)).2 (Nat.le_of_ble_eq_true rfl) dX2_put_21 (fun H locs hP hD hS => ?_)
    have hP : va_P (dC, dI) kxCl (pU cB o r n z 1 F) H := hP
    have hD : va_D A (pU cB o r n z 1 F) := hD
    exact xk_vret (ov := (fun _ : Int × Int × (Int → Int) => none)) (post := (fun (u : Int × Int × (Int → Int)) (dn dm : Nat) => match u with | (z', tl', F') => dn = 0 ∧ dm = 0 ∧ (0 ≤ z' ∧ z' ≤ (n : Int)) ∧ (tl' = 0 ∨ tl' = 1) ∧ iB F' ∧ pt_X F z tl ([pt_b p0]) F' z' tl')) (ws := (fun u : Int × Int × (Int → Int) => match u with | (z', tl', F') => (pU cB o r n z' tl' F'))) (tys := xT cI cB cE) (z, 1, F) hx hb hr hlocks rfl hP hD hK hS dX2_put_24 (fun dn dm hdn hdm => ⟨by omega, by omega, by omega, by omega, hF, pt_X_over (by omega)⟩) (by omega) (by omega)
  · skip
    refine lv_aload_n hx hb dX2_put_7 rfl (lv_at hl 0 rfl) ?_
    refine va_get (D := (dC, dI)) (ci := 2) (v := .int (iz z)) (C := RX2) (T := TX2) (N := 3) hx hb hts kt_X2 hown hK hP 0 rfl rfl 1 (by decide) (kx_word hG kq_15_xspan_5 rfl) (fun _ h9 => h9) rfl dX2_put_8 ?_
    refine lv_aload_n hx hb dX2_put_11 rfl (lv_at hl 0 rfl) ?_
    refine va_get (D := (dC, dI)) (ci := 2) (v := .ref r) (C := RX2) (T := TX2) (N := 3) hx hb hts kt_X2 hown hK hP 0 rfl rfl 0 (by decide) (kx_word hG kq_15_xspan_6 rfl) (fun _ h9 => h9) rfl dX2_put_12 ?_
    refine xk_alen hx hb hK hP 1 1 rfl rfl dX2_put_15 ?_
    refine ki_icmp_lt (tgt := 25) hx hb dX2_put_16 (by decide) (by omega) (by omega) (by omega) (by omega) (fun c_2 => ?_) (fun c_2 => ?_)
    · skip
      refine lv_aload_n hx hb dX2_put_25 rfl (lv_at hl 0 rfl) ?_
      refine va_get (D := (dC, dI)) (ci := 2) (v := .ref r) (C := RX2) (T := TX2) (N := 3) hx hb hts kt_X2 hown hK hP 0 rfl rfl 0 (by decide) (kx_word hG kq_15_xspan_6 rfl) (fun _ h9 => h9) rfl dX2_put_26 ?_
      refine lv_aload_n hx hb dX2_put_29 rfl (lv_at hl 0 rfl) ?_
      refine va_get (D := (dC, dI)) (ci := 2) (v := .int (iz z)) (C := RX2) (T := TX2) (N := 3) hx hb hts kt_X2 hown hK hP 0 rfl rfl 1 (by decide) (kx_word hG kq_15_xspan_5 rfl) (fun _ h9 => h9) rfl dX2_put_30 ?_
      refine lv_iload_n hx hb dX2_put_33 rfl (lv_at hl 1 rfl) ?_
      refine lv_i2b hx hb dX2_put_34 rfl ?_
      refine ki_is (z := (iz p0).toInt8.toInt32.toInt) (iz_self _).symm ?_
      refine ki_bast (F := F) hx hb hK hP hD hS 1 1 rfl rfl (by omega) (by omega) (by omega) dX2_put_35 (fun H locs hP hD hS => ?_)
      have hP : va_P (dC, dI) kxCl (pU cB o r n z tl (upI F z (vp_nar .byte (iz ((iz p0).toInt8.toInt32.toInt))).toInt)) H := hP
      have hD : va_D A (pU cB o r n z tl (upI F z (vp_nar .byte (iz ((iz p0).toInt8.toInt32.toInt))).toInt)) := hD
      refine lv_aload_n hx hb dX2_put_36 rfl (lv_at hl 0 rfl) ?_
      refine lv_dup hx hb dX2_put_37 rfl ?_
      refine va_get (D := (dC, dI)) (ci := 2) (v := .int (iz z)) (C := RX2) (T := TX2) (N := 3) hx hb hts kt_X2 hown hK hP 0 rfl rfl 1 (by decide) (kx_word hG kq_15_xspan_5 rfl) (fun _ h9 => h9) rfl dX2_put_38 ?_
      refine lv_iconst (v := iz 1) hx hb dX2_put_41 (by decide) ?_
      refine ki_iadd hx hb dX2_put_42 ?_
      refine va_put (D := (dC, dI)) (ci := 2) (v := .int (iz (z + 1))) (ty := .int) (C := RX2) (T := TX2) (N := 3) hx hb hts kt_X2 tyX2 tyX2_ok nmX2 hown hK hP hD hS 0 rfl rfl 1 (by decide) (kx_word hG kq_15_xspan_5 rfl) (fun _ h9 => h9) rfl (by decide +kernel) rfl rfl (Nat.le_of_ble_eq_true rfl) dX2_put_43 (fun H locs hP hD hS => ?_)
      have hP : va_P (dC, dI) kxCl (pU cB o r n (z + 1) tl (upI F z (vp_nar .byte (iz ((iz p0).toInt8.toInt32.toInt))).toInt)) H := hP
      have hD : va_D A (pU cB o r n (z + 1) tl (upI F z (vp_nar .byte (iz ((iz p0).toInt8.toInt32.toInt))).toInt)) := hD
      exact xk_vret (ov := (fun _ : Int × Int × (Int → Int) => none)) (post := (fun (u : Int × Int × (Int → Int)) (dn dm : Nat) => match u with | (z', tl', F') => dn = 0 ∧ dm = 0 ∧ (0 ≤ z' ∧ z' ≤ (n : Int)) ∧ (tl' = 0 ∨ tl' = 1) ∧ iB F' ∧ pt_X F z tl ([pt_b p0]) F' z' tl')) (ws := (fun u : Int × Int × (Int → Int) => match u with | (z', tl', F') => (pU cB o r n z' tl' F'))) (tys := xT cI cB cE) (z + 1, tl, upI F z (vp_nar .byte (iz ((iz p0).toInt8.toInt32.toInt))).toInt) hx hb hr hlocks rfl hP hD hK hS dX2_put_46 (fun dn dm hdn hdm => ⟨by omega, by omega, by omega, by omega, iB_up hF _ (iz_lo _) (iz_hi _), pt_X_in (by omega)⟩) (by omega) (by omega)
    · skip
      refine lv_aload_n hx hb dX2_put_19 rfl (lv_at hl 0 rfl) ?_
      refine lv_iconst (v := iz 1) hx hb dX2_put_20 (by decide) ?_
      refine va_put (D := (dC, dI)) (ci := 2) (v := .int (iz 1)) (ty := .boolean) (C := RX2) (T := TX2) (N := 3) hx hb hts kt_X2 tyX2 tyX2_ok nmX2 hown hK hP hD hS 0 rfl rfl 2 (by decide) (kx_word hG kq_15_xspan_7 rfl) (fun _ h9 => h9) rfl (by decide +kernel) (mz_bool (Or.inr rfl)).1 (mz_bool (Or.inr rfl)).2 (Nat.le_of_ble_eq_true rfl) dX2_put_21 (fun H locs hP hD hS => ?_)
      have hP : va_P (dC, dI) kxCl (pU cB o r n z 1 F) H := hP
      have hD : va_D A (pU cB o r n z 1 F) := hD
      exact xk_vret (ov := (fun _ : Int × Int × (Int → Int) => none)) (post := (fun (u : Int × Int × (Int → Int)) (dn dm : Nat) => match u with | (z', tl', F') => dn = 0 ∧ dm = 0 ∧ (0 ≤ z' ∧ z' ≤ (n : Int)) ∧ (tl' = 0 ∨ tl' = 1) ∧ iB F' ∧ pt_X F z tl ([pt_b p0]) F' z' tl')) (ws := (fun u : Int × Int × (Int → Int) => match u with | (z', tl', F') => (pU cB o r n z' tl' F'))) (tys := xT cI cB cE) (z, 1, F) hx hb hr hlocks rfl hP hD hK hS dX2_put_24 (fun dn dm hdn hdm => ⟨by omega, by omega, by omega, by omega, hF, pt_X_over (by omega)⟩) (by omega) (by omega)
set_option maxHeartbeats 4000000 in
set_option maxRecDepth 100000 in
theorem x_putBetween2 (l : Launch) (dC : Nat → ClassId) (dI : Nat → Nat → Nat) (cI cB cE : ClassId) (o : Nat) (r : Nat) (n : Nat) (z : Int) (tl : Int) (F : Int → Int) (p0 : Int) (sz : Nat) (hok : 0 ≤ z ∧ z ≤ (n : Int) ∧ (n = 0 ∨ n = 6000)) (ht : tl = 0 ∨ tl = 1) (hF : iB F) (hn6 : n = 6000) (hp01 : -2147483648 ≤ p0) (hp02 : p0 < 2147483648) : Met l yX2_putBetween [.code yX2_putBetween cX2_putBetween 2 none] ({ frames := 1, cells := 0, slots := 0, locals := 21 }) (va_Pc [.ref o, .int (iz p0)] (kx_Pre dC dI (pU cB o r n z tl F) (xT cI cB cE) sz)) (xQ (fun _ : Int × Int × (Int → Int) => none) (fun (u : Int × Int × (Int → Int)) (dn dm : Nat) => match u with | (z', tl', F') => dn = 0 ∧ dm = 0 ∧ (0 ≤ z' ∧ z' ≤ (n : Int)) ∧ (tl' = 0 ∨ tl' = 1) ∧ iB F' ∧ pt_X F z tl ([pt_b p0, pt_b 32]) F' z' tl') (fun u t => kx_At dC dI (va_A (pU cB o r n z tl F) sz) ((fun u : Int × Int × (Int → Int) => match u with | (z', tl', F') => (pU cB o r n z' tl' F')) u) (xT cI cB cE) t) (va_A (pU cB o r n z tl F) sz)) 0 0 (va_A (pU cB o r n z tl F) sz) := by
  refine Met.ofW (cc := cX2_putBetween) (maxL := 2) (ret := none) (by decide) rfl ?_
  intro p e s m args below meth c s₁ B hml hv
  obtain ⟨rfl, hsz, hP, hK, hD0, hG, hZ⟩ := hv
  have hx := B.exec
  have hb := B.bytes
  have hr := B.returns
  have hts := kx_hts (a := ([.ref o, .int (iz p0)] : List Value).toArray) hG
  have hown : s.vm.findClass RX2 = some m.cls := findClass_of_methodNamed B.named
  have hlocks := B.notSynchronized
  subst hsz
  have hD := hD0.self (sz := s.heap.size)
  generalize hAe : va_A (pU cB o r n z tl F) s.heap.size = A at hD hZ ⊢
  have hA : ∀ q : Nat, s.heap.size ≤ q → A q := fun q h => by rw [← hAe]; exact Or.inr h
  have hS : va_S A s.heap s.heap [] := va_S.rf
  have hl := lv_entry ([.ref o, .int (iz p0)]) (n := 2) (Nat.le_of_ble_eq_true rfl)
  rw [lg_entry_eq]
  generalize (lg_sl ([.ref o, .int (iz p0)]) ++ List.replicate (2 - (lg_sl ([.ref o, .int (iz p0)])).length) Slot.unset).toArray = ls at hl ⊢
  have hl : lv_has ls 2 [(0, .ref o), (1, .int (iz p0))] := hl
  have hX0 := pt_X_nil F z tl
  refine lv_aload_n hx hb dX2_putBetween_0 rfl (lv_at hl 0 rfl) ?_
  refine lv_iload_n hx hb dX2_putBetween_1 rfl (lv_at hl 1 rfl) ?_
  have hPc := hP.sub (ws' := (pU cB o r n z tl F)) [0, 1] rfl
  have hDc := hD.sub (ws' := (pU cB o r n z tl F)) [0, 1] (by decide) rfl
  have hFc := va_free (wc := (pU cB o r n z tl F)) hD hS hA [0, 1] rfl
  refine xk_call (va_runV (As := [.int (iz p0)]) (rest := []) ⟨hx, hb, hml, hown, hts⟩ (x_put2 l dC dI cI cB cE o r n z tl F p0 s.heap.size (by omega) (by omega) hF hn6 (by omega) (by omega)) (cwV 1 hts (kx_gV kq_15_xspan_14 kq_15_xspan_15 kq_15_xspan_16 kq_15_xspan_17 kq_15_xspan_18 rfl) rfl rfl rfl (by decide +kernel) ⟨Nat.le_of_ble_eq_true rfl, Nat.le_of_ble_eq_true rfl⟩) ⟨kx_blind, va_recv hK hPc (ci := 2) (q0 := 0) rfl rfl, kx_give (ws := []) (tys := []) hPc hDc hK hG hZ hS hFc⟩ rfl rfl hl.1 rfl (lv_room (Nat.le_of_ble_eq_true rfl)) dX2_putBetween_2 ⟨show 0 + 0 ≤ 0 from (by omega), show 0 + 0 ≤ 0 from (by omega)⟩) hS (fun q _ h => hFc q h) hFc (fun u dn_2 dm_3 t H locs ht hvm hq_1 hB hk1 hS => ?_)
  obtain ⟨z_4, tl_5, F_6⟩ := u
  obtain ⟨hP1, hK1, hD1⟩ := hB
  rw [ht] at hP1
  obtain ⟨hP, hD⟩ := xj (wr := []) (w1 := (pU cB o r n z_4 tl_5 F_6)) (ws' := (pU cB o r n z_4 tl_5 F_6)) hP hD [0, 1] [] [0, 1] rfl rfl (by decide) (by decide) hk1 hFc hP1 hD1 rfl (by decide)
  refine W.eq (g2 := F0 m 5 ls []) rfl ?_
  try dsimp only at hq_1
  obtain ⟨hd7, hm7, hz7, ht7, hF7, hX7⟩ := hq_1
  subst hd7
  subst hm7
  have hY7 := pt_X_app hX0 hX7
  refine lv_aload_n hx hb dX2_putBetween_5 rfl (lv_at hl 0 rfl) ?_
  refine lv_bipush (v := iz 32) hx hb dX2_putBetween_6 (by decide) ?_
  have hPc := hP.sub (ws' := (pU cB o r n z_4 tl_5 F_6)) [0, 1] rfl
  have hDc := hD.sub (ws' := (pU cB o r n z_4 tl_5 F_6)) [0, 1] (by decide) rfl
  have hFc := va_free (wc := (pU cB o r n z_4 tl_5 F_6)) hD hS hA [0, 1] rfl
  refine xk_call (va_runV (As := [.int (iz 32)]) (rest := []) ⟨hx, hb, hml, hown, hts⟩ (x_put2 l dC dI cI cB cE o r n z_4 tl_5 F_6 32 H.size (by omega) (by omega) hF7 hn6 (by omega) (by omega)) (cwV 1 hts (kx_gV kq_15_xspan_14 kq_15_xspan_15 kq_15_xspan_16 kq_15_xspan_17 kq_15_xspan_18 rfl) rfl rfl rfl (by decide +kernel) ⟨Nat.le_of_ble_eq_true rfl, Nat.le_of_ble_eq_true rfl⟩) ⟨kx_blind, va_recv hK hPc (ci := 2) (q0 := 0) rfl rfl, kx_give (ws := []) (tys := []) hPc hDc hK hG hZ hS hFc⟩ rfl rfl hl.1 rfl (lv_room (Nat.le_of_ble_eq_true rfl)) dX2_putBetween_8 ⟨show (0 + 0) + 0 ≤ 0 from (by omega), show (0 + 0) + 0 ≤ 0 from (by omega)⟩) hS (fun q _ h => hFc q h) hFc (fun u dn_9 dm_10 t H locs ht hvm hq_8 hB hk1 hS => ?_)
  obtain ⟨z_11, tl_12, F_13⟩ := u
  obtain ⟨hP1, hK1, hD1⟩ := hB
  rw [ht] at hP1
  obtain ⟨hP, hD⟩ := xj (wr := []) (w1 := (pU cB o r n z_11 tl_12 F_13)) (ws' := (pU cB o r n z_11 tl_12 F_13)) hP hD [0, 1] [] [0, 1] rfl rfl (by decide) (by decide) hk1 hFc hP1 hD1 rfl (by decide)
  refine W.eq (g2 := F0 m 11 ls []) rfl ?_
  try dsimp only at hq_8
  obtain ⟨hd14, hm14, hz14, ht14, hF14, hX14⟩ := hq_8
  subst hd14
  subst hm14
  have hY14 := pt_X_app hY7 hX14
  exact xk_vret (ov := (fun _ : Int × Int × (Int → Int) => none)) (post := (fun (u : Int × Int × (Int → Int)) (dn dm : Nat) => match u with | (z', tl', F') => dn = 0 ∧ dm = 0 ∧ (0 ≤ z' ∧ z' ≤ (n : Int)) ∧ (tl' = 0 ∨ tl' = 1) ∧ iB F' ∧ pt_X F z tl ([pt_b p0, pt_b 32]) F' z' tl')) (ws := (fun u : Int × Int × (Int → Int) => match u with | (z', tl', F') => (pU cB o r n z' tl' F'))) (tys := xT cI cB cE) (z_11, tl_12, F_13) hx hb hr hlocks rfl hP hD hK hS dX2_putBetween_11 (fun dn dm hdn hdm => ⟨by omega, by omega, by omega, by omega, hF14, pt_X_eq hY14 (by rfl)⟩) (by omega) (by omega)
set_option maxHeartbeats 4000000 in
set_option maxRecDepth 100000 in
theorem x_putAll2 (l : Launch) (dC : Nat → ClassId) (dI : Nat → Nat → Nat) (cI cB cE : ClassId) (o : Nat) (r : Nat) (n : Nat) (z : Int) (tl : Int) (F : Int → Int) (Lb : Int) (ob : Nat) (rb : Nat) (nb : Nat) (zb : Int) (Fb : Int → Int) (sz : Nat) (hok : 0 ≤ z ∧ z ≤ (n : Int) ∧ (n = 0 ∨ n = 6000)) (ht : tl = 0 ∨ tl = 1) (hF : iB F) (hn6 : n = 6000) (hokb : 0 ≤ zb ∧ zb ≤ (nb : Int) ∧ (nb : Int) ≤ Lb ∧ Lb ≤ 1600) (hFb : iB Fb) : Met l yX2_putAll [.code yX2_putAll cX2_putAll 3 none] ({ frames := 1, cells := 0, slots := 0, locals := 21 }) (va_Pc [.ref o, .ref ob] (kx_Pre dC dI ((pU cB o r n z tl F) ++ (iU cI Lb ob rb nb zb Fb)) (xT cI cB cE) sz)) (xQ (fun _ : Int × Int × (Int → Int) => none) (fun (u : Int × Int × (Int → Int)) (dn dm : Nat) => match u with | (z', tl', F') => dn = 0 ∧ dm = 0 ∧ (0 ≤ z' ∧ z' ≤ (n : Int)) ∧ (tl' = 0 ∨ tl' = 1) ∧ iB F' ∧ pt_X F z tl (pt_sg Fb zb) F' z' tl') (fun u t => kx_At dC dI (va_A ((pU cB o r n z tl F) ++ (iU cI Lb ob rb nb zb Fb)) sz) ((fun u : Int × Int × (Int → Int) => match u with | (z', tl', F') => ((pU cB o r n z' tl' F') ++ (iU cI Lb ob rb nb zb Fb))) u) (xT cI cB cE) t) (va_A ((pU cB o r n z tl F) ++ (iU cI Lb ob rb nb zb Fb)) sz)) 0 0 (va_A ((pU cB o r n z tl F) ++ (iU cI Lb ob rb nb zb Fb)) sz) := by
  refine Met.ofW (cc := cX2_putAll) (maxL := 3) (ret := none) (by decide) rfl ?_
  intro p e s m args below meth c s₁ B hml hv
  obtain ⟨rfl, hsz, hP, hK, hD0, hG, hZ⟩ := hv
  have hx := B.exec
  have hb := B.bytes
  have hr := B.returns
  have hts := kx_hts (a := ([.ref o, .ref ob] : List Value).toArray) hG
  have hown : s.vm.findClass RX2 = some m.cls := findClass_of_methodNamed B.named
  have hlocks := B.notSynchronized
  subst hsz
  have hD := hD0.self (sz := s.heap.size)
  generalize hAe : va_A ((pU cB o r n z tl F) ++ (iU cI Lb ob rb nb zb Fb)) s.heap.size = A at hD hZ ⊢
  have hA : ∀ q : Nat, s.heap.size ≤ q → A q := fun q h => by rw [← hAe]; exact Or.inr h
  have hS : va_S A s.heap s.heap [] := va_S.rf
  have hl := lv_entry ([.ref o, .ref ob]) (n := 3) (Nat.le_of_ble_eq_true rfl)
  rw [lg_entry_eq]
  generalize (lg_sl ([.ref o, .ref ob]) ++ List.replicate (3 - (lg_sl ([.ref o, .ref ob])).length) Slot.unset).toArray = ls at hl ⊢
  have hl : lv_has ls 3 [(0, .ref o), (1, .ref ob)] := hl
  generalize hQe : MQ below (xQ (fun _ : Int × Int × (Int → Int) => none) (fun (u : Int × Int × (Int → Int)) (dn dm : Nat) => match u with | (z', tl', F') => dn = 0 ∧ dm = 0 ∧ (0 ≤ z' ∧ z' ≤ (n : Int)) ∧ (tl' = 0 ∨ tl' = 1) ∧ iB F' ∧ pt_X F z tl (pt_sg Fb zb) F' z' tl') (fun u t => kx_At dC dI A ((fun u : Int × Int × (Int → Int) => match u with | (z', tl', F') => ((pU cB o r n z' tl' F') ++ (iU cI Lb ob rb nb zb Fb))) u) (xT cI cB cE) t) A) ([.ref o, .ref ob] : List Value).toArray s 0 0 A = QQ
  have hX0 := pt_X_nil F z tl
  refine lv_iconst (v := iz 0) hx hb dX2_putAll_0 (by decide) ?_
  refine lv_istore_n (lv' := [(2, .int (iz 0)), (0, .ref o), (1, .ref ob)]) hx hb dX2_putAll_1 rfl hl (by decide) rfl (fun ls hl => ?_)
  have lp2 : ∀ (n0 : Nat) (k : Int) (zv : Int) (tv : Int) (Fv : Int → Int), ((0 ≤ k ∧ k ≤ zb) ∧ (0 ≤ zv ∧ zv ≤ (n : Int)) ∧ (tv = 0 ∨ tv = 1) ∧ (iB Fv) ∧ (pt_X F z tl (pt_sg Fb k) Fv zv tv)) → (zb - k).toNat < n0 → ∀ (H : Heap) (locs : List Loc), va_P (dC, dI) kxCl ((pU cB o r n zv tv Fv) ++ (iU cI Lb ob rb nb zb Fb)) H → va_D A ((pU cB o r n zv tv Fv) ++ (iU cI Lb ob rb nb zb Fb)) → va_S A s.heap H locs → ∀ ls : Array Slot, lv_has ls 3 [(2, .int (iz k)), (0, .ref o), (1, .ref ob)] → W p l e (headSpec [.code yX2_putAll cX2_putAll 3 none] ({ frames := 1, cells := 0, slots := 0, locals := 21 })).room s m ([.ref o, .ref ob] : List Value).toArray below meth c H locs 0 0 QQ (F0 m 2 ls []) := by
    intro n0
    induction n0 with
    | zero => intro k zv tv Fv hinv hm0; exact absurd hm0 (Nat.not_lt_zero _)
    | succ n0 ih2 =>
      intro k zv tv Fv hinv hm0 H locs hP hD hS ls hl
      obtain ⟨hk, hzv, htv, hFv, hXv⟩ := hinv
      refine lv_iload_n hx hb dX2_putAll_2 rfl (lv_at hl 0 rfl) ?_
      refine lv_aload_n hx hb dX2_putAll_3 rfl (lv_at hl 2 rfl) ?_
      have hPc := hP.sub (ws' := (iU cI Lb ob rb nb zb Fb)) [2, 3] rfl
      refine xk_pure (va_runV (As := []) (rest := [.int (iz k)]) ⟨hx, hb, hml, hown, hts⟩ (x_size l dC dI cI cB cE Lb ob rb nb zb Fb  H.size ) (cwV 0 hts (kx_gV kq_15_xspan_9 kq_15_xspan_10 kq_15_xspan_11 kq_13_xints_6 kq_15_xspan_12 rfl) rfl rfl rfl (by decide +kernel) ⟨Nat.le_of_ble_eq_true rfl, Nat.le_of_ble_eq_true rfl⟩) ⟨pPre_blind, va_recv hK hPc (ci := 1) (q0 := 0) rfl rfl, pPre_give hPc hK hG⟩ rfl rfl hl.1 rfl (lv_room (Nat.le_of_ble_eq_true rfl)) dX2_putAll_4 ⟨show 0 + 0 ≤ 0 from (by omega), show 0 + 0 ≤ 0 from (by omega)⟩) hS (fun z_2 locs hq_1 hS => ?_)
      refine W.eq (g2 := F0 m 7 ls [.int (iz z_2), .int (iz k)]) rfl ?_
      try dsimp only at hq_1
      have hq_1 := hq_1.symm
      subst hq_1
      refine ki_icmp_ge (tgt := 25) hx hb dX2_putAll_7 (by decide) (by omega) (by omega) (by omega) (by omega) (fun c_3 => ?_) (fun c_3 => ?_)
      · skip
        rw [← hQe]
        exact xk_vret (ov := (fun _ : Int × Int × (Int → Int) => none)) (post := (fun (u : Int × Int × (Int → Int)) (dn dm : Nat) => match u with | (z', tl', F') => dn = 0 ∧ dm = 0 ∧ (0 ≤ z' ∧ z' ≤ (n : Int)) ∧ (tl' = 0 ∨ tl' = 1) ∧ iB F' ∧ pt_X F z tl (pt_sg Fb zb) F' z' tl')) (ws := (fun u : Int × Int × (Int → Int) => match u with | (z', tl', F') => ((pU cB o r n z' tl' F') ++ (iU cI Lb ob rb nb zb Fb)))) (tys := xT cI cB cE) (zv, tv, Fv) hx hb hr hlocks rfl hP hD hK hS dX2_putAll_25 (fun dn dm hdn hdm => ⟨by omega, by omega, by omega, by omega, hFv, pt_X_eq hXv (by rw [show zb = k by omega])⟩) (by omega) (by omega)
      · skip
        refine lv_aload_n hx hb dX2_putAll_10 rfl (lv_at hl 1 rfl) ?_
        refine lv_aload_n hx hb dX2_putAll_11 rfl (lv_at hl 2 rfl) ?_
        refine lv_iload_n hx hb dX2_putAll_12 rfl (lv_at hl 0 rfl) ?_
        have hPc := hP.sub (ws' := (iU cI Lb ob rb nb zb Fb)) [2, 3] rfl
        refine xk_pure (va_runV (As := [.int (iz k)]) (rest := [.ref o]) ⟨hx, hb, hml, hown, hts⟩ (x_get l dC dI cI cB cE Lb ob rb nb zb Fb k H.size hokb hFb (by omega) (by omega)) (cwV 1 hts (kx_gV kq_15_xspan_13 kq_13_xints_4 kq_13_xints_5 kq_13_xints_6 kq_13_xints_7 rfl) rfl rfl rfl (by decide +kernel) ⟨Nat.le_of_ble_eq_true rfl, Nat.le_of_ble_eq_true rfl⟩) ⟨pPre_blind, va_recv hK hPc (ci := 1) (q0 := 0) rfl rfl, pPre_give hPc hK hG⟩ rfl rfl hl.1 rfl (lv_room (Nat.le_of_ble_eq_true rfl)) dX2_putAll_13 ⟨show 0 + 0 ≤ 0 from (by omega), show 0 + 0 ≤ 0 from (by omega)⟩) hS (fun z_5 locs hq_4 hS => ?_)
        refine W.eq (g2 := F0 m 16 ls [.int (iz z_5), .ref o]) rfl ?_
        try dsimp only at hq_4
        have eg_6 : z_5 = Fb k := by omega
        have hbk := hFb k
        subst eg_6
        refine W.eq (g2 := F0 m 16 ls [.int (iz (Fb k)), .ref o]) rfl ?_
        replace hq_4 := fun (_ : Unit) => hq_4
        have hPc := hP.sub (ws' := (pU cB o r n zv tv Fv)) [0, 1] rfl
        have hDc := hD.sub (ws' := (pU cB o r n zv tv Fv)) [0, 1] (by decide) rfl
        have hFc := va_free (wc := (pU cB o r n zv tv Fv)) hD hS hA [0, 1] rfl
        refine xk_call (va_runV (As := [.int (iz (Fb k))]) (rest := []) ⟨hx, hb, hml, hown, hts⟩ (x_put2 l dC dI cI cB cE o r n zv tv Fv (Fb k) H.size (by omega) (by omega) hFv hn6 (by omega) (by omega)) (cwV 1 hts (kx_gV kq_15_xspan_14 kq_15_xspan_15 kq_15_xspan_16 kq_15_xspan_17 kq_15_xspan_18 rfl) rfl rfl rfl (by decide +kernel) ⟨Nat.le_of_ble_eq_true rfl, Nat.le_of_ble_eq_true rfl⟩) ⟨kx_blind, va_recv hK hPc (ci := 2) (q0 := 0) rfl rfl, kx_give (ws := []) (tys := []) hPc hDc hK hG hZ hS hFc⟩ rfl rfl hl.1 rfl (lv_room (Nat.le_of_ble_eq_true rfl)) dX2_putAll_16 ⟨show 0 + 0 ≤ 0 from (by omega), show 0 + 0 ≤ 0 from (by omega)⟩) hS (fun q _ h => hFc q h) hFc (fun u dn_8 dm_9 t H locs ht hvm hq_7 hB hk1 hS => ?_)
        obtain ⟨z_10, tl_11, F_12⟩ := u
        obtain ⟨hP1, hK1, hD1⟩ := hB
        rw [ht] at hP1
        obtain ⟨hP, hD⟩ := xj (wr := [(ob, .inr (1, [.int (iz Lb), .ref rb, .int (iz zb)])), (rb, .inl (cI, nb, .inl (iA Fb)))]) (w1 := (pU cB o r n z_10 tl_11 F_12)) (ws' := ((pU cB o r n z_10 tl_11 F_12) ++ (iU cI Lb ob rb nb zb Fb))) hP hD [0, 1] [2, 3] [2, 3, 0, 1] rfl rfl (by decide) (by decide) hk1 hFc hP1 hD1 rfl (by decide)
        refine W.eq (g2 := F0 m 19 ls []) rfl ?_
        try dsimp only at hq_7
        obtain ⟨hd13, hm13, hz13, ht13, hF13, hX13⟩ := hq_7
        subst hd13
        subst hm13
        have hY13 := pt_X_app hXv hX13
        refine lv_iinc (v := iz (k + 1)) (lv' := [(2, .int (iz (k + 1))), (0, .ref o), (1, .ref ob)]) hx hb dX2_putAll_19 hl (k := 0) rfl (iz_add k 1) (by decide) rfl (fun ls hl => ?_)
        refine lv_goto (tgt := 2) hx hb dX2_putAll_22 (by decide) ?_
        exact ih2 (k + 1) z_10 tl_11 F_12 ⟨by omega, by omega, by omega, hF13, (pt_X_eq hY13 (by unfold pt_sg pt_l; rw [kf_ls_sn (F := Fb) (show 0 ≤ k by omega) (fun _ _ _ => rfl) rfl, List.map_append]; rfl))⟩ (by omega) _ _ hP hD hS ls (lv_sub hl [0, 1, 2] rfl)
  exact lp2 _ 0 z tl F ⟨by omega, by omega, by omega, hF, (pt_X_eq hX0 (by rfl))⟩ (Nat.lt_succ_self _) _ _ hP hD hS ls (lv_sub hl [0, 1, 2] rfl)
set_option maxHeartbeats 4000000 in
set_option maxRecDepth 100000 in
theorem x_putRomanDigit2 (l : Launch) (dC : Nat → ClassId) (dI : Nat → Nat → Nat) (cI cB cE : ClassId) (o : Nat) (r : Nat) (n : Nat) (z : Int) (tl : Int) (F : Int → Int) (p0 : Int) (p1 : Int) (p2 : Int) (p3 : Int) (sz : Nat) (hok : 0 ≤ z ∧ z ≤ (n : Int) ∧ (n = 0 ∨ n = 6000)) (ht : tl = 0 ∨ tl = 1) (hF : iB F) (hn6 : n = 6000) (hd9 : 0 ≤ p0 ∧ p0 ≤ 9) (hp01 : -2147483648 ≤ p0) (hp02 : p0 < 2147483648) (hp11 : -2147483648 ≤ p1) (hp12 : p1 < 2147483648) (hp21 : -2147483648 ≤ p2) (hp22 : p2 < 2147483648) (hp31 : -2147483648 ≤ p3) (hp32 : p3 < 2147483648) : Met l yX2_putRomanDigit [.code yX2_putRomanDigit cX2_putRomanDigit 6 none] ({ frames := 1, cells := 0, slots := 0, locals := 21 }) (va_Pc [.ref o, .int (iz p0), .int (iz p1), .int (iz p2), .int (iz p3)] (kx_Pre dC dI (pU cB o r n z tl F) (xT cI cB cE) sz)) (xQ (fun _ : Int × Int × (Int → Int) => none) (fun (u : Int × Int × (Int → Int)) (dn dm : Nat) => match u with | (z', tl', F') => dn = 0 ∧ dm = 0 ∧ (0 ≤ z' ∧ z' ≤ (n : Int)) ∧ (tl' = 0 ∨ tl' = 1) ∧ iB F' ∧ pt_X F z tl (pt_l (pt_rd p0 p1 p2 p3)) F' z' tl') (fun u t => kx_At dC dI (va_A (pU cB o r n z tl F) sz) ((fun u : Int × Int × (Int → Int) => match u with | (z', tl', F') => (pU cB o r n z' tl' F')) u) (xT cI cB cE) t) (va_A (pU cB o r n z tl F) sz)) 0 0 (va_A (pU cB o r n z tl F) sz) := by
  refine Met.ofW (cc := cX2_putRomanDigit) (maxL := 6) (ret := none) (by decide) rfl ?_
  intro p e s m args below meth c s₁ B hml hv
  obtain ⟨rfl, hsz, hP, hK, hD0, hG, hZ⟩ := hv
  have hx := B.exec
  have hb := B.bytes
  have hr := B.returns
  have hts := kx_hts (a := ([.ref o, .int (iz p0), .int (iz p1), .int (iz p2), .int (iz p3)] : List Value).toArray) hG
  have hown : s.vm.findClass RX2 = some m.cls := findClass_of_methodNamed B.named
  have hlocks := B.notSynchronized
  subst hsz
  have hD := hD0.self (sz := s.heap.size)
  generalize hAe : va_A (pU cB o r n z tl F) s.heap.size = A at hD hZ ⊢
  have hA : ∀ q : Nat, s.heap.size ≤ q → A q := fun q h => by rw [← hAe]; exact Or.inr h
  have hS : va_S A s.heap s.heap [] := va_S.rf
  have hl := lv_entry ([.ref o, .int (iz p0), .int (iz p1), .int (iz p2), .int (iz p3)]) (n := 6) (Nat.le_of_ble_eq_true rfl)
  rw [lg_entry_eq]
  generalize (lg_sl ([.ref o, .int (iz p0), .int (iz p1), .int (iz p2), .int (iz p3)]) ++ List.replicate (6 - (lg_sl ([.ref o, .int (iz p0), .int (iz p1), .int (iz p2), .int (iz p3)])).length) Slot.unset).toArray = ls at hl ⊢
  have hl : lv_has ls 6 [(0, .ref o), (1, .int (iz p0)), (2, .int (iz p1)), (3, .int (iz p2)), (4, .int (iz p3))] := hl
  generalize hQe : MQ below (xQ (fun _ : Int × Int × (Int → Int) => none) (fun (u : Int × Int × (Int → Int)) (dn dm : Nat) => match u with | (z', tl', F') => dn = 0 ∧ dm = 0 ∧ (0 ≤ z' ∧ z' ≤ (n : Int)) ∧ (tl' = 0 ∨ tl' = 1) ∧ iB F' ∧ pt_X F z tl (pt_l (pt_rd p0 p1 p2 p3)) F' z' tl') (fun u t => kx_At dC dI A ((fun u : Int × Int × (Int → Int) => match u with | (z', tl', F') => (pU cB o r n z' tl' F')) u) (xT cI cB cE) t) A) ([.ref o, .int (iz p0), .int (iz p1), .int (iz p2), .int (iz p3)] : List Value).toArray s 0 0 A = QQ
  have hX0 := pt_X_nil F z tl
  refine lv_iload_n hx hb dX2_putRomanDigit_0 rfl (lv_at hl 1 rfl) ?_
  refine lv_iconst (v := iz 5) hx hb dX2_putRomanDigit_1 (by decide) ?_
  refine ki_irem hx hb dX2_putRomanDigit_2 (by omega) (by omega) (by omega) (by omega) ?_
  refine lv_iconst (v := iz 4) hx hb dX2_putRomanDigit_3 (by decide) ?_
  refine ki_icmp_ne (tgt := 28) hx hb dX2_putRomanDigit_4 (by decide) (by omega) (by omega) (by omega) (by omega) (fun c_1 => ?_) (fun c_1 => ?_)
  · skip
    refine lv_iload_n hx hb dX2_putRomanDigit_28 rfl (lv_at hl 1 rfl) ?_
    refine lv_iconst (v := iz 5) hx hb dX2_putRomanDigit_29 (by decide) ?_
    refine ki_icmp_lt (tgt := 38) hx hb dX2_putRomanDigit_30 (by decide) (by omega) (by omega) (by omega) (by omega) (fun c_2 => ?_) (fun c_2 => ?_)
    · skip
      refine lv_iconst (v := iz 0) hx hb dX2_putRomanDigit_38 (by decide) ?_
      refine lv_istore (lv' := [(5, .int (iz 0)), (0, .ref o), (1, .int (iz p0)), (2, .int (iz p1)), (3, .int (iz p2)), (4, .int (iz p3))]) hx hb dX2_putRomanDigit_39 hl (by decide) rfl (fun ls hl => ?_)
      have lp41 : ∀ (n0 : Nat) (k : Int) (zv : Int) (tv : Int) (Fv : Int → Int), ((0 ≤ k ∧ k ≤ p0 % 5) ∧ (0 ≤ zv ∧ zv ≤ (n : Int)) ∧ (tv = 0 ∨ tv = 1) ∧ (iB Fv) ∧ (pt_X F z tl (pt_l ((if 5 ≤ p0 then [p2] else []) ++ List.replicate (k).toNat p1)) Fv zv tv)) → (p0 % 5 - k).toNat < n0 → ∀ (H : Heap) (locs : List Loc), va_P (dC, dI) kxCl (pU cB o r n zv tv Fv) H → va_D A (pU cB o r n zv tv Fv) → va_S A s.heap H locs → ∀ ls : Array Slot, lv_has ls 6 [(5, .int (iz k)), (0, .ref o), (1, .int (iz p0)), (2, .int (iz p1)), (3, .int (iz p2)), (4, .int (iz p3))] → W p l e (headSpec [.code yX2_putRomanDigit cX2_putRomanDigit 6 none] ({ frames := 1, cells := 0, slots := 0, locals := 21 })).room s m ([.ref o, .int (iz p0), .int (iz p1), .int (iz p2), .int (iz p3)] : List Value).toArray below meth c H locs 0 0 QQ (F0 m 41 ls []) := by
        intro n0
        induction n0 with
        | zero => intro k zv tv Fv hinv hm0; exact absurd hm0 (Nat.not_lt_zero _)
        | succ n0 ih41 =>
          intro k zv tv Fv hinv hm0 H locs hP hD hS ls hl
          obtain ⟨hk, hzv, htv, hFv, hXv⟩ := hinv
          refine lv_iload hx hb dX2_putRomanDigit_41 (lv_at hl 0 rfl) ?_
          refine lv_iload_n hx hb dX2_putRomanDigit_43 rfl (lv_at hl 2 rfl) ?_
          refine lv_iconst (v := iz 5) hx hb dX2_putRomanDigit_44 (by decide) ?_
          refine ki_irem hx hb dX2_putRomanDigit_45 (by omega) (by omega) (by omega) (by omega) ?_
          refine ki_icmp_ge (tgt := 60) hx hb dX2_putRomanDigit_46 (by decide) (by omega) (by omega) (by omega) (by omega) (fun c_3 => ?_) (fun c_3 => ?_)
          · skip
            rw [← hQe]
            exact xk_vret (ov := (fun _ : Int × Int × (Int → Int) => none)) (post := (fun (u : Int × Int × (Int → Int)) (dn dm : Nat) => match u with | (z', tl', F') => dn = 0 ∧ dm = 0 ∧ (0 ≤ z' ∧ z' ≤ (n : Int)) ∧ (tl' = 0 ∨ tl' = 1) ∧ iB F' ∧ pt_X F z tl (pt_l (pt_rd p0 p1 p2 p3)) F' z' tl')) (ws := (fun u : Int × Int × (Int → Int) => match u with | (z', tl', F') => (pU cB o r n z' tl' F'))) (tys := xT cI cB cE) (zv, tv, Fv) hx hb hr hlocks rfl hP hD hK hS dX2_putRomanDigit_60 (fun dn dm hdn hdm => ⟨by omega, by omega, by omega, by omega, hFv, pt_X_eq hXv (by unfold pt_rd; rw [if_neg (by omega), show p0 % 5 = k by omega])⟩) (by omega) (by omega)
          · skip
            refine lv_aload_n hx hb dX2_putRomanDigit_49 rfl (lv_at hl 1 rfl) ?_
            refine lv_iload_n hx hb dX2_putRomanDigit_50 rfl (lv_at hl 3 rfl) ?_
            have hPc := hP.sub (ws' := (pU cB o r n zv tv Fv)) [0, 1] rfl
            have hDc := hD.sub (ws' := (pU cB o r n zv tv Fv)) [0, 1] (by decide) rfl
            have hFc := va_free (wc := (pU cB o r n zv tv Fv)) hD hS hA [0, 1] rfl
            refine xk_call (va_runV (As := [.int (iz p1)]) (rest := []) ⟨hx, hb, hml, hown, hts⟩ (x_put2 l dC dI cI cB cE o r n zv tv Fv p1 H.size (by omega) (by omega) hFv hn6 (by omega) (by omega)) (cwV 1 hts (kx_gV kq_15_xspan_14 kq_15_xspan_15 kq_15_xspan_16 kq_15_xspan_17 kq_15_xspan_18 rfl) rfl rfl rfl (by decide +kernel) ⟨Nat.le_of_ble_eq_true rfl, Nat.le_of_ble_eq_true rfl⟩) ⟨kx_blind, va_recv hK hPc (ci := 2) (q0 := 0) rfl rfl, kx_give (ws := []) (tys := []) hPc hDc hK hG hZ hS hFc⟩ rfl rfl hl.1 rfl (lv_room (Nat.le_of_ble_eq_true rfl)) dX2_putRomanDigit_51 ⟨show 0 + 0 ≤ 0 from (by omega), show 0 + 0 ≤ 0 from (by omega)⟩) hS (fun q _ h => hFc q h) hFc (fun u dn_5 dm_6 t H locs ht hvm hq_4 hB hk1 hS => ?_)
            obtain ⟨z_7, tl_8, F_9⟩ := u
            obtain ⟨hP1, hK1, hD1⟩ := hB
            rw [ht] at hP1
            obtain ⟨hP, hD⟩ := xj (wr := []) (w1 := (pU cB o r n z_7 tl_8 F_9)) (ws' := (pU cB o r n z_7 tl_8 F_9)) hP hD [0, 1] [] [0, 1] rfl rfl (by decide) (by decide) hk1 hFc hP1 hD1 rfl (by decide)
            refine W.eq (g2 := F0 m 54 ls []) rfl ?_
            try dsimp only at hq_4
            obtain ⟨hd10, hm10, hz10, ht10, hF10, hX10⟩ := hq_4
            subst hd10
            subst hm10
            have hY10 := pt_X_app hXv hX10
            refine lv_iinc (v := iz (k + 1)) (lv' := [(5, .int (iz (k + 1))), (0, .ref o), (1, .int (iz p0)), (2, .int (iz p1)), (3, .int (iz p2)), (4, .int (iz p3))]) hx hb dX2_putRomanDigit_54 hl (k := 0) rfl (iz_add k 1) (by decide) rfl (fun ls hl => ?_)
            refine lv_goto (tgt := 41) hx hb dX2_putRomanDigit_57 (by decide) ?_
            exact ih41 (k + 1) z_7 tl_8 F_9 ⟨by omega, by omega, by omega, hF10, (pt_X_eq hY10 (by unfold pt_l; rw [show (k + 1).toNat = k.toNat + 1 by omega, List.replicate_succ', ← List.append_assoc, List.map_append]; rfl))⟩ (by omega) _ _ hP hD hS ls (lv_sub hl [0, 1, 2, 3, 4, 5] rfl)
      exact lp41 _ 0 z tl F ⟨by omega, by omega, by omega, hF, (pt_X_eq hX0 (by first | (rw [if_pos (by omega)]; rfl) | (rw [if_neg (by omega)]; rfl)))⟩ (Nat.lt_succ_self _) _ _ hP hD hS ls (lv_sub hl [0, 1, 2, 3, 4, 5] rfl)
    · skip
      refine lv_aload_n hx hb dX2_putRomanDigit_33 rfl (lv_at hl 0 rfl) ?_
      refine lv_iload_n hx hb dX2_putRomanDigit_34 rfl (lv_at hl 3 rfl) ?_
      have hPc := hP.sub (ws' := (pU cB o r n z tl F)) [0, 1] rfl
      have hDc := hD.sub (ws' := (pU cB o r n z tl F)) [0, 1] (by decide) rfl
      have hFc := va_free (wc := (pU cB o r n z tl F)) hD hS hA [0, 1] rfl
      refine xk_call (va_runV (As := [.int (iz p2)]) (rest := []) ⟨hx, hb, hml, hown, hts⟩ (x_put2 l dC dI cI cB cE o r n z tl F p2 s.heap.size (by omega) (by omega) hF hn6 (by omega) (by omega)) (cwV 1 hts (kx_gV kq_15_xspan_14 kq_15_xspan_15 kq_15_xspan_16 kq_15_xspan_17 kq_15_xspan_18 rfl) rfl rfl rfl (by decide +kernel) ⟨Nat.le_of_ble_eq_true rfl, Nat.le_of_ble_eq_true rfl⟩) ⟨kx_blind, va_recv hK hPc (ci := 2) (q0 := 0) rfl rfl, kx_give (ws := []) (tys := []) hPc hDc hK hG hZ hS hFc⟩ rfl rfl hl.1 rfl (lv_room (Nat.le_of_ble_eq_true rfl)) dX2_putRomanDigit_35 ⟨show 0 + 0 ≤ 0 from (by omega), show 0 + 0 ≤ 0 from (by omega)⟩) hS (fun q _ h => hFc q h) hFc (fun u dn_12 dm_13 t H locs ht hvm hq_11 hB hk1 hS => ?_)
      obtain ⟨z_14, tl_15, F_16⟩ := u
      obtain ⟨hP1, hK1, hD1⟩ := hB
      rw [ht] at hP1
      obtain ⟨hP, hD⟩ := xj (wr := []) (w1 := (pU cB o r n z_14 tl_15 F_16)) (ws' := (pU cB o r n z_14 tl_15 F_16)) hP hD [0, 1] [] [0, 1] rfl rfl (by decide) (by decide) hk1 hFc hP1 hD1 rfl (by decide)
      refine W.eq (g2 := F0 m 38 ls []) rfl ?_
      try dsimp only at hq_11
      obtain ⟨hd17, hm17, hz17, ht17, hF17, hX17⟩ := hq_11
      subst hd17
      subst hm17
      have hY17 := pt_X_app hX0 hX17
      refine lv_iconst (v := iz 0) hx hb dX2_putRomanDigit_38 (by decide) ?_
      refine lv_istore (lv' := [(5, .int (iz 0)), (0, .ref o), (1, .int (iz p0)), (2, .int (iz p1)), (3, .int (iz p2)), (4, .int (iz p3))]) hx hb dX2_putRomanDigit_39 hl (by decide) rfl (fun ls hl => ?_)
      have lp41 : ∀ (n0 : Nat) (k : Int) (zv : Int) (tv : Int) (Fv : Int → Int), ((0 ≤ k ∧ k ≤ p0 % 5) ∧ (0 ≤ zv ∧ zv ≤ (n : Int)) ∧ (tv = 0 ∨ tv = 1) ∧ (iB Fv) ∧ (pt_X F z tl (pt_l ((if 5 ≤ p0 then [p2] else []) ++ List.replicate (k).toNat p1)) Fv zv tv)) → (p0 % 5 - k).toNat < n0 → ∀ (H : Heap) (locs : List Loc), va_P (dC, dI) kxCl (pU cB o r n zv tv Fv) H → va_D A (pU cB o r n zv tv Fv) → va_S A s.heap H locs → ∀ ls : Array Slot, lv_has ls 6 [(5, .int (iz k)), (0, .ref o), (1, .int (iz p0)), (2, .int (iz p1)), (3, .int (iz p2)), (4, .int (iz p3))] → W p l e (headSpec [.code yX2_putRomanDigit cX2_putRomanDigit 6 none] ({ frames := 1, cells := 0, slots := 0, locals := 21 })).room s m ([.ref o, .int (iz p0), .int (iz p1), .int (iz p2), .int (iz p3)] : List Value).toArray below meth c H locs (0 + 0) (0 + 0) QQ (F0 m 41 ls []) := by
        intro n0
        induction n0 with
        | zero => intro k zv tv Fv hinv hm0; exact absurd hm0 (Nat.not_lt_zero _)
        | succ n0 ih41 =>
          intro k zv tv Fv hinv hm0 H locs hP hD hS ls hl
          obtain ⟨hk, hzv, htv, hFv, hXv⟩ := hinv
          refine lv_iload hx hb dX2_putRomanDigit_41 (lv_at hl 0 rfl) ?_
          refine lv_iload_n hx hb dX2_putRomanDigit_43 rfl (lv_at hl 2 rfl) ?_
          refine lv_iconst (v := iz 5) hx hb dX2_putRomanDigit_44 (by decide) ?_
          refine ki_irem hx hb dX2_putRomanDigit_45 (by omega) (by omega) (by omega) (by omega) ?_
          refine ki_icmp_ge (tgt := 60) hx hb dX2_putRomanDigit_46 (by decide) (by omega) (by omega) (by omega) (by omega) (fun c_18 => ?_) (fun c_18 => ?_)
          · skip
            rw [← hQe]
            exact xk_vret (ov := (fun _ : Int × Int × (Int → Int) => none)) (post := (fun (u : Int × Int × (Int → Int)) (dn dm : Nat) => match u with | (z', tl', F') => dn = 0 ∧ dm = 0 ∧ (0 ≤ z' ∧ z' ≤ (n : Int)) ∧ (tl' = 0 ∨ tl' = 1) ∧ iB F' ∧ pt_X F z tl (pt_l (pt_rd p0 p1 p2 p3)) F' z' tl')) (ws := (fun u : Int × Int × (Int → Int) => match u with | (z', tl', F') => (pU cB o r n z' tl' F'))) (tys := xT cI cB cE) (zv, tv, Fv) hx hb hr hlocks rfl hP hD hK hS dX2_putRomanDigit_60 (fun dn dm hdn hdm => ⟨by omega, by omega, by omega, by omega, hFv, pt_X_eq hXv (by unfold pt_rd; rw [if_neg (by omega), show p0 % 5 = k by omega])⟩) (by omega) (by omega)
          · skip
            refine lv_aload_n hx hb dX2_putRomanDigit_49 rfl (lv_at hl 1 rfl) ?_
            refine lv_iload_n hx hb dX2_putRomanDigit_50 rfl (lv_at hl 3 rfl) ?_
            have hPc := hP.sub (ws' := (pU cB o r n zv tv Fv)) [0, 1] rfl
            have hDc := hD.sub (ws' := (pU cB o r n zv tv Fv)) [0, 1] (by decide) rfl
            have hFc := va_free (wc := (pU cB o r n zv tv Fv)) hD hS hA [0, 1] rfl
            refine xk_call (va_runV (As := [.int (iz p1)]) (rest := []) ⟨hx, hb, hml, hown, hts⟩ (x_put2 l dC dI cI cB cE o r n zv tv Fv p1 H.size (by omega) (by omega) hFv hn6 (by omega) (by omega)) (cwV 1 hts (kx_gV kq_15_xspan_14 kq_15_xspan_15 kq_15_xspan_16 kq_15_xspan_17 kq_15_xspan_18 rfl) rfl rfl rfl (by decide +kernel) ⟨Nat.le_of_ble_eq_true rfl, Nat.le_of_ble_eq_true rfl⟩) ⟨kx_blind, va_recv hK hPc (ci := 2) (q0 := 0) rfl rfl, kx_give (ws := []) (tys := []) hPc hDc hK hG hZ hS hFc⟩ rfl rfl hl.1 rfl (lv_room (Nat.le_of_ble_eq_true rfl)) dX2_putRomanDigit_51 ⟨show (0 + 0) + 0 ≤ 0 from (by omega), show (0 + 0) + 0 ≤ 0 from (by omega)⟩) hS (fun q _ h => hFc q h) hFc (fun u dn_20 dm_21 t H locs ht hvm hq_19 hB hk1 hS => ?_)
            obtain ⟨z_22, tl_23, F_24⟩ := u
            obtain ⟨hP1, hK1, hD1⟩ := hB
            rw [ht] at hP1
            obtain ⟨hP, hD⟩ := xj (wr := []) (w1 := (pU cB o r n z_22 tl_23 F_24)) (ws' := (pU cB o r n z_22 tl_23 F_24)) hP hD [0, 1] [] [0, 1] rfl rfl (by decide) (by decide) hk1 hFc hP1 hD1 rfl (by decide)
            refine W.eq (g2 := F0 m 54 ls []) rfl ?_
            try dsimp only at hq_19
            obtain ⟨hd25, hm25, hz25, ht25, hF25, hX25⟩ := hq_19
            subst hd25
            subst hm25
            have hY25 := pt_X_app hXv hX25
            refine lv_iinc (v := iz (k + 1)) (lv' := [(5, .int (iz (k + 1))), (0, .ref o), (1, .int (iz p0)), (2, .int (iz p1)), (3, .int (iz p2)), (4, .int (iz p3))]) hx hb dX2_putRomanDigit_54 hl (k := 0) rfl (iz_add k 1) (by decide) rfl (fun ls hl => ?_)
            refine lv_goto (tgt := 41) hx hb dX2_putRomanDigit_57 (by decide) ?_
            exact ih41 (k + 1) z_22 tl_23 F_24 ⟨by omega, by omega, by omega, hF25, (pt_X_eq hY25 (by unfold pt_l; rw [show (k + 1).toNat = k.toNat + 1 by omega, List.replicate_succ', ← List.append_assoc, List.map_append]; rfl))⟩ (by omega) _ _ hP hD hS ls (lv_sub hl [0, 1, 2, 3, 4, 5] rfl)
      exact lp41 _ 0 z_14 tl_15 F_16 ⟨by omega, by omega, by omega, hF17, (pt_X_eq hY17 (by first | (rw [if_pos (by omega)]; rfl) | (rw [if_neg (by omega)]; rfl)))⟩ (Nat.lt_succ_self _) _ _ hP hD hS ls (lv_sub hl [0, 1, 2, 3, 4, 5] rfl)
  · skip
    refine lv_aload_n hx hb dX2_putRomanDigit_7 rfl (lv_at hl 0 rfl) ?_
    refine lv_iload_n hx hb dX2_putRomanDigit_8 rfl (lv_at hl 2 rfl) ?_
    have hPc := hP.sub (ws' := (pU cB o r n z tl F)) [0, 1] rfl
    have hDc := hD.sub (ws' := (pU cB o r n z tl F)) [0, 1] (by decide) rfl
    have hFc := va_free (wc := (pU cB o r n z tl F)) hD hS hA [0, 1] rfl
    refine xk_call (va_runV (As := [.int (iz p1)]) (rest := []) ⟨hx, hb, hml, hown, hts⟩ (x_put2 l dC dI cI cB cE o r n z tl F p1 s.heap.size (by omega) (by omega) hF hn6 (by omega) (by omega)) (cwV 1 hts (kx_gV kq_15_xspan_14 kq_15_xspan_15 kq_15_xspan_16 kq_15_xspan_17 kq_15_xspan_18 rfl) rfl rfl rfl (by decide +kernel) ⟨Nat.le_of_ble_eq_true rfl, Nat.le_of_ble_eq_true rfl⟩) ⟨kx_blind, va_recv hK hPc (ci := 2) (q0 := 0) rfl rfl, kx_give (ws := []) (tys := []) hPc hDc hK hG hZ hS hFc⟩ rfl rfl hl.1 rfl (lv_room (Nat.le_of_ble_eq_true rfl)) dX2_putRomanDigit_9 ⟨show 0 + 0 ≤ 0 from (by omega), show 0 + 0 ≤ 0 from (by omega)⟩) hS (fun q _ h => hFc q h) hFc (fun u dn_27 dm_28 t H locs ht hvm hq_26 hB hk1 hS => ?_)
    obtain ⟨z_29, tl_30, F_31⟩ := u
    obtain ⟨hP1, hK1, hD1⟩ := hB
    rw [ht] at hP1
    obtain ⟨hP, hD⟩ := xj (wr := []) (w1 := (pU cB o r n z_29 tl_30 F_31)) (ws' := (pU cB o r n z_29 tl_30 F_31)) hP hD [0, 1] [] [0, 1] rfl rfl (by decide) (by decide) hk1 hFc hP1 hD1 rfl (by decide)
    refine W.eq (g2 := F0 m 12 ls []) rfl ?_
    try dsimp only at hq_26
    obtain ⟨hd32, hm32, hz32, ht32, hF32, hX32⟩ := hq_26
    subst hd32
    subst hm32
    have hY32 := pt_X_app hX0 hX32
    refine lv_aload_n hx hb dX2_putRomanDigit_12 rfl (lv_at hl 0 rfl) ?_
    refine lv_iload_n hx hb dX2_putRomanDigit_13 rfl (lv_at hl 1 rfl) ?_
    refine lv_iconst (v := iz 4) hx hb dX2_putRomanDigit_14 (by decide) ?_
    refine ki_icmp_ne (tgt := 22) hx hb dX2_putRomanDigit_15 (by decide) (by omega) (by omega) (by omega) (by omega) (fun c_33 => ?_) (fun c_33 => ?_)
    · skip
      refine lv_iload hx hb dX2_putRomanDigit_22 (lv_at hl 4 rfl) ?_
      have hPc := hP.sub (ws' := (pU cB o r n z_29 tl_30 F_31)) [0, 1] rfl
      have hDc := hD.sub (ws' := (pU cB o r n z_29 tl_30 F_31)) [0, 1] (by decide) rfl
      have hFc := va_free (wc := (pU cB o r n z_29 tl_30 F_31)) hD hS hA [0, 1] rfl
      refine xk_call (va_runV (As := [.int (iz p3)]) (rest := []) ⟨hx, hb, hml, hown, hts⟩ (x_put2 l dC dI cI cB cE o r n z_29 tl_30 F_31 p3 H.size (by omega) (by omega) hF32 hn6 (by omega) (by omega)) (cwV 1 hts (kx_gV kq_15_xspan_14 kq_15_xspan_15 kq_15_xspan_16 kq_15_xspan_17 kq_15_xspan_18 rfl) rfl rfl rfl (by decide +kernel) ⟨Nat.le_of_ble_eq_true rfl, Nat.le_of_ble_eq_true rfl⟩) ⟨kx_blind, va_recv hK hPc (ci := 2) (q0 := 0) rfl rfl, kx_give (ws := []) (tys := []) hPc hDc hK hG hZ hS hFc⟩ rfl rfl hl.1 rfl (lv_room (Nat.le_of_ble_eq_true rfl)) dX2_putRomanDigit_24 ⟨show (0 + 0) + 0 ≤ 0 from (by omega), show (0 + 0) + 0 ≤ 0 from (by omega)⟩) hS (fun q _ h => hFc q h) hFc (fun u dn_35 dm_36 t H locs ht hvm hq_34 hB hk1 hS => ?_)
      obtain ⟨z_37, tl_38, F_39⟩ := u
      obtain ⟨hP1, hK1, hD1⟩ := hB
      rw [ht] at hP1
      obtain ⟨hP, hD⟩ := xj (wr := []) (w1 := (pU cB o r n z_37 tl_38 F_39)) (ws' := (pU cB o r n z_37 tl_38 F_39)) hP hD [0, 1] [] [0, 1] rfl rfl (by decide) (by decide) hk1 hFc hP1 hD1 rfl (by decide)
      refine W.eq (g2 := F0 m 27 ls []) rfl ?_
      try dsimp only at hq_34
      obtain ⟨hd40, hm40, hz40, ht40, hF40, hX40⟩ := hq_34
      subst hd40
      subst hm40
      have hY40 := pt_X_app hY32 hX40
      rw [← hQe]
      exact xk_vret (ov := (fun _ : Int × Int × (Int → Int) => none)) (post := (fun (u : Int × Int × (Int → Int)) (dn dm : Nat) => match u with | (z', tl', F') => dn = 0 ∧ dm = 0 ∧ (0 ≤ z' ∧ z' ≤ (n : Int)) ∧ (tl' = 0 ∨ tl' = 1) ∧ iB F' ∧ pt_X F z tl (pt_l (pt_rd p0 p1 p2 p3)) F' z' tl')) (ws := (fun u : Int × Int × (Int → Int) => match u with | (z', tl', F') => (pU cB o r n z' tl' F'))) (tys := xT cI cB cE) (z_37, tl_38, F_39) hx hb hr hlocks rfl hP hD hK hS dX2_putRomanDigit_27 (fun dn dm hdn hdm => ⟨by omega, by omega, by omega, by omega, hF40, pt_X_eq hY40 (by unfold pt_rd; rw [if_pos (by omega)]; first | (rw [if_pos (by omega)]; rfl) | (rw [if_neg (by omega)]; rfl))⟩) (by omega) (by omega)
    · skip
      refine lv_iload_n hx hb dX2_putRomanDigit_18 rfl (lv_at hl 3 rfl) ?_
      refine lv_goto (tgt := 24) hx hb dX2_putRomanDigit_19 (by decide) ?_
      have hPc := hP.sub (ws' := (pU cB o r n z_29 tl_30 F_31)) [0, 1] rfl
      have hDc := hD.sub (ws' := (pU cB o r n z_29 tl_30 F_31)) [0, 1] (by decide) rfl
      have hFc := va_free (wc := (pU cB o r n z_29 tl_30 F_31)) hD hS hA [0, 1] rfl
      refine xk_call (va_runV (As := [.int (iz p2)]) (rest := []) ⟨hx, hb, hml, hown, hts⟩ (x_put2 l dC dI cI cB cE o r n z_29 tl_30 F_31 p2 H.size (by omega) (by omega) hF32 hn6 (by omega) (by omega)) (cwV 1 hts (kx_gV kq_15_xspan_14 kq_15_xspan_15 kq_15_xspan_16 kq_15_xspan_17 kq_15_xspan_18 rfl) rfl rfl rfl (by decide +kernel) ⟨Nat.le_of_ble_eq_true rfl, Nat.le_of_ble_eq_true rfl⟩) ⟨kx_blind, va_recv hK hPc (ci := 2) (q0 := 0) rfl rfl, kx_give (ws := []) (tys := []) hPc hDc hK hG hZ hS hFc⟩ rfl rfl hl.1 rfl (lv_room (Nat.le_of_ble_eq_true rfl)) dX2_putRomanDigit_24 ⟨show (0 + 0) + 0 ≤ 0 from (by omega), show (0 + 0) + 0 ≤ 0 from (by omega)⟩) hS (fun q _ h => hFc q h) hFc (fun u dn_42 dm_43 t H locs ht hvm hq_41 hB hk1 hS => ?_)
      obtain ⟨z_44, tl_45, F_46⟩ := u
      obtain ⟨hP1, hK1, hD1⟩ := hB
      rw [ht] at hP1
      obtain ⟨hP, hD⟩ := xj (wr := []) (w1 := (pU cB o r n z_44 tl_45 F_46)) (ws' := (pU cB o r n z_44 tl_45 F_46)) hP hD [0, 1] [] [0, 1] rfl rfl (by decide) (by decide) hk1 hFc hP1 hD1 rfl (by decide)
      refine W.eq (g2 := F0 m 27 ls []) rfl ?_
      try dsimp only at hq_41
      obtain ⟨hd47, hm47, hz47, ht47, hF47, hX47⟩ := hq_41
      subst hd47
      subst hm47
      have hY47 := pt_X_app hY32 hX47
      rw [← hQe]
      exact xk_vret (ov := (fun _ : Int × Int × (Int → Int) => none)) (post := (fun (u : Int × Int × (Int → Int)) (dn dm : Nat) => match u with | (z', tl', F') => dn = 0 ∧ dm = 0 ∧ (0 ≤ z' ∧ z' ≤ (n : Int)) ∧ (tl' = 0 ∨ tl' = 1) ∧ iB F' ∧ pt_X F z tl (pt_l (pt_rd p0 p1 p2 p3)) F' z' tl')) (ws := (fun u : Int × Int × (Int → Int) => match u with | (z', tl', F') => (pU cB o r n z' tl' F'))) (tys := xT cI cB cE) (z_44, tl_45, F_46) hx hb hr hlocks rfl hP hD hK hS dX2_putRomanDigit_27 (fun dn dm hdn hdm => ⟨by omega, by omega, by omega, by omega, hF47, pt_X_eq hY47 (by unfold pt_rd; rw [if_pos (by omega)]; first | (rw [if_pos (by omega)]; rfl) | (rw [if_neg (by omega)]; rfl))⟩) (by omega) (by omega)
set_option maxHeartbeats 4000000 in
set_option maxRecDepth 100000 in
theorem x_putNumber2 (l : Launch) (dC : Nat → ClassId) (dI : Nat → Nat → Nat) (cI cB cE : ClassId) (o : Nat) (r : Nat) (n : Nat) (z : Int) (tl : Int) (F : Int → Int) (p0 : Int) (sz : Nat) (hok : 0 ≤ z ∧ z ≤ (n : Int) ∧ (n = 0 ∨ n = 6000)) (ht : tl = 0 ∨ tl = 1) (hF : iB F) (hn6 : n = 6000) (hd9 : 1 ≤ p0 ∧ p0 ≤ 99999) (hp01 : -2147483648 ≤ p0) (hp02 : p0 < 2147483648) : Met l yX2_putNumber [.code yX2_putNumber cX2_putNumber 3 none] ({ frames := 1, cells := 0, slots := 0, locals := 21 }) (va_Pc [.ref o, .int (iz p0)] (kx_Pre dC dI (pU cB o r n z tl F) (xT cI cB cE) sz)) (xQ (fun _ : Int × Int × (Int → Int) => none) (fun (u : Int × Int × (Int → Int)) (dn dm : Nat) => match u with | (z', tl', F') => dn = 0 ∧ dm = 0 ∧ (0 ≤ z' ∧ z' ≤ (n : Int)) ∧ (tl' = 0 ∨ tl' = 1) ∧ iB F' ∧ pt_X F z tl (pt_l (pt_nu p0)) F' z' tl') (fun u t => kx_At dC dI (va_A (pU cB o r n z tl F) sz) ((fun u : Int × Int × (Int → Int) => match u with | (z', tl', F') => (pU cB o r n z' tl' F')) u) (xT cI cB cE) t) (va_A (pU cB o r n z tl F) sz)) 0 0 (va_A (pU cB o r n z tl F) sz) := by
  refine Met.ofW (cc := cX2_putNumber) (maxL := 3) (ret := none) (by decide) rfl ?_
  intro p e s m args below meth c s₁ B hml hv
  obtain ⟨rfl, hsz, hP, hK, hD0, hG, hZ⟩ := hv
  have hx := B.exec
  have hb := B.bytes
  have hr := B.returns
  have hts := kx_hts (a := ([.ref o, .int (iz p0)] : List Value).toArray) hG
  have hown : s.vm.findClass RX2 = some m.cls := findClass_of_methodNamed B.named
  have hlocks := B.notSynchronized
  subst hsz
  have hD := hD0.self (sz := s.heap.size)
  generalize hAe : va_A (pU cB o r n z tl F) s.heap.size = A at hD hZ ⊢
  have hA : ∀ q : Nat, s.heap.size ≤ q → A q := fun q h => by rw [← hAe]; exact Or.inr h
  have hS : va_S A s.heap s.heap [] := va_S.rf
  have hl := lv_entry ([.ref o, .int (iz p0)]) (n := 3) (Nat.le_of_ble_eq_true rfl)
  rw [lg_entry_eq]
  generalize (lg_sl ([.ref o, .int (iz p0)]) ++ List.replicate (3 - (lg_sl ([.ref o, .int (iz p0)])).length) Slot.unset).toArray = ls at hl ⊢
  have hl : lv_has ls 3 [(0, .ref o), (1, .int (iz p0))] := hl
  have hX0 := pt_X_nil F z tl
  refine lv_sipush (v := iz 10000) hx hb dX2_putNumber_0 (by decide) ?_
  refine lv_istore_n (lv' := [(2, .int (iz 10000)), (0, .ref o), (1, .int (iz p0))]) hx hb dX2_putNumber_3 rfl hl (by decide) rfl (fun ls hl => ?_)
  refine lv_iload_n hx hb dX2_putNumber_4 rfl (lv_at hl 0 rfl) ?_
  refine ki_if_le (tgt := 34) hx hb dX2_putNumber_5 (by decide) (by omega) (by omega) (fun c_1 => ?_) (fun c_1 => ?_)
  · omega
  · skip
    refine lv_iload_n hx hb dX2_putNumber_8 rfl (lv_at hl 2 rfl) ?_
    refine lv_iload_n hx hb dX2_putNumber_9 rfl (lv_at hl 0 rfl) ?_
    refine ki_icmp_lt (tgt := 26) hx hb dX2_putNumber_10 (by decide) (by omega) (by omega) (by omega) (by omega) (fun c_2 => ?_) (fun c_2 => ?_)
    · skip
      refine lv_iload_n hx hb dX2_putNumber_26 rfl (lv_at hl 0 rfl) ?_
      refine lv_bipush (v := iz 10) hx hb dX2_putNumber_27 (by decide) ?_
      refine ki_idiv hx hb dX2_putNumber_29 (by omega) (by omega) (by omega) (by omega) ?_
      refine ki_is (show iz (10000 / 10) = iz 1000 from rfl) ?_
      refine lv_istore_n (lv' := [(2, .int (iz 1000)), (0, .ref o), (1, .int (iz p0))]) hx hb dX2_putNumber_30 rfl hl (by decide) rfl (fun ls hl => ?_)
      refine lv_goto (tgt := 4) hx hb dX2_putNumber_31 (by decide) ?_
      refine lv_iload_n hx hb dX2_putNumber_4 rfl (lv_at hl 0 rfl) ?_
      refine ki_if_le (tgt := 34) hx hb dX2_putNumber_5 (by decide) (by omega) (by omega) (fun c_3 => ?_) (fun c_3 => ?_)
      · omega
      · skip
        refine lv_iload_n hx hb dX2_putNumber_8 rfl (lv_at hl 2 rfl) ?_
        refine lv_iload_n hx hb dX2_putNumber_9 rfl (lv_at hl 0 rfl) ?_
        refine ki_icmp_lt (tgt := 26) hx hb dX2_putNumber_10 (by decide) (by omega) (by omega) (by omega) (by omega) (fun c_4 => ?_) (fun c_4 => ?_)
        · skip
          refine lv_iload_n hx hb dX2_putNumber_26 rfl (lv_at hl 0 rfl) ?_
          refine lv_bipush (v := iz 10) hx hb dX2_putNumber_27 (by decide) ?_
          refine ki_idiv hx hb dX2_putNumber_29 (by omega) (by omega) (by omega) (by omega) ?_
          refine ki_is (show iz (1000 / 10) = iz 100 from rfl) ?_
          refine lv_istore_n (lv' := [(2, .int (iz 100)), (0, .ref o), (1, .int (iz p0))]) hx hb dX2_putNumber_30 rfl hl (by decide) rfl (fun ls hl => ?_)
          refine lv_goto (tgt := 4) hx hb dX2_putNumber_31 (by decide) ?_
          refine lv_iload_n hx hb dX2_putNumber_4 rfl (lv_at hl 0 rfl) ?_
          refine ki_if_le (tgt := 34) hx hb dX2_putNumber_5 (by decide) (by omega) (by omega) (fun c_5 => ?_) (fun c_5 => ?_)
          · omega
          · skip
            refine lv_iload_n hx hb dX2_putNumber_8 rfl (lv_at hl 2 rfl) ?_
            refine lv_iload_n hx hb dX2_putNumber_9 rfl (lv_at hl 0 rfl) ?_
            refine ki_icmp_lt (tgt := 26) hx hb dX2_putNumber_10 (by decide) (by omega) (by omega) (by omega) (by omega) (fun c_6 => ?_) (fun c_6 => ?_)
            · skip
              refine lv_iload_n hx hb dX2_putNumber_26 rfl (lv_at hl 0 rfl) ?_
              refine lv_bipush (v := iz 10) hx hb dX2_putNumber_27 (by decide) ?_
              refine ki_idiv hx hb dX2_putNumber_29 (by omega) (by omega) (by omega) (by omega) ?_
              refine ki_is (show iz (100 / 10) = iz 10 from rfl) ?_
              refine lv_istore_n (lv' := [(2, .int (iz 10)), (0, .ref o), (1, .int (iz p0))]) hx hb dX2_putNumber_30 rfl hl (by decide) rfl (fun ls hl => ?_)
              refine lv_goto (tgt := 4) hx hb dX2_putNumber_31 (by decide) ?_
              refine lv_iload_n hx hb dX2_putNumber_4 rfl (lv_at hl 0 rfl) ?_
              refine ki_if_le (tgt := 34) hx hb dX2_putNumber_5 (by decide) (by omega) (by omega) (fun c_7 => ?_) (fun c_7 => ?_)
              · omega
              · skip
                refine lv_iload_n hx hb dX2_putNumber_8 rfl (lv_at hl 2 rfl) ?_
                refine lv_iload_n hx hb dX2_putNumber_9 rfl (lv_at hl 0 rfl) ?_
                refine ki_icmp_lt (tgt := 26) hx hb dX2_putNumber_10 (by decide) (by omega) (by omega) (by omega) (by omega) (fun c_8 => ?_) (fun c_8 => ?_)
                · skip
                  refine lv_iload_n hx hb dX2_putNumber_26 rfl (lv_at hl 0 rfl) ?_
                  refine lv_bipush (v := iz 10) hx hb dX2_putNumber_27 (by decide) ?_
                  refine ki_idiv hx hb dX2_putNumber_29 (by omega) (by omega) (by omega) (by omega) ?_
                  refine ki_is (show iz (10 / 10) = iz 1 from rfl) ?_
                  refine lv_istore_n (lv' := [(2, .int (iz 1)), (0, .ref o), (1, .int (iz p0))]) hx hb dX2_putNumber_30 rfl hl (by decide) rfl (fun ls hl => ?_)
                  refine lv_goto (tgt := 4) hx hb dX2_putNumber_31 (by decide) ?_
                  refine lv_iload_n hx hb dX2_putNumber_4 rfl (lv_at hl 0 rfl) ?_
                  refine ki_if_le (tgt := 34) hx hb dX2_putNumber_5 (by decide) (by omega) (by omega) (fun c_9 => ?_) (fun c_9 => ?_)
                  · omega
                  · skip
                    refine lv_iload_n hx hb dX2_putNumber_8 rfl (lv_at hl 2 rfl) ?_
                    refine lv_iload_n hx hb dX2_putNumber_9 rfl (lv_at hl 0 rfl) ?_
                    refine ki_icmp_lt (tgt := 26) hx hb dX2_putNumber_10 (by decide) (by omega) (by omega) (by omega) (by omega) (fun c_10 => ?_) (fun c_10 => ?_)
                    · skip
                      refine lv_iload_n hx hb dX2_putNumber_26 rfl (lv_at hl 0 rfl) ?_
                      refine lv_bipush (v := iz 10) hx hb dX2_putNumber_27 (by decide) ?_
                      refine ki_idiv hx hb dX2_putNumber_29 (by omega) (by omega) (by omega) (by omega) ?_
                      refine ki_is (show iz (1 / 10) = iz 0 from rfl) ?_
                      refine lv_istore_n (lv' := [(2, .int (iz 0)), (0, .ref o), (1, .int (iz p0))]) hx hb dX2_putNumber_30 rfl hl (by decide) rfl (fun ls hl => ?_)
                      refine lv_goto (tgt := 4) hx hb dX2_putNumber_31 (by decide) ?_
                      refine lv_iload_n hx hb dX2_putNumber_4 rfl (lv_at hl 0 rfl) ?_
                      refine ki_if_le (tgt := 34) hx hb dX2_putNumber_5 (by decide) (by omega) (by omega) (fun c_11 => ?_) (fun c_11 => ?_)
                      · skip
                        exact xk_vret (ov := (fun _ : Int × Int × (Int → Int) => none)) (post := (fun (u : Int × Int × (Int → Int)) (dn dm : Nat) => match u with | (z', tl', F') => dn = 0 ∧ dm = 0 ∧ (0 ≤ z' ∧ z' ≤ (n : Int)) ∧ (tl' = 0 ∨ tl' = 1) ∧ iB F' ∧ pt_X F z tl (pt_l (pt_nu p0)) F' z' tl')) (ws := (fun u : Int × Int × (Int → Int) => match u with | (z', tl', F') => (pU cB o r n z' tl' F'))) (tys := xT cI cB cE) (z, tl, F) hx hb hr hlocks rfl hP hD hK hS dX2_putNumber_34 (fun dn dm hdn hdm => ⟨by omega, by omega, by omega, by omega, hF, pt_X_eq hX0 (by first | (exfalso; omega) | (unfold pt_nu pt_l; (first | rw [if_pos (show 10000 ≤ p0 by omega)] | rw [if_neg (show ¬ 10000 ≤ p0 by omega)]) ; (first | rw [if_pos (show 1000 ≤ p0 by omega)] | rw [if_neg (show ¬ 1000 ≤ p0 by omega)]) ; (first | rw [if_pos (show 100 ≤ p0 by omega)] | rw [if_neg (show ¬ 100 ≤ p0 by omega)]) ; (first | rw [if_pos (show 10 ≤ p0 by omega)] | rw [if_neg (show ¬ 10 ≤ p0 by omega)]) ; (first | rw [if_pos (show 1 ≤ p0 by omega)] | rw [if_neg (show ¬ 1 ≤ p0 by omega)]); rfl))⟩) (by omega) (by omega)
                      · omega
                    · skip
                      refine lv_aload_n hx hb dX2_putNumber_13 rfl (lv_at hl 1 rfl) ?_
                      refine lv_bipush (v := iz 48) hx hb dX2_putNumber_14 (by decide) ?_
                      refine lv_iload_n hx hb dX2_putNumber_16 rfl (lv_at hl 2 rfl) ?_
                      refine lv_iload_n hx hb dX2_putNumber_17 rfl (lv_at hl 0 rfl) ?_
                      refine ki_idiv hx hb dX2_putNumber_18 (by omega) (by omega) (by omega) (by omega) ?_
                      refine lv_bipush (v := iz 10) hx hb dX2_putNumber_19 (by decide) ?_
                      refine ki_irem hx hb dX2_putNumber_21 (by omega) (by omega) (by omega) (by omega) ?_
                      refine ki_iadd hx hb dX2_putNumber_22 ?_
                      have hPc := hP.sub (ws' := (pU cB o r n z tl F)) [0, 1] rfl
                      have hDc := hD.sub (ws' := (pU cB o r n z tl F)) [0, 1] (by decide) rfl
                      have hFc := va_free (wc := (pU cB o r n z tl F)) hD hS hA [0, 1] rfl
                      refine xk_call (va_runV (As := [.int (iz (48 + ((p0 / 1) % 10)))]) (rest := []) ⟨hx, hb, hml, hown, hts⟩ (x_put2 l dC dI cI cB cE o r n z tl F (48 + ((p0 / 1) % 10)) s.heap.size (by omega) (by omega) hF hn6 (by omega) (by omega)) (cwV 1 hts (kx_gV kq_15_xspan_14 kq_15_xspan_15 kq_15_xspan_16 kq_15_xspan_17 kq_15_xspan_18 rfl) rfl rfl rfl (by decide +kernel) ⟨Nat.le_of_ble_eq_true rfl, Nat.le_of_ble_eq_true rfl⟩) ⟨kx_blind, va_recv hK hPc (ci := 2) (q0 := 0) rfl rfl, kx_give (ws := []) (tys := []) hPc hDc hK hG hZ hS hFc⟩ rfl rfl hl.1 rfl (lv_room (Nat.le_of_ble_eq_true rfl)) dX2_putNumber_23 ⟨show 0 + 0 ≤ 0 from (by omega), show 0 + 0 ≤ 0 from (by omega)⟩) hS (fun q _ h => hFc q h) hFc (fun u dn_13 dm_14 t H locs ht hvm hq_12 hB hk1 hS => ?_)
                      obtain ⟨z_15, tl_16, F_17⟩ := u
                      obtain ⟨hP1, hK1, hD1⟩ := hB
                      rw [ht] at hP1
                      obtain ⟨hP, hD⟩ := xj (wr := []) (w1 := (pU cB o r n z_15 tl_16 F_17)) (ws' := (pU cB o r n z_15 tl_16 F_17)) hP hD [0, 1] [] [0, 1] rfl rfl (by decide) (by decide) hk1 hFc hP1 hD1 rfl (by decide)
                      refine W.eq (g2 := F0 m 26 ls []) rfl ?_
                      try dsimp only at hq_12
                      obtain ⟨hd18, hm18, hz18, ht18, hF18, hX18⟩ := hq_12
                      subst hd18
                      subst hm18
                      have hY18 := pt_X_app hX0 hX18
                      refine lv_iload_n hx hb dX2_putNumber_26 rfl (lv_at hl 0 rfl) ?_
                      refine lv_bipush (v := iz 10) hx hb dX2_putNumber_27 (by decide) ?_
                      refine ki_idiv hx hb dX2_putNumber_29 (by omega) (by omega) (by omega) (by omega) ?_
                      refine ki_is (show iz (1 / 10) = iz 0 from rfl) ?_
                      refine lv_istore_n (lv' := [(2, .int (iz 0)), (0, .ref o), (1, .int (iz p0))]) hx hb dX2_putNumber_30 rfl hl (by decide) rfl (fun ls hl => ?_)
                      refine lv_goto (tgt := 4) hx hb dX2_putNumber_31 (by decide) ?_
                      refine lv_iload_n hx hb dX2_putNumber_4 rfl (lv_at hl 0 rfl) ?_
                      refine ki_if_le (tgt := 34) hx hb dX2_putNumber_5 (by decide) (by omega) (by omega) (fun c_19 => ?_) (fun c_19 => ?_)
                      · skip
                        exact xk_vret (ov := (fun _ : Int × Int × (Int → Int) => none)) (post := (fun (u : Int × Int × (Int → Int)) (dn dm : Nat) => match u with | (z', tl', F') => dn = 0 ∧ dm = 0 ∧ (0 ≤ z' ∧ z' ≤ (n : Int)) ∧ (tl' = 0 ∨ tl' = 1) ∧ iB F' ∧ pt_X F z tl (pt_l (pt_nu p0)) F' z' tl')) (ws := (fun u : Int × Int × (Int → Int) => match u with | (z', tl', F') => (pU cB o r n z' tl' F'))) (tys := xT cI cB cE) (z_15, tl_16, F_17) hx hb hr hlocks rfl hP hD hK hS dX2_putNumber_34 (fun dn dm hdn hdm => ⟨by omega, by omega, by omega, by omega, hF18, pt_X_eq hY18 (by first | (exfalso; omega) | (unfold pt_nu pt_l; (first | rw [if_pos (show 10000 ≤ p0 by omega)] | rw [if_neg (show ¬ 10000 ≤ p0 by omega)]) ; (first | rw [if_pos (show 1000 ≤ p0 by omega)] | rw [if_neg (show ¬ 1000 ≤ p0 by omega)]) ; (first | rw [if_pos (show 100 ≤ p0 by omega)] | rw [if_neg (show ¬ 100 ≤ p0 by omega)]) ; (first | rw [if_pos (show 10 ≤ p0 by omega)] | rw [if_neg (show ¬ 10 ≤ p0 by omega)]) ; (first | rw [if_pos (show 1 ≤ p0 by omega)] | rw [if_neg (show ¬ 1 ≤ p0 by omega)]); rfl))⟩) (by omega) (by omega)
                      · omega
                · skip
                  refine lv_aload_n hx hb dX2_putNumber_13 rfl (lv_at hl 1 rfl) ?_
                  refine lv_bipush (v := iz 48) hx hb dX2_putNumber_14 (by decide) ?_
                  refine lv_iload_n hx hb dX2_putNumber_16 rfl (lv_at hl 2 rfl) ?_
                  refine lv_iload_n hx hb dX2_putNumber_17 rfl (lv_at hl 0 rfl) ?_
                  refine ki_idiv hx hb dX2_putNumber_18 (by omega) (by omega) (by omega) (by omega) ?_
                  refine lv_bipush (v := iz 10) hx hb dX2_putNumber_19 (by decide) ?_
                  refine ki_irem hx hb dX2_putNumber_21 (by omega) (by omega) (by omega) (by omega) ?_
                  refine ki_iadd hx hb dX2_putNumber_22 ?_
                  have hPc := hP.sub (ws' := (pU cB o r n z tl F)) [0, 1] rfl
                  have hDc := hD.sub (ws' := (pU cB o r n z tl F)) [0, 1] (by decide) rfl
                  have hFc := va_free (wc := (pU cB o r n z tl F)) hD hS hA [0, 1] rfl
                  refine xk_call (va_runV (As := [.int (iz (48 + ((p0 / 10) % 10)))]) (rest := []) ⟨hx, hb, hml, hown, hts⟩ (x_put2 l dC dI cI cB cE o r n z tl F (48 + ((p0 / 10) % 10)) s.heap.size (by omega) (by omega) hF hn6 (by omega) (by omega)) (cwV 1 hts (kx_gV kq_15_xspan_14 kq_15_xspan_15 kq_15_xspan_16 kq_15_xspan_17 kq_15_xspan_18 rfl) rfl rfl rfl (by decide +kernel) ⟨Nat.le_of_ble_eq_true rfl, Nat.le_of_ble_eq_true rfl⟩) ⟨kx_blind, va_recv hK hPc (ci := 2) (q0 := 0) rfl rfl, kx_give (ws := []) (tys := []) hPc hDc hK hG hZ hS hFc⟩ rfl rfl hl.1 rfl (lv_room (Nat.le_of_ble_eq_true rfl)) dX2_putNumber_23 ⟨show 0 + 0 ≤ 0 from (by omega), show 0 + 0 ≤ 0 from (by omega)⟩) hS (fun q _ h => hFc q h) hFc (fun u dn_21 dm_22 t H locs ht hvm hq_20 hB hk1 hS => ?_)
                  obtain ⟨z_23, tl_24, F_25⟩ := u
                  obtain ⟨hP1, hK1, hD1⟩ := hB
                  rw [ht] at hP1
                  obtain ⟨hP, hD⟩ := xj (wr := []) (w1 := (pU cB o r n z_23 tl_24 F_25)) (ws' := (pU cB o r n z_23 tl_24 F_25)) hP hD [0, 1] [] [0, 1] rfl rfl (by decide) (by decide) hk1 hFc hP1 hD1 rfl (by decide)
                  refine W.eq (g2 := F0 m 26 ls []) rfl ?_
                  try dsimp only at hq_20
                  obtain ⟨hd26, hm26, hz26, ht26, hF26, hX26⟩ := hq_20
                  subst hd26
                  subst hm26
                  have hY26 := pt_X_app hX0 hX26
                  refine lv_iload_n hx hb dX2_putNumber_26 rfl (lv_at hl 0 rfl) ?_
                  refine lv_bipush (v := iz 10) hx hb dX2_putNumber_27 (by decide) ?_
                  refine ki_idiv hx hb dX2_putNumber_29 (by omega) (by omega) (by omega) (by omega) ?_
                  refine ki_is (show iz (10 / 10) = iz 1 from rfl) ?_
                  refine lv_istore_n (lv' := [(2, .int (iz 1)), (0, .ref o), (1, .int (iz p0))]) hx hb dX2_putNumber_30 rfl hl (by decide) rfl (fun ls hl => ?_)
                  refine lv_goto (tgt := 4) hx hb dX2_putNumber_31 (by decide) ?_
                  refine lv_iload_n hx hb dX2_putNumber_4 rfl (lv_at hl 0 rfl) ?_
                  refine ki_if_le (tgt := 34) hx hb dX2_putNumber_5 (by decide) (by omega) (by omega) (fun c_27 => ?_) (fun c_27 => ?_)
                  · omega
                  · skip
                    refine lv_iload_n hx hb dX2_putNumber_8 rfl (lv_at hl 2 rfl) ?_
                    refine lv_iload_n hx hb dX2_putNumber_9 rfl (lv_at hl 0 rfl) ?_
                    refine ki_icmp_lt (tgt := 26) hx hb dX2_putNumber_10 (by decide) (by omega) (by omega) (by omega) (by omega) (fun c_28 => ?_) (fun c_28 => ?_)
                    · skip
                      refine lv_iload_n hx hb dX2_putNumber_26 rfl (lv_at hl 0 rfl) ?_
                      refine lv_bipush (v := iz 10) hx hb dX2_putNumber_27 (by decide) ?_
                      refine ki_idiv hx hb dX2_putNumber_29 (by omega) (by omega) (by omega) (by omega) ?_
                      refine ki_is (show iz (1 / 10) = iz 0 from rfl) ?_
                      refine lv_istore_n (lv' := [(2, .int (iz 0)), (0, .ref o), (1, .int (iz p0))]) hx hb dX2_putNumber_30 rfl hl (by decide) rfl (fun ls hl => ?_)
                      refine lv_goto (tgt := 4) hx hb dX2_putNumber_31 (by decide) ?_
                      refine lv_iload_n hx hb dX2_putNumber_4 rfl (lv_at hl 0 rfl) ?_
                      refine ki_if_le (tgt := 34) hx hb dX2_putNumber_5 (by decide) (by omega) (by omega) (fun c_29 => ?_) (fun c_29 => ?_)
                      · skip
                        exact xk_vret (ov := (fun _ : Int × Int × (Int → Int) => none)) (post := (fun (u : Int × Int × (Int → Int)) (dn dm : Nat) => match u with | (z', tl', F') => dn = 0 ∧ dm = 0 ∧ (0 ≤ z' ∧ z' ≤ (n : Int)) ∧ (tl' = 0 ∨ tl' = 1) ∧ iB F' ∧ pt_X F z tl (pt_l (pt_nu p0)) F' z' tl')) (ws := (fun u : Int × Int × (Int → Int) => match u with | (z', tl', F') => (pU cB o r n z' tl' F'))) (tys := xT cI cB cE) (z_23, tl_24, F_25) hx hb hr hlocks rfl hP hD hK hS dX2_putNumber_34 (fun dn dm hdn hdm => ⟨by omega, by omega, by omega, by omega, hF26, pt_X_eq hY26 (by first | (exfalso; omega) | (unfold pt_nu pt_l; (first | rw [if_pos (show 10000 ≤ p0 by omega)] | rw [if_neg (show ¬ 10000 ≤ p0 by omega)]) ; (first | rw [if_pos (show 1000 ≤ p0 by omega)] | rw [if_neg (show ¬ 1000 ≤ p0 by omega)]) ; (first | rw [if_pos (show 100 ≤ p0 by omega)] | rw [if_neg (show ¬ 100 ≤ p0 by omega)]) ; (first | rw [if_pos (show 10 ≤ p0 by omega)] | rw [if_neg (show ¬ 10 ≤ p0 by omega)]) ; (first | rw [if_pos (show 1 ≤ p0 by omega)] | rw [if_neg (show ¬ 1 ≤ p0 by omega)]); rfl))⟩) (by omega) (by omega)
                      · omega
                    · skip
                      refine lv_aload_n hx hb dX2_putNumber_13 rfl (lv_at hl 1 rfl) ?_
                      refine lv_bipush (v := iz 48) hx hb dX2_putNumber_14 (by decide) ?_
                      refine lv_iload_n hx hb dX2_putNumber_16 rfl (lv_at hl 2 rfl) ?_
                      refine lv_iload_n hx hb dX2_putNumber_17 rfl (lv_at hl 0 rfl) ?_
                      refine ki_idiv hx hb dX2_putNumber_18 (by omega) (by omega) (by omega) (by omega) ?_
                      refine lv_bipush (v := iz 10) hx hb dX2_putNumber_19 (by decide) ?_
                      refine ki_irem hx hb dX2_putNumber_21 (by omega) (by omega) (by omega) (by omega) ?_
                      refine ki_iadd hx hb dX2_putNumber_22 ?_
                      have hPc := hP.sub (ws' := (pU cB o r n z_23 tl_24 F_25)) [0, 1] rfl
                      have hDc := hD.sub (ws' := (pU cB o r n z_23 tl_24 F_25)) [0, 1] (by decide) rfl
                      have hFc := va_free (wc := (pU cB o r n z_23 tl_24 F_25)) hD hS hA [0, 1] rfl
                      refine xk_call (va_runV (As := [.int (iz (48 + ((p0 / 1) % 10)))]) (rest := []) ⟨hx, hb, hml, hown, hts⟩ (x_put2 l dC dI cI cB cE o r n z_23 tl_24 F_25 (48 + ((p0 / 1) % 10)) H.size (by omega) (by omega) hF26 hn6 (by omega) (by omega)) (cwV 1 hts (kx_gV kq_15_xspan_14 kq_15_xspan_15 kq_15_xspan_16 kq_15_xspan_17 kq_15_xspan_18 rfl) rfl rfl rfl (by decide +kernel) ⟨Nat.le_of_ble_eq_true rfl, Nat.le_of_ble_eq_true rfl⟩) ⟨kx_blind, va_recv hK hPc (ci := 2) (q0 := 0) rfl rfl, kx_give (ws := []) (tys := []) hPc hDc hK hG hZ hS hFc⟩ rfl rfl hl.1 rfl (lv_room (Nat.le_of_ble_eq_true rfl)) dX2_putNumber_23 ⟨show (0 + 0) + 0 ≤ 0 from (by omega), show (0 + 0) + 0 ≤ 0 from (by omega)⟩) hS (fun q _ h => hFc q h) hFc (fun u dn_31 dm_32 t H locs ht hvm hq_30 hB hk1 hS => ?_)
                      obtain ⟨z_33, tl_34, F_35⟩ := u
                      obtain ⟨hP1, hK1, hD1⟩ := hB
                      rw [ht] at hP1
                      obtain ⟨hP, hD⟩ := xj (wr := []) (w1 := (pU cB o r n z_33 tl_34 F_35)) (ws' := (pU cB o r n z_33 tl_34 F_35)) hP hD [0, 1] [] [0, 1] rfl rfl (by decide) (by decide) hk1 hFc hP1 hD1 rfl (by decide)
                      refine W.eq (g2 := F0 m 26 ls []) rfl ?_
                      try dsimp only at hq_30
                      obtain ⟨hd36, hm36, hz36, ht36, hF36, hX36⟩ := hq_30
                      subst hd36
                      subst hm36
                      have hY36 := pt_X_app hY26 hX36
                      refine lv_iload_n hx hb dX2_putNumber_26 rfl (lv_at hl 0 rfl) ?_
                      refine lv_bipush (v := iz 10) hx hb dX2_putNumber_27 (by decide) ?_
                      refine ki_idiv hx hb dX2_putNumber_29 (by omega) (by omega) (by omega) (by omega) ?_
                      refine ki_is (show iz (1 / 10) = iz 0 from rfl) ?_
                      refine lv_istore_n (lv' := [(2, .int (iz 0)), (0, .ref o), (1, .int (iz p0))]) hx hb dX2_putNumber_30 rfl hl (by decide) rfl (fun ls hl => ?_)
                      refine lv_goto (tgt := 4) hx hb dX2_putNumber_31 (by decide) ?_
                      refine lv_iload_n hx hb dX2_putNumber_4 rfl (lv_at hl 0 rfl) ?_
                      refine ki_if_le (tgt := 34) hx hb dX2_putNumber_5 (by decide) (by omega) (by omega) (fun c_37 => ?_) (fun c_37 => ?_)
                      · skip
                        exact xk_vret (ov := (fun _ : Int × Int × (Int → Int) => none)) (post := (fun (u : Int × Int × (Int → Int)) (dn dm : Nat) => match u with | (z', tl', F') => dn = 0 ∧ dm = 0 ∧ (0 ≤ z' ∧ z' ≤ (n : Int)) ∧ (tl' = 0 ∨ tl' = 1) ∧ iB F' ∧ pt_X F z tl (pt_l (pt_nu p0)) F' z' tl')) (ws := (fun u : Int × Int × (Int → Int) => match u with | (z', tl', F') => (pU cB o r n z' tl' F'))) (tys := xT cI cB cE) (z_33, tl_34, F_35) hx hb hr hlocks rfl hP hD hK hS dX2_putNumber_34 (fun dn dm hdn hdm => ⟨by omega, by omega, by omega, by omega, hF36, pt_X_eq hY36 (by first | (exfalso; omega) | (unfold pt_nu pt_l; (first | rw [if_pos (show 10000 ≤ p0 by omega)] | rw [if_neg (show ¬ 10000 ≤ p0 by omega)]) ; (first | rw [if_pos (show 1000 ≤ p0 by omega)] | rw [if_neg (show ¬ 1000 ≤ p0 by omega)]) ; (first | rw [if_pos (show 100 ≤ p0 by omega)] | rw [if_neg (show ¬ 100 ≤ p0 by omega)]) ; (first | rw [if_pos (show 10 ≤ p0 by omega)] | rw [if_neg (show ¬ 10 ≤ p0 by omega)]) ; (first | rw [if_pos (show 1 ≤ p0 by omega)] | rw [if_neg (show ¬ 1 ≤ p0 by omega)]); rfl))⟩) (by omega) (by omega)
                      · omega
            · skip
              refine lv_aload_n hx hb dX2_putNumber_13 rfl (lv_at hl 1 rfl) ?_
              refine lv_bipush (v := iz 48) hx hb dX2_putNumber_14 (by decide) ?_
              refine lv_iload_n hx hb dX2_putNumber_16 rfl (lv_at hl 2 rfl) ?_
              refine lv_iload_n hx hb dX2_putNumber_17 rfl (lv_at hl 0 rfl) ?_
              refine ki_idiv hx hb dX2_putNumber_18 (by omega) (by omega) (by omega) (by omega) ?_
              refine lv_bipush (v := iz 10) hx hb dX2_putNumber_19 (by decide) ?_
              refine ki_irem hx hb dX2_putNumber_21 (by omega) (by omega) (by omega) (by omega) ?_
              refine ki_iadd hx hb dX2_putNumber_22 ?_
              have hPc := hP.sub (ws' := (pU cB o r n z tl F)) [0, 1] rfl
              have hDc := hD.sub (ws' := (pU cB o r n z tl F)) [0, 1] (by decide) rfl
              have hFc := va_free (wc := (pU cB o r n z tl F)) hD hS hA [0, 1] rfl
              refine xk_call (va_runV (As := [.int (iz (48 + ((p0 / 100) % 10)))]) (rest := []) ⟨hx, hb, hml, hown, hts⟩ (x_put2 l dC dI cI cB cE o r n z tl F (48 + ((p0 / 100) % 10)) s.heap.size (by omega) (by omega) hF hn6 (by omega) (by omega)) (cwV 1 hts (kx_gV kq_15_xspan_14 kq_15_xspan_15 kq_15_xspan_16 kq_15_xspan_17 kq_15_xspan_18 rfl) rfl rfl rfl (by decide +kernel) ⟨Nat.le_of_ble_eq_true rfl, Nat.le_of_ble_eq_true rfl⟩) ⟨kx_blind, va_recv hK hPc (ci := 2) (q0 := 0) rfl rfl, kx_give (ws := []) (tys := []) hPc hDc hK hG hZ hS hFc⟩ rfl rfl hl.1 rfl (lv_room (Nat.le_of_ble_eq_true rfl)) dX2_putNumber_23 ⟨show 0 + 0 ≤ 0 from (by omega), show 0 + 0 ≤ 0 from (by omega)⟩) hS (fun q _ h => hFc q h) hFc (fun u dn_39 dm_40 t H locs ht hvm hq_38 hB hk1 hS => ?_)
              obtain ⟨z_41, tl_42, F_43⟩ := u
              obtain ⟨hP1, hK1, hD1⟩ := hB
              rw [ht] at hP1
              obtain ⟨hP, hD⟩ := xj (wr := []) (w1 := (pU cB o r n z_41 tl_42 F_43)) (ws' := (pU cB o r n z_41 tl_42 F_43)) hP hD [0, 1] [] [0, 1] rfl rfl (by decide) (by decide) hk1 hFc hP1 hD1 rfl (by decide)
              refine W.eq (g2 := F0 m 26 ls []) rfl ?_
              try dsimp only at hq_38
              obtain ⟨hd44, hm44, hz44, ht44, hF44, hX44⟩ := hq_38
              subst hd44
              subst hm44
              have hY44 := pt_X_app hX0 hX44
              refine lv_iload_n hx hb dX2_putNumber_26 rfl (lv_at hl 0 rfl) ?_
              refine lv_bipush (v := iz 10) hx hb dX2_putNumber_27 (by decide) ?_
              refine ki_idiv hx hb dX2_putNumber_29 (by omega) (by omega) (by omega) (by omega) ?_
              refine ki_is (show iz (100 / 10) = iz 10 from rfl) ?_
              refine lv_istore_n (lv' := [(2, .int (iz 10)), (0, .ref o), (1, .int (iz p0))]) hx hb dX2_putNumber_30 rfl hl (by decide) rfl (fun ls hl => ?_)
              refine lv_goto (tgt := 4) hx hb dX2_putNumber_31 (by decide) ?_
              refine lv_iload_n hx hb dX2_putNumber_4 rfl (lv_at hl 0 rfl) ?_
              refine ki_if_le (tgt := 34) hx hb dX2_putNumber_5 (by decide) (by omega) (by omega) (fun c_45 => ?_) (fun c_45 => ?_)
              · omega
              · skip
                refine lv_iload_n hx hb dX2_putNumber_8 rfl (lv_at hl 2 rfl) ?_
                refine lv_iload_n hx hb dX2_putNumber_9 rfl (lv_at hl 0 rfl) ?_
                refine ki_icmp_lt (tgt := 26) hx hb dX2_putNumber_10 (by decide) (by omega) (by omega) (by omega) (by omega) (fun c_46 => ?_) (fun c_46 => ?_)
                · skip
                  refine lv_iload_n hx hb dX2_putNumber_26 rfl (lv_at hl 0 rfl) ?_
                  refine lv_bipush (v := iz 10) hx hb dX2_putNumber_27 (by decide) ?_
                  refine ki_idiv hx hb dX2_putNumber_29 (by omega) (by omega) (by omega) (by omega) ?_
                  refine ki_is (show iz (10 / 10) = iz 1 from rfl) ?_
                  refine lv_istore_n (lv' := [(2, .int (iz 1)), (0, .ref o), (1, .int (iz p0))]) hx hb dX2_putNumber_30 rfl hl (by decide) rfl (fun ls hl => ?_)
                  refine lv_goto (tgt := 4) hx hb dX2_putNumber_31 (by decide) ?_
                  refine lv_iload_n hx hb dX2_putNumber_4 rfl (lv_at hl 0 rfl) ?_
                  refine ki_if_le (tgt := 34) hx hb dX2_putNumber_5 (by decide) (by omega) (by omega) (fun c_47 => ?_) (fun c_47 => ?_)
                  · omega
                  · skip
                    refine lv_iload_n hx hb dX2_putNumber_8 rfl (lv_at hl 2 rfl) ?_
                    refine lv_iload_n hx hb dX2_putNumber_9 rfl (lv_at hl 0 rfl) ?_
                    refine ki_icmp_lt (tgt := 26) hx hb dX2_putNumber_10 (by decide) (by omega) (by omega) (by omega) (by omega) (fun c_48 => ?_) (fun c_48 => ?_)
                    · skip
                      refine lv_iload_n hx hb dX2_putNumber_26 rfl (lv_at hl 0 rfl) ?_
                      refine lv_bipush (v := iz 10) hx hb dX2_putNumber_27 (by decide) ?_
                      refine ki_idiv hx hb dX2_putNumber_29 (by omega) (by omega) (by omega) (by omega) ?_
                      refine ki_is (show iz (1 / 10) = iz 0 from rfl) ?_
                      refine lv_istore_n (lv' := [(2, .int (iz 0)), (0, .ref o), (1, .int (iz p0))]) hx hb dX2_putNumber_30 rfl hl (by decide) rfl (fun ls hl => ?_)
                      refine lv_goto (tgt := 4) hx hb dX2_putNumber_31 (by decide) ?_
                      refine lv_iload_n hx hb dX2_putNumber_4 rfl (lv_at hl 0 rfl) ?_
                      refine ki_if_le (tgt := 34) hx hb dX2_putNumber_5 (by decide) (by omega) (by omega) (fun c_49 => ?_) (fun c_49 => ?_)
                      · skip
                        exact xk_vret (ov := (fun _ : Int × Int × (Int → Int) => none)) (post := (fun (u : Int × Int × (Int → Int)) (dn dm : Nat) => match u with | (z', tl', F') => dn = 0 ∧ dm = 0 ∧ (0 ≤ z' ∧ z' ≤ (n : Int)) ∧ (tl' = 0 ∨ tl' = 1) ∧ iB F' ∧ pt_X F z tl (pt_l (pt_nu p0)) F' z' tl')) (ws := (fun u : Int × Int × (Int → Int) => match u with | (z', tl', F') => (pU cB o r n z' tl' F'))) (tys := xT cI cB cE) (z_41, tl_42, F_43) hx hb hr hlocks rfl hP hD hK hS dX2_putNumber_34 (fun dn dm hdn hdm => ⟨by omega, by omega, by omega, by omega, hF44, pt_X_eq hY44 (by first | (exfalso; omega) | (unfold pt_nu pt_l; (first | rw [if_pos (show 10000 ≤ p0 by omega)] | rw [if_neg (show ¬ 10000 ≤ p0 by omega)]) ; (first | rw [if_pos (show 1000 ≤ p0 by omega)] | rw [if_neg (show ¬ 1000 ≤ p0 by omega)]) ; (first | rw [if_pos (show 100 ≤ p0 by omega)] | rw [if_neg (show ¬ 100 ≤ p0 by omega)]) ; (first | rw [if_pos (show 10 ≤ p0 by omega)] | rw [if_neg (show ¬ 10 ≤ p0 by omega)]) ; (first | rw [if_pos (show 1 ≤ p0 by omega)] | rw [if_neg (show ¬ 1 ≤ p0 by omega)]); rfl))⟩) (by omega) (by omega)
                      · omega
                    · skip
                      refine lv_aload_n hx hb dX2_putNumber_13 rfl (lv_at hl 1 rfl) ?_
                      refine lv_bipush (v := iz 48) hx hb dX2_putNumber_14 (by decide) ?_
                      refine lv_iload_n hx hb dX2_putNumber_16 rfl (lv_at hl 2 rfl) ?_
                      refine lv_iload_n hx hb dX2_putNumber_17 rfl (lv_at hl 0 rfl) ?_
                      refine ki_idiv hx hb dX2_putNumber_18 (by omega) (by omega) (by omega) (by omega) ?_
                      refine lv_bipush (v := iz 10) hx hb dX2_putNumber_19 (by decide) ?_
                      refine ki_irem hx hb dX2_putNumber_21 (by omega) (by omega) (by omega) (by omega) ?_
                      refine ki_iadd hx hb dX2_putNumber_22 ?_
                      have hPc := hP.sub (ws' := (pU cB o r n z_41 tl_42 F_43)) [0, 1] rfl
                      have hDc := hD.sub (ws' := (pU cB o r n z_41 tl_42 F_43)) [0, 1] (by decide) rfl
                      have hFc := va_free (wc := (pU cB o r n z_41 tl_42 F_43)) hD hS hA [0, 1] rfl
                      refine xk_call (va_runV (As := [.int (iz (48 + ((p0 / 1) % 10)))]) (rest := []) ⟨hx, hb, hml, hown, hts⟩ (x_put2 l dC dI cI cB cE o r n z_41 tl_42 F_43 (48 + ((p0 / 1) % 10)) H.size (by omega) (by omega) hF44 hn6 (by omega) (by omega)) (cwV 1 hts (kx_gV kq_15_xspan_14 kq_15_xspan_15 kq_15_xspan_16 kq_15_xspan_17 kq_15_xspan_18 rfl) rfl rfl rfl (by decide +kernel) ⟨Nat.le_of_ble_eq_true rfl, Nat.le_of_ble_eq_true rfl⟩) ⟨kx_blind, va_recv hK hPc (ci := 2) (q0 := 0) rfl rfl, kx_give (ws := []) (tys := []) hPc hDc hK hG hZ hS hFc⟩ rfl rfl hl.1 rfl (lv_room (Nat.le_of_ble_eq_true rfl)) dX2_putNumber_23 ⟨show (0 + 0) + 0 ≤ 0 from (by omega), show (0 + 0) + 0 ≤ 0 from (by omega)⟩) hS (fun q _ h => hFc q h) hFc (fun u dn_51 dm_52 t H locs ht hvm hq_50 hB hk1 hS => ?_)
                      obtain ⟨z_53, tl_54, F_55⟩ := u
                      obtain ⟨hP1, hK1, hD1⟩ := hB
                      rw [ht] at hP1
                      obtain ⟨hP, hD⟩ := xj (wr := []) (w1 := (pU cB o r n z_53 tl_54 F_55)) (ws' := (pU cB o r n z_53 tl_54 F_55)) hP hD [0, 1] [] [0, 1] rfl rfl (by decide) (by decide) hk1 hFc hP1 hD1 rfl (by decide)
                      refine W.eq (g2 := F0 m 26 ls []) rfl ?_
                      try dsimp only at hq_50
                      obtain ⟨hd56, hm56, hz56, ht56, hF56, hX56⟩ := hq_50
                      subst hd56
                      subst hm56
                      have hY56 := pt_X_app hY44 hX56
                      refine lv_iload_n hx hb dX2_putNumber_26 rfl (lv_at hl 0 rfl) ?_
                      refine lv_bipush (v := iz 10) hx hb dX2_putNumber_27 (by decide) ?_
                      refine ki_idiv hx hb dX2_putNumber_29 (by omega) (by omega) (by omega) (by omega) ?_
                      refine ki_is (show iz (1 / 10) = iz 0 from rfl) ?_
                      refine lv_istore_n (lv' := [(2, .int (iz 0)), (0, .ref o), (1, .int (iz p0))]) hx hb dX2_putNumber_30 rfl hl (by decide) rfl (fun ls hl => ?_)
                      refine lv_goto (tgt := 4) hx hb dX2_putNumber_31 (by decide) ?_
                      refine lv_iload_n hx hb dX2_putNumber_4 rfl (lv_at hl 0 rfl) ?_
                      refine ki_if_le (tgt := 34) hx hb dX2_putNumber_5 (by decide) (by omega) (by omega) (fun c_57 => ?_) (fun c_57 => ?_)
                      · skip
                        exact xk_vret (ov := (fun _ : Int × Int × (Int → Int) => none)) (post := (fun (u : Int × Int × (Int → Int)) (dn dm : Nat) => match u with | (z', tl', F') => dn = 0 ∧ dm = 0 ∧ (0 ≤ z' ∧ z' ≤ (n : Int)) ∧ (tl' = 0 ∨ tl' = 1) ∧ iB F' ∧ pt_X F z tl (pt_l (pt_nu p0)) F' z' tl')) (ws := (fun u : Int × Int × (Int → Int) => match u with | (z', tl', F') => (pU cB o r n z' tl' F'))) (tys := xT cI cB cE) (z_53, tl_54, F_55) hx hb hr hlocks rfl hP hD hK hS dX2_putNumber_34 (fun dn dm hdn hdm => ⟨by omega, by omega, by omega, by omega, hF56, pt_X_eq hY56 (by first | (exfalso; omega) | (unfold pt_nu pt_l; (first | rw [if_pos (show 10000 ≤ p0 by omega)] | rw [if_neg (show ¬ 10000 ≤ p0 by omega)]) ; (first | rw [if_pos (show 1000 ≤ p0 by omega)] | rw [if_neg (show ¬ 1000 ≤ p0 by omega)]) ; (first | rw [if_pos (show 100 ≤ p0 by omega)] | rw [if_neg (show ¬ 100 ≤ p0 by omega)]) ; (first | rw [if_pos (show 10 ≤ p0 by omega)] | rw [if_neg (show ¬ 10 ≤ p0 by omega)]) ; (first | rw [if_pos (show 1 ≤ p0 by omega)] | rw [if_neg (show ¬ 1 ≤ p0 by omega)]); rfl))⟩) (by omega) (by omega)
                      · omega
                · skip
                  refine lv_aload_n hx hb dX2_putNumber_13 rfl (lv_at hl 1 rfl) ?_
                  refine lv_bipush (v := iz 48) hx hb dX2_putNumber_14 (by decide) ?_
                  refine lv_iload_n hx hb dX2_putNumber_16 rfl (lv_at hl 2 rfl) ?_
                  refine lv_iload_n hx hb dX2_putNumber_17 rfl (lv_at hl 0 rfl) ?_
                  refine ki_idiv hx hb dX2_putNumber_18 (by omega) (by omega) (by omega) (by omega) ?_
                  refine lv_bipush (v := iz 10) hx hb dX2_putNumber_19 (by decide) ?_
                  refine ki_irem hx hb dX2_putNumber_21 (by omega) (by omega) (by omega) (by omega) ?_
                  refine ki_iadd hx hb dX2_putNumber_22 ?_
                  have hPc := hP.sub (ws' := (pU cB o r n z_41 tl_42 F_43)) [0, 1] rfl
                  have hDc := hD.sub (ws' := (pU cB o r n z_41 tl_42 F_43)) [0, 1] (by decide) rfl
                  have hFc := va_free (wc := (pU cB o r n z_41 tl_42 F_43)) hD hS hA [0, 1] rfl
                  refine xk_call (va_runV (As := [.int (iz (48 + ((p0 / 10) % 10)))]) (rest := []) ⟨hx, hb, hml, hown, hts⟩ (x_put2 l dC dI cI cB cE o r n z_41 tl_42 F_43 (48 + ((p0 / 10) % 10)) H.size (by omega) (by omega) hF44 hn6 (by omega) (by omega)) (cwV 1 hts (kx_gV kq_15_xspan_14 kq_15_xspan_15 kq_15_xspan_16 kq_15_xspan_17 kq_15_xspan_18 rfl) rfl rfl rfl (by decide +kernel) ⟨Nat.le_of_ble_eq_true rfl, Nat.le_of_ble_eq_true rfl⟩) ⟨kx_blind, va_recv hK hPc (ci := 2) (q0 := 0) rfl rfl, kx_give (ws := []) (tys := []) hPc hDc hK hG hZ hS hFc⟩ rfl rfl hl.1 rfl (lv_room (Nat.le_of_ble_eq_true rfl)) dX2_putNumber_23 ⟨show (0 + 0) + 0 ≤ 0 from (by omega), show (0 + 0) + 0 ≤ 0 from (by omega)⟩) hS (fun q _ h => hFc q h) hFc (fun u dn_59 dm_60 t H locs ht hvm hq_58 hB hk1 hS => ?_)
                  obtain ⟨z_61, tl_62, F_63⟩ := u
                  obtain ⟨hP1, hK1, hD1⟩ := hB
                  rw [ht] at hP1
                  obtain ⟨hP, hD⟩ := xj (wr := []) (w1 := (pU cB o r n z_61 tl_62 F_63)) (ws' := (pU cB o r n z_61 tl_62 F_63)) hP hD [0, 1] [] [0, 1] rfl rfl (by decide) (by decide) hk1 hFc hP1 hD1 rfl (by decide)
                  refine W.eq (g2 := F0 m 26 ls []) rfl ?_
                  try dsimp only at hq_58
                  obtain ⟨hd64, hm64, hz64, ht64, hF64, hX64⟩ := hq_58
                  subst hd64
                  subst hm64
                  have hY64 := pt_X_app hY44 hX64
                  refine lv_iload_n hx hb dX2_putNumber_26 rfl (lv_at hl 0 rfl) ?_
                  refine lv_bipush (v := iz 10) hx hb dX2_putNumber_27 (by decide) ?_
                  refine ki_idiv hx hb dX2_putNumber_29 (by omega) (by omega) (by omega) (by omega) ?_
                  refine ki_is (show iz (10 / 10) = iz 1 from rfl) ?_
                  refine lv_istore_n (lv' := [(2, .int (iz 1)), (0, .ref o), (1, .int (iz p0))]) hx hb dX2_putNumber_30 rfl hl (by decide) rfl (fun ls hl => ?_)
                  refine lv_goto (tgt := 4) hx hb dX2_putNumber_31 (by decide) ?_
                  refine lv_iload_n hx hb dX2_putNumber_4 rfl (lv_at hl 0 rfl) ?_
                  refine ki_if_le (tgt := 34) hx hb dX2_putNumber_5 (by decide) (by omega) (by omega) (fun c_65 => ?_) (fun c_65 => ?_)
                  · omega
                  · skip
                    refine lv_iload_n hx hb dX2_putNumber_8 rfl (lv_at hl 2 rfl) ?_
                    refine lv_iload_n hx hb dX2_putNumber_9 rfl (lv_at hl 0 rfl) ?_
                    refine ki_icmp_lt (tgt := 26) hx hb dX2_putNumber_10 (by decide) (by omega) (by omega) (by omega) (by omega) (fun c_66 => ?_) (fun c_66 => ?_)
                    · skip
                      refine lv_iload_n hx hb dX2_putNumber_26 rfl (lv_at hl 0 rfl) ?_
                      refine lv_bipush (v := iz 10) hx hb dX2_putNumber_27 (by decide) ?_
                      refine ki_idiv hx hb dX2_putNumber_29 (by omega) (by omega) (by omega) (by omega) ?_
                      refine ki_is (show iz (1 / 10) = iz 0 from rfl) ?_
                      refine lv_istore_n (lv' := [(2, .int (iz 0)), (0, .ref o), (1, .int (iz p0))]) hx hb dX2_putNumber_30 rfl hl (by decide) rfl (fun ls hl => ?_)
                      refine lv_goto (tgt := 4) hx hb dX2_putNumber_31 (by decide) ?_
                      refine lv_iload_n hx hb dX2_putNumber_4 rfl (lv_at hl 0 rfl) ?_
                      refine ki_if_le (tgt := 34) hx hb dX2_putNumber_5 (by decide) (by omega) (by omega) (fun c_67 => ?_) (fun c_67 => ?_)
                      · skip
                        exact xk_vret (ov := (fun _ : Int × Int × (Int → Int) => none)) (post := (fun (u : Int × Int × (Int → Int)) (dn dm : Nat) => match u with | (z', tl', F') => dn = 0 ∧ dm = 0 ∧ (0 ≤ z' ∧ z' ≤ (n : Int)) ∧ (tl' = 0 ∨ tl' = 1) ∧ iB F' ∧ pt_X F z tl (pt_l (pt_nu p0)) F' z' tl')) (ws := (fun u : Int × Int × (Int → Int) => match u with | (z', tl', F') => (pU cB o r n z' tl' F'))) (tys := xT cI cB cE) (z_61, tl_62, F_63) hx hb hr hlocks rfl hP hD hK hS dX2_putNumber_34 (fun dn dm hdn hdm => ⟨by omega, by omega, by omega, by omega, hF64, pt_X_eq hY64 (by first | (exfalso; omega) | (unfold pt_nu pt_l; (first | rw [if_pos (show 10000 ≤ p0 by omega)] | rw [if_neg (show ¬ 10000 ≤ p0 by omega)]) ; (first | rw [if_pos (show 1000 ≤ p0 by omega)] | rw [if_neg (show ¬ 1000 ≤ p0 by omega)]) ; (first | rw [if_pos (show 100 ≤ p0 by omega)] | rw [if_neg (show ¬ 100 ≤ p0 by omega)]) ; (first | rw [if_pos (show 10 ≤ p0 by omega)] | rw [if_neg (show ¬ 10 ≤ p0 by omega)]) ; (first | rw [if_pos (show 1 ≤ p0 by omega)] | rw [if_neg (show ¬ 1 ≤ p0 by omega)]); rfl))⟩) (by omega) (by omega)
                      · omega
                    · skip
                      refine lv_aload_n hx hb dX2_putNumber_13 rfl (lv_at hl 1 rfl) ?_
                      refine lv_bipush (v := iz 48) hx hb dX2_putNumber_14 (by decide) ?_
                      refine lv_iload_n hx hb dX2_putNumber_16 rfl (lv_at hl 2 rfl) ?_
                      refine lv_iload_n hx hb dX2_putNumber_17 rfl (lv_at hl 0 rfl) ?_
                      refine ki_idiv hx hb dX2_putNumber_18 (by omega) (by omega) (by omega) (by omega) ?_
                      refine lv_bipush (v := iz 10) hx hb dX2_putNumber_19 (by decide) ?_
                      refine ki_irem hx hb dX2_putNumber_21 (by omega) (by omega) (by omega) (by omega) ?_
                      refine ki_iadd hx hb dX2_putNumber_22 ?_
                      have hPc := hP.sub (ws' := (pU cB o r n z_61 tl_62 F_63)) [0, 1] rfl
                      have hDc := hD.sub (ws' := (pU cB o r n z_61 tl_62 F_63)) [0, 1] (by decide) rfl
                      have hFc := va_free (wc := (pU cB o r n z_61 tl_62 F_63)) hD hS hA [0, 1] rfl
                      refine xk_call (va_runV (As := [.int (iz (48 + ((p0 / 1) % 10)))]) (rest := []) ⟨hx, hb, hml, hown, hts⟩ (x_put2 l dC dI cI cB cE o r n z_61 tl_62 F_63 (48 + ((p0 / 1) % 10)) H.size (by omega) (by omega) hF64 hn6 (by omega) (by omega)) (cwV 1 hts (kx_gV kq_15_xspan_14 kq_15_xspan_15 kq_15_xspan_16 kq_15_xspan_17 kq_15_xspan_18 rfl) rfl rfl rfl (by decide +kernel) ⟨Nat.le_of_ble_eq_true rfl, Nat.le_of_ble_eq_true rfl⟩) ⟨kx_blind, va_recv hK hPc (ci := 2) (q0 := 0) rfl rfl, kx_give (ws := []) (tys := []) hPc hDc hK hG hZ hS hFc⟩ rfl rfl hl.1 rfl (lv_room (Nat.le_of_ble_eq_true rfl)) dX2_putNumber_23 ⟨show ((0 + 0) + 0) + 0 ≤ 0 from (by omega), show ((0 + 0) + 0) + 0 ≤ 0 from (by omega)⟩) hS (fun q _ h => hFc q h) hFc (fun u dn_69 dm_70 t H locs ht hvm hq_68 hB hk1 hS => ?_)
                      obtain ⟨z_71, tl_72, F_73⟩ := u
                      obtain ⟨hP1, hK1, hD1⟩ := hB
                      rw [ht] at hP1
                      obtain ⟨hP, hD⟩ := xj (wr := []) (w1 := (pU cB o r n z_71 tl_72 F_73)) (ws' := (pU cB o r n z_71 tl_72 F_73)) hP hD [0, 1] [] [0, 1] rfl rfl (by decide) (by decide) hk1 hFc hP1 hD1 rfl (by decide)
                      refine W.eq (g2 := F0 m 26 ls []) rfl ?_
                      try dsimp only at hq_68
                      obtain ⟨hd74, hm74, hz74, ht74, hF74, hX74⟩ := hq_68
                      subst hd74
                      subst hm74
                      have hY74 := pt_X_app hY64 hX74
                      refine lv_iload_n hx hb dX2_putNumber_26 rfl (lv_at hl 0 rfl) ?_
                      refine lv_bipush (v := iz 10) hx hb dX2_putNumber_27 (by decide) ?_
                      refine ki_idiv hx hb dX2_putNumber_29 (by omega) (by omega) (by omega) (by omega) ?_
                      refine ki_is (show iz (1 / 10) = iz 0 from rfl) ?_
                      refine lv_istore_n (lv' := [(2, .int (iz 0)), (0, .ref o), (1, .int (iz p0))]) hx hb dX2_putNumber_30 rfl hl (by decide) rfl (fun ls hl => ?_)
                      refine lv_goto (tgt := 4) hx hb dX2_putNumber_31 (by decide) ?_
                      refine lv_iload_n hx hb dX2_putNumber_4 rfl (lv_at hl 0 rfl) ?_
                      refine ki_if_le (tgt := 34) hx hb dX2_putNumber_5 (by decide) (by omega) (by omega) (fun c_75 => ?_) (fun c_75 => ?_)
                      · skip
                        exact xk_vret (ov := (fun _ : Int × Int × (Int → Int) => none)) (post := (fun (u : Int × Int × (Int → Int)) (dn dm : Nat) => match u with | (z', tl', F') => dn = 0 ∧ dm = 0 ∧ (0 ≤ z' ∧ z' ≤ (n : Int)) ∧ (tl' = 0 ∨ tl' = 1) ∧ iB F' ∧ pt_X F z tl (pt_l (pt_nu p0)) F' z' tl')) (ws := (fun u : Int × Int × (Int → Int) => match u with | (z', tl', F') => (pU cB o r n z' tl' F'))) (tys := xT cI cB cE) (z_71, tl_72, F_73) hx hb hr hlocks rfl hP hD hK hS dX2_putNumber_34 (fun dn dm hdn hdm => ⟨by omega, by omega, by omega, by omega, hF74, pt_X_eq hY74 (by first | (exfalso; omega) | (unfold pt_nu pt_l; (first | rw [if_pos (show 10000 ≤ p0 by omega)] | rw [if_neg (show ¬ 10000 ≤ p0 by omega)]) ; (first | rw [if_pos (show 1000 ≤ p0 by omega)] | rw [if_neg (show ¬ 1000 ≤ p0 by omega)]) ; (first | rw [if_pos (show 100 ≤ p0 by omega)] | rw [if_neg (show ¬ 100 ≤ p0 by omega)]) ; (first | rw [if_pos (show 10 ≤ p0 by omega)] | rw [if_neg (show ¬ 10 ≤ p0 by omega)]) ; (first | rw [if_pos (show 1 ≤ p0 by omega)] | rw [if_neg (show ¬ 1 ≤ p0 by omega)]); rfl))⟩) (by omega) (by omega)
                      · omega
        · skip
          refine lv_aload_n hx hb dX2_putNumber_13 rfl (lv_at hl 1 rfl) ?_
          refine lv_bipush (v := iz 48) hx hb dX2_putNumber_14 (by decide) ?_
          refine lv_iload_n hx hb dX2_putNumber_16 rfl (lv_at hl 2 rfl) ?_
          refine lv_iload_n hx hb dX2_putNumber_17 rfl (lv_at hl 0 rfl) ?_
          refine ki_idiv hx hb dX2_putNumber_18 (by omega) (by omega) (by omega) (by omega) ?_
          refine lv_bipush (v := iz 10) hx hb dX2_putNumber_19 (by decide) ?_
          refine ki_irem hx hb dX2_putNumber_21 (by omega) (by omega) (by omega) (by omega) ?_
          refine ki_iadd hx hb dX2_putNumber_22 ?_
          have hPc := hP.sub (ws' := (pU cB o r n z tl F)) [0, 1] rfl
          have hDc := hD.sub (ws' := (pU cB o r n z tl F)) [0, 1] (by decide) rfl
          have hFc := va_free (wc := (pU cB o r n z tl F)) hD hS hA [0, 1] rfl
          refine xk_call (va_runV (As := [.int (iz (48 + ((p0 / 1000) % 10)))]) (rest := []) ⟨hx, hb, hml, hown, hts⟩ (x_put2 l dC dI cI cB cE o r n z tl F (48 + ((p0 / 1000) % 10)) s.heap.size (by omega) (by omega) hF hn6 (by omega) (by omega)) (cwV 1 hts (kx_gV kq_15_xspan_14 kq_15_xspan_15 kq_15_xspan_16 kq_15_xspan_17 kq_15_xspan_18 rfl) rfl rfl rfl (by decide +kernel) ⟨Nat.le_of_ble_eq_true rfl, Nat.le_of_ble_eq_true rfl⟩) ⟨kx_blind, va_recv hK hPc (ci := 2) (q0 := 0) rfl rfl, kx_give (ws := []) (tys := []) hPc hDc hK hG hZ hS hFc⟩ rfl rfl hl.1 rfl (lv_room (Nat.le_of_ble_eq_true rfl)) dX2_putNumber_23 ⟨show 0 + 0 ≤ 0 from (by omega), show 0 + 0 ≤ 0 from (by omega)⟩) hS (fun q _ h => hFc q h) hFc (fun u dn_77 dm_78 t H locs ht hvm hq_76 hB hk1 hS => ?_)
          obtain ⟨z_79, tl_80, F_81⟩ := u
          obtain ⟨hP1, hK1, hD1⟩ := hB
          rw [ht] at hP1
          obtain ⟨hP, hD⟩ := xj (wr := []) (w1 := (pU cB o r n z_79 tl_80 F_81)) (ws' := (pU cB o r n z_79 tl_80 F_81)) hP hD [0, 1] [] [0, 1] rfl rfl (by decide) (by decide) hk1 hFc hP1 hD1 rfl (by decide)
          refine W.eq (g2 := F0 m 26 ls []) rfl ?_
          try dsimp only at hq_76
          obtain ⟨hd82, hm82, hz82, ht82, hF82, hX82⟩ := hq_76
          subst hd82
          subst hm82
          have hY82 := pt_X_app hX0 hX82
          refine lv_iload_n hx hb dX2_putNumber_26 rfl (lv_at hl 0 rfl) ?_
          refine lv_bipush (v := iz 10) hx hb dX2_putNumber_27 (by decide) ?_
          refine ki_idiv hx hb dX2_putNumber_29 (by omega) (by omega) (by omega) (by omega) ?_
          refine ki_is (show iz (1000 / 10) = iz 100 from rfl) ?_
          refine lv_istore_n (lv' := [(2, .int (iz 100)), (0, .ref o), (1, .int (iz p0))]) hx hb dX2_putNumber_30 rfl hl (by decide) rfl (fun ls hl => ?_)
          refine lv_goto (tgt := 4) hx hb dX2_putNumber_31 (by decide) ?_
          refine lv_iload_n hx hb dX2_putNumber_4 rfl (lv_at hl 0 rfl) ?_
          refine ki_if_le (tgt := 34) hx hb dX2_putNumber_5 (by decide) (by omega) (by omega) (fun c_83 => ?_) (fun c_83 => ?_)
          · omega
          · skip
            refine lv_iload_n hx hb dX2_putNumber_8 rfl (lv_at hl 2 rfl) ?_
            refine lv_iload_n hx hb dX2_putNumber_9 rfl (lv_at hl 0 rfl) ?_
            refine ki_icmp_lt (tgt := 26) hx hb dX2_putNumber_10 (by decide) (by omega) (by omega) (by omega) (by omega) (fun c_84 => ?_) (fun c_84 => ?_)
            · skip
              refine lv_iload_n hx hb dX2_putNumber_26 rfl (lv_at hl 0 rfl) ?_
              refine lv_bipush (v := iz 10) hx hb dX2_putNumber_27 (by decide) ?_
              refine ki_idiv hx hb dX2_putNumber_29 (by omega) (by omega) (by omega) (by omega) ?_
              refine ki_is (show iz (100 / 10) = iz 10 from rfl) ?_
              refine lv_istore_n (lv' := [(2, .int (iz 10)), (0, .ref o), (1, .int (iz p0))]) hx hb dX2_putNumber_30 rfl hl (by decide) rfl (fun ls hl => ?_)
              refine lv_goto (tgt := 4) hx hb dX2_putNumber_31 (by decide) ?_
              refine lv_iload_n hx hb dX2_putNumber_4 rfl (lv_at hl 0 rfl) ?_
              refine ki_if_le (tgt := 34) hx hb dX2_putNumber_5 (by decide) (by omega) (by omega) (fun c_85 => ?_) (fun c_85 => ?_)
              · omega
              · skip
                refine lv_iload_n hx hb dX2_putNumber_8 rfl (lv_at hl 2 rfl) ?_
                refine lv_iload_n hx hb dX2_putNumber_9 rfl (lv_at hl 0 rfl) ?_
                refine ki_icmp_lt (tgt := 26) hx hb dX2_putNumber_10 (by decide) (by omega) (by omega) (by omega) (by omega) (fun c_86 => ?_) (fun c_86 => ?_)
                · skip
                  refine lv_iload_n hx hb dX2_putNumber_26 rfl (lv_at hl 0 rfl) ?_
                  refine lv_bipush (v := iz 10) hx hb dX2_putNumber_27 (by decide) ?_
                  refine ki_idiv hx hb dX2_putNumber_29 (by omega) (by omega) (by omega) (by omega) ?_
                  refine ki_is (show iz (10 / 10) = iz 1 from rfl) ?_
                  refine lv_istore_n (lv' := [(2, .int (iz 1)), (0, .ref o), (1, .int (iz p0))]) hx hb dX2_putNumber_30 rfl hl (by decide) rfl (fun ls hl => ?_)
                  refine lv_goto (tgt := 4) hx hb dX2_putNumber_31 (by decide) ?_
                  refine lv_iload_n hx hb dX2_putNumber_4 rfl (lv_at hl 0 rfl) ?_
                  refine ki_if_le (tgt := 34) hx hb dX2_putNumber_5 (by decide) (by omega) (by omega) (fun c_87 => ?_) (fun c_87 => ?_)
                  · omega
                  · skip
                    refine lv_iload_n hx hb dX2_putNumber_8 rfl (lv_at hl 2 rfl) ?_
                    refine lv_iload_n hx hb dX2_putNumber_9 rfl (lv_at hl 0 rfl) ?_
                    refine ki_icmp_lt (tgt := 26) hx hb dX2_putNumber_10 (by decide) (by omega) (by omega) (by omega) (by omega) (fun c_88 => ?_) (fun c_88 => ?_)
                    · skip
                      refine lv_iload_n hx hb dX2_putNumber_26 rfl (lv_at hl 0 rfl) ?_
                      refine lv_bipush (v := iz 10) hx hb dX2_putNumber_27 (by decide) ?_
                      refine ki_idiv hx hb dX2_putNumber_29 (by omega) (by omega) (by omega) (by omega) ?_
                      refine ki_is (show iz (1 / 10) = iz 0 from rfl) ?_
                      refine lv_istore_n (lv' := [(2, .int (iz 0)), (0, .ref o), (1, .int (iz p0))]) hx hb dX2_putNumber_30 rfl hl (by decide) rfl (fun ls hl => ?_)
                      refine lv_goto (tgt := 4) hx hb dX2_putNumber_31 (by decide) ?_
                      refine lv_iload_n hx hb dX2_putNumber_4 rfl (lv_at hl 0 rfl) ?_
                      refine ki_if_le (tgt := 34) hx hb dX2_putNumber_5 (by decide) (by omega) (by omega) (fun c_89 => ?_) (fun c_89 => ?_)
                      · skip
                        exact xk_vret (ov := (fun _ : Int × Int × (Int → Int) => none)) (post := (fun (u : Int × Int × (Int → Int)) (dn dm : Nat) => match u with | (z', tl', F') => dn = 0 ∧ dm = 0 ∧ (0 ≤ z' ∧ z' ≤ (n : Int)) ∧ (tl' = 0 ∨ tl' = 1) ∧ iB F' ∧ pt_X F z tl (pt_l (pt_nu p0)) F' z' tl')) (ws := (fun u : Int × Int × (Int → Int) => match u with | (z', tl', F') => (pU cB o r n z' tl' F'))) (tys := xT cI cB cE) (z_79, tl_80, F_81) hx hb hr hlocks rfl hP hD hK hS dX2_putNumber_34 (fun dn dm hdn hdm => ⟨by omega, by omega, by omega, by omega, hF82, pt_X_eq hY82 (by first | (exfalso; omega) | (unfold pt_nu pt_l; (first | rw [if_pos (show 10000 ≤ p0 by omega)] | rw [if_neg (show ¬ 10000 ≤ p0 by omega)]) ; (first | rw [if_pos (show 1000 ≤ p0 by omega)] | rw [if_neg (show ¬ 1000 ≤ p0 by omega)]) ; (first | rw [if_pos (show 100 ≤ p0 by omega)] | rw [if_neg (show ¬ 100 ≤ p0 by omega)]) ; (first | rw [if_pos (show 10 ≤ p0 by omega)] | rw [if_neg (show ¬ 10 ≤ p0 by omega)]) ; (first | rw [if_pos (show 1 ≤ p0 by omega)] | rw [if_neg (show ¬ 1 ≤ p0 by omega)]); rfl))⟩) (by omega) (by omega)
                      · omega
                    · skip
                      refine lv_aload_n hx hb dX2_putNumber_13 rfl (lv_at hl 1 rfl) ?_
                      refine lv_bipush (v := iz 48) hx hb dX2_putNumber_14 (by decide) ?_
                      refine lv_iload_n hx hb dX2_putNumber_16 rfl (lv_at hl 2 rfl) ?_
                      refine lv_iload_n hx hb dX2_putNumber_17 rfl (lv_at hl 0 rfl) ?_
                      refine ki_idiv hx hb dX2_putNumber_18 (by omega) (by omega) (by omega) (by omega) ?_
                      refine lv_bipush (v := iz 10) hx hb dX2_putNumber_19 (by decide) ?_
                      refine ki_irem hx hb dX2_putNumber_21 (by omega) (by omega) (by omega) (by omega) ?_
                      refine ki_iadd hx hb dX2_putNumber_22 ?_
                      have hPc := hP.sub (ws' := (pU cB o r n z_79 tl_80 F_81)) [0, 1] rfl
                      have hDc := hD.sub (ws' := (pU cB o r n z_79 tl_80 F_81)) [0, 1] (by decide) rfl
                      have hFc := va_free (wc := (pU cB o r n z_79 tl_80 F_81)) hD hS hA [0, 1] rfl
                      refine xk_call (va_runV (As := [.int (iz (48 + ((p0 / 1) % 10)))]) (rest := []) ⟨hx, hb, hml, hown, hts⟩ (x_put2 l dC dI cI cB cE o r n z_79 tl_80 F_81 (48 + ((p0 / 1) % 10)) H.size (by omega) (by omega) hF82 hn6 (by omega) (by omega)) (cwV 1 hts (kx_gV kq_15_xspan_14 kq_15_xspan_15 kq_15_xspan_16 kq_15_xspan_17 kq_15_xspan_18 rfl) rfl rfl rfl (by decide +kernel) ⟨Nat.le_of_ble_eq_true rfl, Nat.le_of_ble_eq_true rfl⟩) ⟨kx_blind, va_recv hK hPc (ci := 2) (q0 := 0) rfl rfl, kx_give (ws := []) (tys := []) hPc hDc hK hG hZ hS hFc⟩ rfl rfl hl.1 rfl (lv_room (Nat.le_of_ble_eq_true rfl)) dX2_putNumber_23 ⟨show (0 + 0) + 0 ≤ 0 from (by omega), show (0 + 0) + 0 ≤ 0 from (by omega)⟩) hS (fun q _ h => hFc q h) hFc (fun u dn_91 dm_92 t H locs ht hvm hq_90 hB hk1 hS => ?_)
                      obtain ⟨z_93, tl_94, F_95⟩ := u
                      obtain ⟨hP1, hK1, hD1⟩ := hB
                      rw [ht] at hP1
                      obtain ⟨hP, hD⟩ := xj (wr := []) (w1 := (pU cB o r n z_93 tl_94 F_95)) (ws' := (pU cB o r n z_93 tl_94 F_95)) hP hD [0, 1] [] [0, 1] rfl rfl (by decide) (by decide) hk1 hFc hP1 hD1 rfl (by decide)
                      refine W.eq (g2 := F0 m 26 ls []) rfl ?_
                      try dsimp only at hq_90
                      obtain ⟨hd96, hm96, hz96, ht96, hF96, hX96⟩ := hq_90
                      subst hd96
                      subst hm96
                      have hY96 := pt_X_app hY82 hX96
                      refine lv_iload_n hx hb dX2_putNumber_26 rfl (lv_at hl 0 rfl) ?_
                      refine lv_bipush (v := iz 10) hx hb dX2_putNumber_27 (by decide) ?_
                      refine ki_idiv hx hb dX2_putNumber_29 (by omega) (by omega) (by omega) (by omega) ?_
                      refine ki_is (show iz (1 / 10) = iz 0 from rfl) ?_
                      refine lv_istore_n (lv' := [(2, .int (iz 0)), (0, .ref o), (1, .int (iz p0))]) hx hb dX2_putNumber_30 rfl hl (by decide) rfl (fun ls hl => ?_)
                      refine lv_goto (tgt := 4) hx hb dX2_putNumber_31 (by decide) ?_
                      refine lv_iload_n hx hb dX2_putNumber_4 rfl (lv_at hl 0 rfl) ?_
                      refine ki_if_le (tgt := 34) hx hb dX2_putNumber_5 (by decide) (by omega) (by omega) (fun c_97 => ?_) (fun c_97 => ?_)
                      · skip
                        exact xk_vret (ov := (fun _ : Int × Int × (Int → Int) => none)) (post := (fun (u : Int × Int × (Int → Int)) (dn dm : Nat) => match u with | (z', tl', F') => dn = 0 ∧ dm = 0 ∧ (0 ≤ z' ∧ z' ≤ (n : Int)) ∧ (tl' = 0 ∨ tl' = 1) ∧ iB F' ∧ pt_X F z tl (pt_l (pt_nu p0)) F' z' tl')) (ws := (fun u : Int × Int × (Int → Int) => match u with | (z', tl', F') => (pU cB o r n z' tl' F'))) (tys := xT cI cB cE) (z_93, tl_94, F_95) hx hb hr hlocks rfl hP hD hK hS dX2_putNumber_34 (fun dn dm hdn hdm => ⟨by omega, by omega, by omega, by omega, hF96, pt_X_eq hY96 (by first | (exfalso; omega) | (unfold pt_nu pt_l; (first | rw [if_pos (show 10000 ≤ p0 by omega)] | rw [if_neg (show ¬ 10000 ≤ p0 by omega)]) ; (first | rw [if_pos (show 1000 ≤ p0 by omega)] | rw [if_neg (show ¬ 1000 ≤ p0 by omega)]) ; (first | rw [if_pos (show 100 ≤ p0 by omega)] | rw [if_neg (show ¬ 100 ≤ p0 by omega)]) ; (first | rw [if_pos (show 10 ≤ p0 by omega)] | rw [if_neg (show ¬ 10 ≤ p0 by omega)]) ; (first | rw [if_pos (show 1 ≤ p0 by omega)] | rw [if_neg (show ¬ 1 ≤ p0 by omega)]); rfl))⟩) (by omega) (by omega)
                      · omega
                · skip
                  refine lv_aload_n hx hb dX2_putNumber_13 rfl (lv_at hl 1 rfl) ?_
                  refine lv_bipush (v := iz 48) hx hb dX2_putNumber_14 (by decide) ?_
                  refine lv_iload_n hx hb dX2_putNumber_16 rfl (lv_at hl 2 rfl) ?_
                  refine lv_iload_n hx hb dX2_putNumber_17 rfl (lv_at hl 0 rfl) ?_
                  refine ki_idiv hx hb dX2_putNumber_18 (by omega) (by omega) (by omega) (by omega) ?_
                  refine lv_bipush (v := iz 10) hx hb dX2_putNumber_19 (by decide) ?_
                  refine ki_irem hx hb dX2_putNumber_21 (by omega) (by omega) (by omega) (by omega) ?_
                  refine ki_iadd hx hb dX2_putNumber_22 ?_
                  have hPc := hP.sub (ws' := (pU cB o r n z_79 tl_80 F_81)) [0, 1] rfl
                  have hDc := hD.sub (ws' := (pU cB o r n z_79 tl_80 F_81)) [0, 1] (by decide) rfl
                  have hFc := va_free (wc := (pU cB o r n z_79 tl_80 F_81)) hD hS hA [0, 1] rfl
                  refine xk_call (va_runV (As := [.int (iz (48 + ((p0 / 10) % 10)))]) (rest := []) ⟨hx, hb, hml, hown, hts⟩ (x_put2 l dC dI cI cB cE o r n z_79 tl_80 F_81 (48 + ((p0 / 10) % 10)) H.size (by omega) (by omega) hF82 hn6 (by omega) (by omega)) (cwV 1 hts (kx_gV kq_15_xspan_14 kq_15_xspan_15 kq_15_xspan_16 kq_15_xspan_17 kq_15_xspan_18 rfl) rfl rfl rfl (by decide +kernel) ⟨Nat.le_of_ble_eq_true rfl, Nat.le_of_ble_eq_true rfl⟩) ⟨kx_blind, va_recv hK hPc (ci := 2) (q0 := 0) rfl rfl, kx_give (ws := []) (tys := []) hPc hDc hK hG hZ hS hFc⟩ rfl rfl hl.1 rfl (lv_room (Nat.le_of_ble_eq_true rfl)) dX2_putNumber_23 ⟨show (0 + 0) + 0 ≤ 0 from (by omega), show (0 + 0) + 0 ≤ 0 from (by omega)⟩) hS (fun q _ h => hFc q h) hFc (fun u dn_99 dm_100 t H locs ht hvm hq_98 hB hk1 hS => ?_)
                  obtain ⟨z_101, tl_102, F_103⟩ := u
                  obtain ⟨hP1, hK1, hD1⟩ := hB
                  rw [ht] at hP1
                  obtain ⟨hP, hD⟩ := xj (wr := []) (w1 := (pU cB o r n z_101 tl_102 F_103)) (ws' := (pU cB o r n z_101 tl_102 F_103)) hP hD [0, 1] [] [0, 1] rfl rfl (by decide) (by decide) hk1 hFc hP1 hD1 rfl (by decide)
                  refine W.eq (g2 := F0 m 26 ls []) rfl ?_
                  try dsimp only at hq_98
                  obtain ⟨hd104, hm104, hz104, ht104, hF104, hX104⟩ := hq_98
                  subst hd104
                  subst hm104
                  have hY104 := pt_X_app hY82 hX104
                  refine lv_iload_n hx hb dX2_putNumber_26 rfl (lv_at hl 0 rfl) ?_
                  refine lv_bipush (v := iz 10) hx hb dX2_putNumber_27 (by decide) ?_
                  refine ki_idiv hx hb dX2_putNumber_29 (by omega) (by omega) (by omega) (by omega) ?_
                  refine ki_is (show iz (10 / 10) = iz 1 from rfl) ?_
                  refine lv_istore_n (lv' := [(2, .int (iz 1)), (0, .ref o), (1, .int (iz p0))]) hx hb dX2_putNumber_30 rfl hl (by decide) rfl (fun ls hl => ?_)
                  refine lv_goto (tgt := 4) hx hb dX2_putNumber_31 (by decide) ?_
                  refine lv_iload_n hx hb dX2_putNumber_4 rfl (lv_at hl 0 rfl) ?_
                  refine ki_if_le (tgt := 34) hx hb dX2_putNumber_5 (by decide) (by omega) (by omega) (fun c_105 => ?_) (fun c_105 => ?_)
                  · omega
                  · skip
                    refine lv_iload_n hx hb dX2_putNumber_8 rfl (lv_at hl 2 rfl) ?_
                    refine lv_iload_n hx hb dX2_putNumber_9 rfl (lv_at hl 0 rfl) ?_
                    refine ki_icmp_lt (tgt := 26) hx hb dX2_putNumber_10 (by decide) (by omega) (by omega) (by omega) (by omega) (fun c_106 => ?_) (fun c_106 => ?_)
                    · skip
                      refine lv_iload_n hx hb dX2_putNumber_26 rfl (lv_at hl 0 rfl) ?_
                      refine lv_bipush (v := iz 10) hx hb dX2_putNumber_27 (by decide) ?_
                      refine ki_idiv hx hb dX2_putNumber_29 (by omega) (by omega) (by omega) (by omega) ?_
                      refine ki_is (show iz (1 / 10) = iz 0 from rfl) ?_
                      refine lv_istore_n (lv' := [(2, .int (iz 0)), (0, .ref o), (1, .int (iz p0))]) hx hb dX2_putNumber_30 rfl hl (by decide) rfl (fun ls hl => ?_)
                      refine lv_goto (tgt := 4) hx hb dX2_putNumber_31 (by decide) ?_
                      refine lv_iload_n hx hb dX2_putNumber_4 rfl (lv_at hl 0 rfl) ?_
                      refine ki_if_le (tgt := 34) hx hb dX2_putNumber_5 (by decide) (by omega) (by omega) (fun c_107 => ?_) (fun c_107 => ?_)
                      · skip
                        exact xk_vret (ov := (fun _ : Int × Int × (Int → Int) => none)) (post := (fun (u : Int × Int × (Int → Int)) (dn dm : Nat) => match u with | (z', tl', F') => dn = 0 ∧ dm = 0 ∧ (0 ≤ z' ∧ z' ≤ (n : Int)) ∧ (tl' = 0 ∨ tl' = 1) ∧ iB F' ∧ pt_X F z tl (pt_l (pt_nu p0)) F' z' tl')) (ws := (fun u : Int × Int × (Int → Int) => match u with | (z', tl', F') => (pU cB o r n z' tl' F'))) (tys := xT cI cB cE) (z_101, tl_102, F_103) hx hb hr hlocks rfl hP hD hK hS dX2_putNumber_34 (fun dn dm hdn hdm => ⟨by omega, by omega, by omega, by omega, hF104, pt_X_eq hY104 (by first | (exfalso; omega) | (unfold pt_nu pt_l; (first | rw [if_pos (show 10000 ≤ p0 by omega)] | rw [if_neg (show ¬ 10000 ≤ p0 by omega)]) ; (first | rw [if_pos (show 1000 ≤ p0 by omega)] | rw [if_neg (show ¬ 1000 ≤ p0 by omega)]) ; (first | rw [if_pos (show 100 ≤ p0 by omega)] | rw [if_neg (show ¬ 100 ≤ p0 by omega)]) ; (first | rw [if_pos (show 10 ≤ p0 by omega)] | rw [if_neg (show ¬ 10 ≤ p0 by omega)]) ; (first | rw [if_pos (show 1 ≤ p0 by omega)] | rw [if_neg (show ¬ 1 ≤ p0 by omega)]); rfl))⟩) (by omega) (by omega)
                      · omega
                    · skip
                      refine lv_aload_n hx hb dX2_putNumber_13 rfl (lv_at hl 1 rfl) ?_
                      refine lv_bipush (v := iz 48) hx hb dX2_putNumber_14 (by decide) ?_
                      refine lv_iload_n hx hb dX2_putNumber_16 rfl (lv_at hl 2 rfl) ?_
                      refine lv_iload_n hx hb dX2_putNumber_17 rfl (lv_at hl 0 rfl) ?_
                      refine ki_idiv hx hb dX2_putNumber_18 (by omega) (by omega) (by omega) (by omega) ?_
                      refine lv_bipush (v := iz 10) hx hb dX2_putNumber_19 (by decide) ?_
                      refine ki_irem hx hb dX2_putNumber_21 (by omega) (by omega) (by omega) (by omega) ?_
                      refine ki_iadd hx hb dX2_putNumber_22 ?_
                      have hPc := hP.sub (ws' := (pU cB o r n z_101 tl_102 F_103)) [0, 1] rfl
                      have hDc := hD.sub (ws' := (pU cB o r n z_101 tl_102 F_103)) [0, 1] (by decide) rfl
                      have hFc := va_free (wc := (pU cB o r n z_101 tl_102 F_103)) hD hS hA [0, 1] rfl
                      refine xk_call (va_runV (As := [.int (iz (48 + ((p0 / 1) % 10)))]) (rest := []) ⟨hx, hb, hml, hown, hts⟩ (x_put2 l dC dI cI cB cE o r n z_101 tl_102 F_103 (48 + ((p0 / 1) % 10)) H.size (by omega) (by omega) hF104 hn6 (by omega) (by omega)) (cwV 1 hts (kx_gV kq_15_xspan_14 kq_15_xspan_15 kq_15_xspan_16 kq_15_xspan_17 kq_15_xspan_18 rfl) rfl rfl rfl (by decide +kernel) ⟨Nat.le_of_ble_eq_true rfl, Nat.le_of_ble_eq_true rfl⟩) ⟨kx_blind, va_recv hK hPc (ci := 2) (q0 := 0) rfl rfl, kx_give (ws := []) (tys := []) hPc hDc hK hG hZ hS hFc⟩ rfl rfl hl.1 rfl (lv_room (Nat.le_of_ble_eq_true rfl)) dX2_putNumber_23 ⟨show ((0 + 0) + 0) + 0 ≤ 0 from (by omega), show ((0 + 0) + 0) + 0 ≤ 0 from (by omega)⟩) hS (fun q _ h => hFc q h) hFc (fun u dn_109 dm_110 t H locs ht hvm hq_108 hB hk1 hS => ?_)
                      obtain ⟨z_111, tl_112, F_113⟩ := u
                      obtain ⟨hP1, hK1, hD1⟩ := hB
                      rw [ht] at hP1
                      obtain ⟨hP, hD⟩ := xj (wr := []) (w1 := (pU cB o r n z_111 tl_112 F_113)) (ws' := (pU cB o r n z_111 tl_112 F_113)) hP hD [0, 1] [] [0, 1] rfl rfl (by decide) (by decide) hk1 hFc hP1 hD1 rfl (by decide)
                      refine W.eq (g2 := F0 m 26 ls []) rfl ?_
                      try dsimp only at hq_108
                      obtain ⟨hd114, hm114, hz114, ht114, hF114, hX114⟩ := hq_108
                      subst hd114
                      subst hm114
                      have hY114 := pt_X_app hY104 hX114
                      refine lv_iload_n hx hb dX2_putNumber_26 rfl (lv_at hl 0 rfl) ?_
                      refine lv_bipush (v := iz 10) hx hb dX2_putNumber_27 (by decide) ?_
                      refine ki_idiv hx hb dX2_putNumber_29 (by omega) (by omega) (by omega) (by omega) ?_
                      refine ki_is (show iz (1 / 10) = iz 0 from rfl) ?_
                      refine lv_istore_n (lv' := [(2, .int (iz 0)), (0, .ref o), (1, .int (iz p0))]) hx hb dX2_putNumber_30 rfl hl (by decide) rfl (fun ls hl => ?_)
                      refine lv_goto (tgt := 4) hx hb dX2_putNumber_31 (by decide) ?_
                      refine lv_iload_n hx hb dX2_putNumber_4 rfl (lv_at hl 0 rfl) ?_
                      refine ki_if_le (tgt := 34) hx hb dX2_putNumber_5 (by decide) (by omega) (by omega) (fun c_115 => ?_) (fun c_115 => ?_)
                      · skip
                        exact xk_vret (ov := (fun _ : Int × Int × (Int → Int) => none)) (post := (fun (u : Int × Int × (Int → Int)) (dn dm : Nat) => match u with | (z', tl', F') => dn = 0 ∧ dm = 0 ∧ (0 ≤ z' ∧ z' ≤ (n : Int)) ∧ (tl' = 0 ∨ tl' = 1) ∧ iB F' ∧ pt_X F z tl (pt_l (pt_nu p0)) F' z' tl')) (ws := (fun u : Int × Int × (Int → Int) => match u with | (z', tl', F') => (pU cB o r n z' tl' F'))) (tys := xT cI cB cE) (z_111, tl_112, F_113) hx hb hr hlocks rfl hP hD hK hS dX2_putNumber_34 (fun dn dm hdn hdm => ⟨by omega, by omega, by omega, by omega, hF114, pt_X_eq hY114 (by first | (exfalso; omega) | (unfold pt_nu pt_l; (first | rw [if_pos (show 10000 ≤ p0 by omega)] | rw [if_neg (show ¬ 10000 ≤ p0 by omega)]) ; (first | rw [if_pos (show 1000 ≤ p0 by omega)] | rw [if_neg (show ¬ 1000 ≤ p0 by omega)]) ; (first | rw [if_pos (show 100 ≤ p0 by omega)] | rw [if_neg (show ¬ 100 ≤ p0 by omega)]) ; (first | rw [if_pos (show 10 ≤ p0 by omega)] | rw [if_neg (show ¬ 10 ≤ p0 by omega)]) ; (first | rw [if_pos (show 1 ≤ p0 by omega)] | rw [if_neg (show ¬ 1 ≤ p0 by omega)]); rfl))⟩) (by omega) (by omega)
                      · omega
            · skip
              refine lv_aload_n hx hb dX2_putNumber_13 rfl (lv_at hl 1 rfl) ?_
              refine lv_bipush (v := iz 48) hx hb dX2_putNumber_14 (by decide) ?_
              refine lv_iload_n hx hb dX2_putNumber_16 rfl (lv_at hl 2 rfl) ?_
              refine lv_iload_n hx hb dX2_putNumber_17 rfl (lv_at hl 0 rfl) ?_
              refine ki_idiv hx hb dX2_putNumber_18 (by omega) (by omega) (by omega) (by omega) ?_
              refine lv_bipush (v := iz 10) hx hb dX2_putNumber_19 (by decide) ?_
              refine ki_irem hx hb dX2_putNumber_21 (by omega) (by omega) (by omega) (by omega) ?_
              refine ki_iadd hx hb dX2_putNumber_22 ?_
              have hPc := hP.sub (ws' := (pU cB o r n z_79 tl_80 F_81)) [0, 1] rfl
              have hDc := hD.sub (ws' := (pU cB o r n z_79 tl_80 F_81)) [0, 1] (by decide) rfl
              have hFc := va_free (wc := (pU cB o r n z_79 tl_80 F_81)) hD hS hA [0, 1] rfl
              refine xk_call (va_runV (As := [.int (iz (48 + ((p0 / 100) % 10)))]) (rest := []) ⟨hx, hb, hml, hown, hts⟩ (x_put2 l dC dI cI cB cE o r n z_79 tl_80 F_81 (48 + ((p0 / 100) % 10)) H.size (by omega) (by omega) hF82 hn6 (by omega) (by omega)) (cwV 1 hts (kx_gV kq_15_xspan_14 kq_15_xspan_15 kq_15_xspan_16 kq_15_xspan_17 kq_15_xspan_18 rfl) rfl rfl rfl (by decide +kernel) ⟨Nat.le_of_ble_eq_true rfl, Nat.le_of_ble_eq_true rfl⟩) ⟨kx_blind, va_recv hK hPc (ci := 2) (q0 := 0) rfl rfl, kx_give (ws := []) (tys := []) hPc hDc hK hG hZ hS hFc⟩ rfl rfl hl.1 rfl (lv_room (Nat.le_of_ble_eq_true rfl)) dX2_putNumber_23 ⟨show (0 + 0) + 0 ≤ 0 from (by omega), show (0 + 0) + 0 ≤ 0 from (by omega)⟩) hS (fun q _ h => hFc q h) hFc (fun u dn_117 dm_118 t H locs ht hvm hq_116 hB hk1 hS => ?_)
              obtain ⟨z_119, tl_120, F_121⟩ := u
              obtain ⟨hP1, hK1, hD1⟩ := hB
              rw [ht] at hP1
              obtain ⟨hP, hD⟩ := xj (wr := []) (w1 := (pU cB o r n z_119 tl_120 F_121)) (ws' := (pU cB o r n z_119 tl_120 F_121)) hP hD [0, 1] [] [0, 1] rfl rfl (by decide) (by decide) hk1 hFc hP1 hD1 rfl (by decide)
              refine W.eq (g2 := F0 m 26 ls []) rfl ?_
              try dsimp only at hq_116
              obtain ⟨hd122, hm122, hz122, ht122, hF122, hX122⟩ := hq_116
              subst hd122
              subst hm122
              have hY122 := pt_X_app hY82 hX122
              refine lv_iload_n hx hb dX2_putNumber_26 rfl (lv_at hl 0 rfl) ?_
              refine lv_bipush (v := iz 10) hx hb dX2_putNumber_27 (by decide) ?_
              refine ki_idiv hx hb dX2_putNumber_29 (by omega) (by omega) (by omega) (by omega) ?_
              refine ki_is (show iz (100 / 10) = iz 10 from rfl) ?_
              refine lv_istore_n (lv' := [(2, .int (iz 10)), (0, .ref o), (1, .int (iz p0))]) hx hb dX2_putNumber_30 rfl hl (by decide) rfl (fun ls hl => ?_)
              refine lv_goto (tgt := 4) hx hb dX2_putNumber_31 (by decide) ?_
              refine lv_iload_n hx hb dX2_putNumber_4 rfl (lv_at hl 0 rfl) ?_
              refine ki_if_le (tgt := 34) hx hb dX2_putNumber_5 (by decide) (by omega) (by omega) (fun c_123 => ?_) (fun c_123 => ?_)
              · omega
              · skip
                refine lv_iload_n hx hb dX2_putNumber_8 rfl (lv_at hl 2 rfl) ?_
                refine lv_iload_n hx hb dX2_putNumber_9 rfl (lv_at hl 0 rfl) ?_
                refine ki_icmp_lt (tgt := 26) hx hb dX2_putNumber_10 (by decide) (by omega) (by omega) (by omega) (by omega) (fun c_124 => ?_) (fun c_124 => ?_)
                · skip
                  refine lv_iload_n hx hb dX2_putNumber_26 rfl (lv_at hl 0 rfl) ?_
                  refine lv_bipush (v := iz 10) hx hb dX2_putNumber_27 (by decide) ?_
                  refine ki_idiv hx hb dX2_putNumber_29 (by omega) (by omega) (by omega) (by omega) ?_
                  refine ki_is (show iz (10 / 10) = iz 1 from rfl) ?_
                  refine lv_istore_n (lv' := [(2, .int (iz 1)), (0, .ref o), (1, .int (iz p0))]) hx hb dX2_putNumber_30 rfl hl (by decide) rfl (fun ls hl => ?_)
                  refine lv_goto (tgt := 4) hx hb dX2_putNumber_31 (by decide) ?_
                  refine lv_iload_n hx hb dX2_putNumber_4 rfl (lv_at hl 0 rfl) ?_
                  refine ki_if_le (tgt := 34) hx hb dX2_putNumber_5 (by decide) (by omega) (by omega) (fun c_125 => ?_) (fun c_125 => ?_)
                  · omega
                  · skip
                    refine lv_iload_n hx hb dX2_putNumber_8 rfl (lv_at hl 2 rfl) ?_
                    refine lv_iload_n hx hb dX2_putNumber_9 rfl (lv_at hl 0 rfl) ?_
                    refine ki_icmp_lt (tgt := 26) hx hb dX2_putNumber_10 (by decide) (by omega) (by omega) (by omega) (by omega) (fun c_126 => ?_) (fun c_126 => ?_)
                    · skip
                      refine lv_iload_n hx hb dX2_putNumber_26 rfl (lv_at hl 0 rfl) ?_
                      refine lv_bipush (v := iz 10) hx hb dX2_putNumber_27 (by decide) ?_
                      refine ki_idiv hx hb dX2_putNumber_29 (by omega) (by omega) (by omega) (by omega) ?_
                      refine ki_is (show iz (1 / 10) = iz 0 from rfl) ?_
                      refine lv_istore_n (lv' := [(2, .int (iz 0)), (0, .ref o), (1, .int (iz p0))]) hx hb dX2_putNumber_30 rfl hl (by decide) rfl (fun ls hl => ?_)
                      refine lv_goto (tgt := 4) hx hb dX2_putNumber_31 (by decide) ?_
                      refine lv_iload_n hx hb dX2_putNumber_4 rfl (lv_at hl 0 rfl) ?_
                      refine ki_if_le (tgt := 34) hx hb dX2_putNumber_5 (by decide) (by omega) (by omega) (fun c_127 => ?_) (fun c_127 => ?_)
                      · skip
                        exact xk_vret (ov := (fun _ : Int × Int × (Int → Int) => none)) (post := (fun (u : Int × Int × (Int → Int)) (dn dm : Nat) => match u with | (z', tl', F') => dn = 0 ∧ dm = 0 ∧ (0 ≤ z' ∧ z' ≤ (n : Int)) ∧ (tl' = 0 ∨ tl' = 1) ∧ iB F' ∧ pt_X F z tl (pt_l (pt_nu p0)) F' z' tl')) (ws := (fun u : Int × Int × (Int → Int) => match u with | (z', tl', F') => (pU cB o r n z' tl' F'))) (tys := xT cI cB cE) (z_119, tl_120, F_121) hx hb hr hlocks rfl hP hD hK hS dX2_putNumber_34 (fun dn dm hdn hdm => ⟨by omega, by omega, by omega, by omega, hF122, pt_X_eq hY122 (by first | (exfalso; omega) | (unfold pt_nu pt_l; (first | rw [if_pos (show 10000 ≤ p0 by omega)] | rw [if_neg (show ¬ 10000 ≤ p0 by omega)]) ; (first | rw [if_pos (show 1000 ≤ p0 by omega)] | rw [if_neg (show ¬ 1000 ≤ p0 by omega)]) ; (first | rw [if_pos (show 100 ≤ p0 by omega)] | rw [if_neg (show ¬ 100 ≤ p0 by omega)]) ; (first | rw [if_pos (show 10 ≤ p0 by omega)] | rw [if_neg (show ¬ 10 ≤ p0 by omega)]) ; (first | rw [if_pos (show 1 ≤ p0 by omega)] | rw [if_neg (show ¬ 1 ≤ p0 by omega)]); rfl))⟩) (by omega) (by omega)
                      · omega
                    · skip
                      refine lv_aload_n hx hb dX2_putNumber_13 rfl (lv_at hl 1 rfl) ?_
                      refine lv_bipush (v := iz 48) hx hb dX2_putNumber_14 (by decide) ?_
                      refine lv_iload_n hx hb dX2_putNumber_16 rfl (lv_at hl 2 rfl) ?_
                      refine lv_iload_n hx hb dX2_putNumber_17 rfl (lv_at hl 0 rfl) ?_
                      refine ki_idiv hx hb dX2_putNumber_18 (by omega) (by omega) (by omega) (by omega) ?_
                      refine lv_bipush (v := iz 10) hx hb dX2_putNumber_19 (by decide) ?_
                      refine ki_irem hx hb dX2_putNumber_21 (by omega) (by omega) (by omega) (by omega) ?_
                      refine ki_iadd hx hb dX2_putNumber_22 ?_
                      have hPc := hP.sub (ws' := (pU cB o r n z_119 tl_120 F_121)) [0, 1] rfl
                      have hDc := hD.sub (ws' := (pU cB o r n z_119 tl_120 F_121)) [0, 1] (by decide) rfl
                      have hFc := va_free (wc := (pU cB o r n z_119 tl_120 F_121)) hD hS hA [0, 1] rfl
                      refine xk_call (va_runV (As := [.int (iz (48 + ((p0 / 1) % 10)))]) (rest := []) ⟨hx, hb, hml, hown, hts⟩ (x_put2 l dC dI cI cB cE o r n z_119 tl_120 F_121 (48 + ((p0 / 1) % 10)) H.size (by omega) (by omega) hF122 hn6 (by omega) (by omega)) (cwV 1 hts (kx_gV kq_15_xspan_14 kq_15_xspan_15 kq_15_xspan_16 kq_15_xspan_17 kq_15_xspan_18 rfl) rfl rfl rfl (by decide +kernel) ⟨Nat.le_of_ble_eq_true rfl, Nat.le_of_ble_eq_true rfl⟩) ⟨kx_blind, va_recv hK hPc (ci := 2) (q0 := 0) rfl rfl, kx_give (ws := []) (tys := []) hPc hDc hK hG hZ hS hFc⟩ rfl rfl hl.1 rfl (lv_room (Nat.le_of_ble_eq_true rfl)) dX2_putNumber_23 ⟨show ((0 + 0) + 0) + 0 ≤ 0 from (by omega), show ((0 + 0) + 0) + 0 ≤ 0 from (by omega)⟩) hS (fun q _ h => hFc q h) hFc (fun u dn_129 dm_130 t H locs ht hvm hq_128 hB hk1 hS => ?_)
                      obtain ⟨z_131, tl_132, F_133⟩ := u
                      obtain ⟨hP1, hK1, hD1⟩ := hB
                      rw [ht] at hP1
                      obtain ⟨hP, hD⟩ := xj (wr := []) (w1 := (pU cB o r n z_131 tl_132 F_133)) (ws' := (pU cB o r n z_131 tl_132 F_133)) hP hD [0, 1] [] [0, 1] rfl rfl (by decide) (by decide) hk1 hFc hP1 hD1 rfl (by decide)
                      refine W.eq (g2 := F0 m 26 ls []) rfl ?_
                      try dsimp only at hq_128
                      obtain ⟨hd134, hm134, hz134, ht134, hF134, hX134⟩ := hq_128
                      subst hd134
                      subst hm134
                      have hY134 := pt_X_app hY122 hX134
                      refine lv_iload_n hx hb dX2_putNumber_26 rfl (lv_at hl 0 rfl) ?_
                      refine lv_bipush (v := iz 10) hx hb dX2_putNumber_27 (by decide) ?_
                      refine ki_idiv hx hb dX2_putNumber_29 (by omega) (by omega) (by omega) (by omega) ?_
                      refine ki_is (show iz (1 / 10) = iz 0 from rfl) ?_
                      refine lv_istore_n (lv' := [(2, .int (iz 0)), (0, .ref o), (1, .int (iz p0))]) hx hb dX2_putNumber_30 rfl hl (by decide) rfl (fun ls hl => ?_)
                      refine lv_goto (tgt := 4) hx hb dX2_putNumber_31 (by decide) ?_
                      refine lv_iload_n hx hb dX2_putNumber_4 rfl (lv_at hl 0 rfl) ?_
                      refine ki_if_le (tgt := 34) hx hb dX2_putNumber_5 (by decide) (by omega) (by omega) (fun c_135 => ?_) (fun c_135 => ?_)
                      · skip
                        exact xk_vret (ov := (fun _ : Int × Int × (Int → Int) => none)) (post := (fun (u : Int × Int × (Int → Int)) (dn dm : Nat) => match u with | (z', tl', F') => dn = 0 ∧ dm = 0 ∧ (0 ≤ z' ∧ z' ≤ (n : Int)) ∧ (tl' = 0 ∨ tl' = 1) ∧ iB F' ∧ pt_X F z tl (pt_l (pt_nu p0)) F' z' tl')) (ws := (fun u : Int × Int × (Int → Int) => match u with | (z', tl', F') => (pU cB o r n z' tl' F'))) (tys := xT cI cB cE) (z_131, tl_132, F_133) hx hb hr hlocks rfl hP hD hK hS dX2_putNumber_34 (fun dn dm hdn hdm => ⟨by omega, by omega, by omega, by omega, hF134, pt_X_eq hY134 (by first | (exfalso; omega) | (unfold pt_nu pt_l; (first | rw [if_pos (show 10000 ≤ p0 by omega)] | rw [if_neg (show ¬ 10000 ≤ p0 by omega)]) ; (first | rw [if_pos (show 1000 ≤ p0 by omega)] | rw [if_neg (show ¬ 1000 ≤ p0 by omega)]) ; (first | rw [if_pos (show 100 ≤ p0 by omega)] | rw [if_neg (show ¬ 100 ≤ p0 by omega)]) ; (first | rw [if_pos (show 10 ≤ p0 by omega)] | rw [if_neg (show ¬ 10 ≤ p0 by omega)]) ; (first | rw [if_pos (show 1 ≤ p0 by omega)] | rw [if_neg (show ¬ 1 ≤ p0 by omega)]); rfl))⟩) (by omega) (by omega)
                      · omega
                · skip
                  refine lv_aload_n hx hb dX2_putNumber_13 rfl (lv_at hl 1 rfl) ?_
                  refine lv_bipush (v := iz 48) hx hb dX2_putNumber_14 (by decide) ?_
                  refine lv_iload_n hx hb dX2_putNumber_16 rfl (lv_at hl 2 rfl) ?_
                  refine lv_iload_n hx hb dX2_putNumber_17 rfl (lv_at hl 0 rfl) ?_
                  refine ki_idiv hx hb dX2_putNumber_18 (by omega) (by omega) (by omega) (by omega) ?_
                  refine lv_bipush (v := iz 10) hx hb dX2_putNumber_19 (by decide) ?_
                  refine ki_irem hx hb dX2_putNumber_21 (by omega) (by omega) (by omega) (by omega) ?_
                  refine ki_iadd hx hb dX2_putNumber_22 ?_
                  have hPc := hP.sub (ws' := (pU cB o r n z_119 tl_120 F_121)) [0, 1] rfl
                  have hDc := hD.sub (ws' := (pU cB o r n z_119 tl_120 F_121)) [0, 1] (by decide) rfl
                  have hFc := va_free (wc := (pU cB o r n z_119 tl_120 F_121)) hD hS hA [0, 1] rfl
                  refine xk_call (va_runV (As := [.int (iz (48 + ((p0 / 10) % 10)))]) (rest := []) ⟨hx, hb, hml, hown, hts⟩ (x_put2 l dC dI cI cB cE o r n z_119 tl_120 F_121 (48 + ((p0 / 10) % 10)) H.size (by omega) (by omega) hF122 hn6 (by omega) (by omega)) (cwV 1 hts (kx_gV kq_15_xspan_14 kq_15_xspan_15 kq_15_xspan_16 kq_15_xspan_17 kq_15_xspan_18 rfl) rfl rfl rfl (by decide +kernel) ⟨Nat.le_of_ble_eq_true rfl, Nat.le_of_ble_eq_true rfl⟩) ⟨kx_blind, va_recv hK hPc (ci := 2) (q0 := 0) rfl rfl, kx_give (ws := []) (tys := []) hPc hDc hK hG hZ hS hFc⟩ rfl rfl hl.1 rfl (lv_room (Nat.le_of_ble_eq_true rfl)) dX2_putNumber_23 ⟨show ((0 + 0) + 0) + 0 ≤ 0 from (by omega), show ((0 + 0) + 0) + 0 ≤ 0 from (by omega)⟩) hS (fun q _ h => hFc q h) hFc (fun u dn_137 dm_138 t H locs ht hvm hq_136 hB hk1 hS => ?_)
                  obtain ⟨z_139, tl_140, F_141⟩ := u
                  obtain ⟨hP1, hK1, hD1⟩ := hB
                  rw [ht] at hP1
                  obtain ⟨hP, hD⟩ := xj (wr := []) (w1 := (pU cB o r n z_139 tl_140 F_141)) (ws' := (pU cB o r n z_139 tl_140 F_141)) hP hD [0, 1] [] [0, 1] rfl rfl (by decide) (by decide) hk1 hFc hP1 hD1 rfl (by decide)
                  refine W.eq (g2 := F0 m 26 ls []) rfl ?_
                  try dsimp only at hq_136
                  obtain ⟨hd142, hm142, hz142, ht142, hF142, hX142⟩ := hq_136
                  subst hd142
                  subst hm142
                  have hY142 := pt_X_app hY122 hX142
                  refine lv_iload_n hx hb dX2_putNumber_26 rfl (lv_at hl 0 rfl) ?_
                  refine lv_bipush (v := iz 10) hx hb dX2_putNumber_27 (by decide) ?_
                  refine ki_idiv hx hb dX2_putNumber_29 (by omega) (by omega) (by omega) (by omega) ?_
                  refine ki_is (show iz (10 / 10) = iz 1 from rfl) ?_
                  refine lv_istore_n (lv' := [(2, .int (iz 1)), (0, .ref o), (1, .int (iz p0))]) hx hb dX2_putNumber_30 rfl hl (by decide) rfl (fun ls hl => ?_)
                  refine lv_goto (tgt := 4) hx hb dX2_putNumber_31 (by decide) ?_
                  refine lv_iload_n hx hb dX2_putNumber_4 rfl (lv_at hl 0 rfl) ?_
                  refine ki_if_le (tgt := 34) hx hb dX2_putNumber_5 (by decide) (by omega) (by omega) (fun c_143 => ?_) (fun c_143 => ?_)
                  · omega
                  · skip
                    refine lv_iload_n hx hb dX2_putNumber_8 rfl (lv_at hl 2 rfl) ?_
                    refine lv_iload_n hx hb dX2_putNumber_9 rfl (lv_at hl 0 rfl) ?_
                    refine ki_icmp_lt (tgt := 26) hx hb dX2_putNumber_10 (by decide) (by omega) (by omega) (by omega) (by omega) (fun c_144 => ?_) (fun c_144 => ?_)
                    · skip
                      refine lv_iload_n hx hb dX2_putNumber_26 rfl (lv_at hl 0 rfl) ?_
                      refine lv_bipush (v := iz 10) hx hb dX2_putNumber_27 (by decide) ?_
                      refine ki_idiv hx hb dX2_putNumber_29 (by omega) (by omega) (by omega) (by omega) ?_
                      refine ki_is (show iz (1 / 10) = iz 0 from rfl) ?_
                      refine lv_istore_n (lv' := [(2, .int (iz 0)), (0, .ref o), (1, .int (iz p0))]) hx hb dX2_putNumber_30 rfl hl (by decide) rfl (fun ls hl => ?_)
                      refine lv_goto (tgt := 4) hx hb dX2_putNumber_31 (by decide) ?_
                      refine lv_iload_n hx hb dX2_putNumber_4 rfl (lv_at hl 0 rfl) ?_
                      refine ki_if_le (tgt := 34) hx hb dX2_putNumber_5 (by decide) (by omega) (by omega) (fun c_145 => ?_) (fun c_145 => ?_)
                      · skip
                        exact xk_vret (ov := (fun _ : Int × Int × (Int → Int) => none)) (post := (fun (u : Int × Int × (Int → Int)) (dn dm : Nat) => match u with | (z', tl', F') => dn = 0 ∧ dm = 0 ∧ (0 ≤ z' ∧ z' ≤ (n : Int)) ∧ (tl' = 0 ∨ tl' = 1) ∧ iB F' ∧ pt_X F z tl (pt_l (pt_nu p0)) F' z' tl')) (ws := (fun u : Int × Int × (Int → Int) => match u with | (z', tl', F') => (pU cB o r n z' tl' F'))) (tys := xT cI cB cE) (z_139, tl_140, F_141) hx hb hr hlocks rfl hP hD hK hS dX2_putNumber_34 (fun dn dm hdn hdm => ⟨by omega, by omega, by omega, by omega, hF142, pt_X_eq hY142 (by first | (exfalso; omega) | (unfold pt_nu pt_l; (first | rw [if_pos (show 10000 ≤ p0 by omega)] | rw [if_neg (show ¬ 10000 ≤ p0 by omega)]) ; (first | rw [if_pos (show 1000 ≤ p0 by omega)] | rw [if_neg (show ¬ 1000 ≤ p0 by omega)]) ; (first | rw [if_pos (show 100 ≤ p0 by omega)] | rw [if_neg (show ¬ 100 ≤ p0 by omega)]) ; (first | rw [if_pos (show 10 ≤ p0 by omega)] | rw [if_neg (show ¬ 10 ≤ p0 by omega)]) ; (first | rw [if_pos (show 1 ≤ p0 by omega)] | rw [if_neg (show ¬ 1 ≤ p0 by omega)]); rfl))⟩) (by omega) (by omega)
                      · omega
                    · skip
                      refine lv_aload_n hx hb dX2_putNumber_13 rfl (lv_at hl 1 rfl) ?_
                      refine lv_bipush (v := iz 48) hx hb dX2_putNumber_14 (by decide) ?_
                      refine lv_iload_n hx hb dX2_putNumber_16 rfl (lv_at hl 2 rfl) ?_
                      refine lv_iload_n hx hb dX2_putNumber_17 rfl (lv_at hl 0 rfl) ?_
                      refine ki_idiv hx hb dX2_putNumber_18 (by omega) (by omega) (by omega) (by omega) ?_
                      refine lv_bipush (v := iz 10) hx hb dX2_putNumber_19 (by decide) ?_
                      refine ki_irem hx hb dX2_putNumber_21 (by omega) (by omega) (by omega) (by omega) ?_
                      refine ki_iadd hx hb dX2_putNumber_22 ?_
                      have hPc := hP.sub (ws' := (pU cB o r n z_139 tl_140 F_141)) [0, 1] rfl
                      have hDc := hD.sub (ws' := (pU cB o r n z_139 tl_140 F_141)) [0, 1] (by decide) rfl
                      have hFc := va_free (wc := (pU cB o r n z_139 tl_140 F_141)) hD hS hA [0, 1] rfl
                      refine xk_call (va_runV (As := [.int (iz (48 + ((p0 / 1) % 10)))]) (rest := []) ⟨hx, hb, hml, hown, hts⟩ (x_put2 l dC dI cI cB cE o r n z_139 tl_140 F_141 (48 + ((p0 / 1) % 10)) H.size (by omega) (by omega) hF142 hn6 (by omega) (by omega)) (cwV 1 hts (kx_gV kq_15_xspan_14 kq_15_xspan_15 kq_15_xspan_16 kq_15_xspan_17 kq_15_xspan_18 rfl) rfl rfl rfl (by decide +kernel) ⟨Nat.le_of_ble_eq_true rfl, Nat.le_of_ble_eq_true rfl⟩) ⟨kx_blind, va_recv hK hPc (ci := 2) (q0 := 0) rfl rfl, kx_give (ws := []) (tys := []) hPc hDc hK hG hZ hS hFc⟩ rfl rfl hl.1 rfl (lv_room (Nat.le_of_ble_eq_true rfl)) dX2_putNumber_23 ⟨show (((0 + 0) + 0) + 0) + 0 ≤ 0 from (by omega), show (((0 + 0) + 0) + 0) + 0 ≤ 0 from (by omega)⟩) hS (fun q _ h => hFc q h) hFc (fun u dn_147 dm_148 t H locs ht hvm hq_146 hB hk1 hS => ?_)
                      obtain ⟨z_149, tl_150, F_151⟩ := u
                      obtain ⟨hP1, hK1, hD1⟩ := hB
                      rw [ht] at hP1
                      obtain ⟨hP, hD⟩ := xj (wr := []) (w1 := (pU cB o r n z_149 tl_150 F_151)) (ws' := (pU cB o r n z_149 tl_150 F_151)) hP hD [0, 1] [] [0, 1] rfl rfl (by decide) (by decide) hk1 hFc hP1 hD1 rfl (by decide)
                      refine W.eq (g2 := F0 m 26 ls []) rfl ?_
                      try dsimp only at hq_146
                      obtain ⟨hd152, hm152, hz152, ht152, hF152, hX152⟩ := hq_146
                      subst hd152
                      subst hm152
                      have hY152 := pt_X_app hY142 hX152
                      refine lv_iload_n hx hb dX2_putNumber_26 rfl (lv_at hl 0 rfl) ?_
                      refine lv_bipush (v := iz 10) hx hb dX2_putNumber_27 (by decide) ?_
                      refine ki_idiv hx hb dX2_putNumber_29 (by omega) (by omega) (by omega) (by omega) ?_
                      refine ki_is (show iz (1 / 10) = iz 0 from rfl) ?_
                      refine lv_istore_n (lv' := [(2, .int (iz 0)), (0, .ref o), (1, .int (iz p0))]) hx hb dX2_putNumber_30 rfl hl (by decide) rfl (fun ls hl => ?_)
                      refine lv_goto (tgt := 4) hx hb dX2_putNumber_31 (by decide) ?_
                      refine lv_iload_n hx hb dX2_putNumber_4 rfl (lv_at hl 0 rfl) ?_
                      refine ki_if_le (tgt := 34) hx hb dX2_putNumber_5 (by decide) (by omega) (by omega) (fun c_153 => ?_) (fun c_153 => ?_)
                      · skip
                        exact xk_vret (ov := (fun _ : Int × Int × (Int → Int) => none)) (post := (fun (u : Int × Int × (Int → Int)) (dn dm : Nat) => match u with | (z', tl', F') => dn = 0 ∧ dm = 0 ∧ (0 ≤ z' ∧ z' ≤ (n : Int)) ∧ (tl' = 0 ∨ tl' = 1) ∧ iB F' ∧ pt_X F z tl (pt_l (pt_nu p0)) F' z' tl')) (ws := (fun u : Int × Int × (Int → Int) => match u with | (z', tl', F') => (pU cB o r n z' tl' F'))) (tys := xT cI cB cE) (z_149, tl_150, F_151) hx hb hr hlocks rfl hP hD hK hS dX2_putNumber_34 (fun dn dm hdn hdm => ⟨by omega, by omega, by omega, by omega, hF152, pt_X_eq hY152 (by first | (exfalso; omega) | (unfold pt_nu pt_l; (first | rw [if_pos (show 10000 ≤ p0 by omega)] | rw [if_neg (show ¬ 10000 ≤ p0 by omega)]) ; (first | rw [if_pos (show 1000 ≤ p0 by omega)] | rw [if_neg (show ¬ 1000 ≤ p0 by omega)]) ; (first | rw [if_pos (show 100 ≤ p0 by omega)] | rw [if_neg (show ¬ 100 ≤ p0 by omega)]) ; (first | rw [if_pos (show 10 ≤ p0 by omega)] | rw [if_neg (show ¬ 10 ≤ p0 by omega)]) ; (first | rw [if_pos (show 1 ≤ p0 by omega)] | rw [if_neg (show ¬ 1 ≤ p0 by omega)]); rfl))⟩) (by omega) (by omega)
                      · omega
    · skip
      refine lv_aload_n hx hb dX2_putNumber_13 rfl (lv_at hl 1 rfl) ?_
      refine lv_bipush (v := iz 48) hx hb dX2_putNumber_14 (by decide) ?_
      refine lv_iload_n hx hb dX2_putNumber_16 rfl (lv_at hl 2 rfl) ?_
      refine lv_iload_n hx hb dX2_putNumber_17 rfl (lv_at hl 0 rfl) ?_
      refine ki_idiv hx hb dX2_putNumber_18 (by omega) (by omega) (by omega) (by omega) ?_
      refine lv_bipush (v := iz 10) hx hb dX2_putNumber_19 (by decide) ?_
      refine ki_irem hx hb dX2_putNumber_21 (by omega) (by omega) (by omega) (by omega) ?_
      refine ki_iadd hx hb dX2_putNumber_22 ?_
      have hPc := hP.sub (ws' := (pU cB o r n z tl F)) [0, 1] rfl
      have hDc := hD.sub (ws' := (pU cB o r n z tl F)) [0, 1] (by decide) rfl
      have hFc := va_free (wc := (pU cB o r n z tl F)) hD hS hA [0, 1] rfl
      refine xk_call (va_runV (As := [.int (iz (48 + ((p0 / 10000) % 10)))]) (rest := []) ⟨hx, hb, hml, hown, hts⟩ (x_put2 l dC dI cI cB cE o r n z tl F (48 + ((p0 / 10000) % 10)) s.heap.size (by omega) (by omega) hF hn6 (by omega) (by omega)) (cwV 1 hts (kx_gV kq_15_xspan_14 kq_15_xspan_15 kq_15_xspan_16 kq_15_xspan_17 kq_15_xspan_18 rfl) rfl rfl rfl (by decide +kernel) ⟨Nat.le_of_ble_eq_true rfl, Nat.le_of_ble_eq_true rfl⟩) ⟨kx_blind, va_recv hK hPc (ci := 2) (q0 := 0) rfl rfl, kx_give (ws := []) (tys := []) hPc hDc hK hG hZ hS hFc⟩ rfl rfl hl.1 rfl (lv_room (Nat.le_of_ble_eq_true rfl)) dX2_putNumber_23 ⟨show 0 + 0 ≤ 0 from (by omega), show 0 + 0 ≤ 0 from (by omega)⟩) hS (fun q _ h => hFc q h) hFc (fun u dn_155 dm_156 t H locs ht hvm hq_154 hB hk1 hS => ?_)
      obtain ⟨z_157, tl_158, F_159⟩ := u
      obtain ⟨hP1, hK1, hD1⟩ := hB
      rw [ht] at hP1
      obtain ⟨hP, hD⟩ := xj (wr := []) (w1 := (pU cB o r n z_157 tl_158 F_159)) (ws' := (pU cB o r n z_157 tl_158 F_159)) hP hD [0, 1] [] [0, 1] rfl rfl (by decide) (by decide) hk1 hFc hP1 hD1 rfl (by decide)
      refine W.eq (g2 := F0 m 26 ls []) rfl ?_
      try dsimp only at hq_154
      obtain ⟨hd160, hm160, hz160, ht160, hF160, hX160⟩ := hq_154
      subst hd160
      subst hm160
      have hY160 := pt_X_app hX0 hX160
      refine lv_iload_n hx hb dX2_putNumber_26 rfl (lv_at hl 0 rfl) ?_
      refine lv_bipush (v := iz 10) hx hb dX2_putNumber_27 (by decide) ?_
      refine ki_idiv hx hb dX2_putNumber_29 (by omega) (by omega) (by omega) (by omega) ?_
      refine ki_is (show iz (10000 / 10) = iz 1000 from rfl) ?_
      refine lv_istore_n (lv' := [(2, .int (iz 1000)), (0, .ref o), (1, .int (iz p0))]) hx hb dX2_putNumber_30 rfl hl (by decide) rfl (fun ls hl => ?_)
      refine lv_goto (tgt := 4) hx hb dX2_putNumber_31 (by decide) ?_
      refine lv_iload_n hx hb dX2_putNumber_4 rfl (lv_at hl 0 rfl) ?_
      refine ki_if_le (tgt := 34) hx hb dX2_putNumber_5 (by decide) (by omega) (by omega) (fun c_161 => ?_) (fun c_161 => ?_)
      · omega
      · skip
        refine lv_iload_n hx hb dX2_putNumber_8 rfl (lv_at hl 2 rfl) ?_
        refine lv_iload_n hx hb dX2_putNumber_9 rfl (lv_at hl 0 rfl) ?_
        refine ki_icmp_lt (tgt := 26) hx hb dX2_putNumber_10 (by decide) (by omega) (by omega) (by omega) (by omega) (fun c_162 => ?_) (fun c_162 => ?_)
        · skip
          refine lv_iload_n hx hb dX2_putNumber_26 rfl (lv_at hl 0 rfl) ?_
          refine lv_bipush (v := iz 10) hx hb dX2_putNumber_27 (by decide) ?_
          refine ki_idiv hx hb dX2_putNumber_29 (by omega) (by omega) (by omega) (by omega) ?_
          refine ki_is (show iz (1000 / 10) = iz 100 from rfl) ?_
          refine lv_istore_n (lv' := [(2, .int (iz 100)), (0, .ref o), (1, .int (iz p0))]) hx hb dX2_putNumber_30 rfl hl (by decide) rfl (fun ls hl => ?_)
          refine lv_goto (tgt := 4) hx hb dX2_putNumber_31 (by decide) ?_
          refine lv_iload_n hx hb dX2_putNumber_4 rfl (lv_at hl 0 rfl) ?_
          refine ki_if_le (tgt := 34) hx hb dX2_putNumber_5 (by decide) (by omega) (by omega) (fun c_163 => ?_) (fun c_163 => ?_)
          · omega
          · skip
            refine lv_iload_n hx hb dX2_putNumber_8 rfl (lv_at hl 2 rfl) ?_
            refine lv_iload_n hx hb dX2_putNumber_9 rfl (lv_at hl 0 rfl) ?_
            refine ki_icmp_lt (tgt := 26) hx hb dX2_putNumber_10 (by decide) (by omega) (by omega) (by omega) (by omega) (fun c_164 => ?_) (fun c_164 => ?_)
            · skip
              refine lv_iload_n hx hb dX2_putNumber_26 rfl (lv_at hl 0 rfl) ?_
              refine lv_bipush (v := iz 10) hx hb dX2_putNumber_27 (by decide) ?_
              refine ki_idiv hx hb dX2_putNumber_29 (by omega) (by omega) (by omega) (by omega) ?_
              refine ki_is (show iz (100 / 10) = iz 10 from rfl) ?_
              refine lv_istore_n (lv' := [(2, .int (iz 10)), (0, .ref o), (1, .int (iz p0))]) hx hb dX2_putNumber_30 rfl hl (by decide) rfl (fun ls hl => ?_)
              refine lv_goto (tgt := 4) hx hb dX2_putNumber_31 (by decide) ?_
              refine lv_iload_n hx hb dX2_putNumber_4 rfl (lv_at hl 0 rfl) ?_
              refine ki_if_le (tgt := 34) hx hb dX2_putNumber_5 (by decide) (by omega) (by omega) (fun c_165 => ?_) (fun c_165 => ?_)
              · omega
              · skip
                refine lv_iload_n hx hb dX2_putNumber_8 rfl (lv_at hl 2 rfl) ?_
                refine lv_iload_n hx hb dX2_putNumber_9 rfl (lv_at hl 0 rfl) ?_
                refine ki_icmp_lt (tgt := 26) hx hb dX2_putNumber_10 (by decide) (by omega) (by omega) (by omega) (by omega) (fun c_166 => ?_) (fun c_166 => ?_)
                · skip
                  refine lv_iload_n hx hb dX2_putNumber_26 rfl (lv_at hl 0 rfl) ?_
                  refine lv_bipush (v := iz 10) hx hb dX2_putNumber_27 (by decide) ?_
                  refine ki_idiv hx hb dX2_putNumber_29 (by omega) (by omega) (by omega) (by omega) ?_
                  refine ki_is (show iz (10 / 10) = iz 1 from rfl) ?_
                  refine lv_istore_n (lv' := [(2, .int (iz 1)), (0, .ref o), (1, .int (iz p0))]) hx hb dX2_putNumber_30 rfl hl (by decide) rfl (fun ls hl => ?_)
                  refine lv_goto (tgt := 4) hx hb dX2_putNumber_31 (by decide) ?_
                  refine lv_iload_n hx hb dX2_putNumber_4 rfl (lv_at hl 0 rfl) ?_
                  refine ki_if_le (tgt := 34) hx hb dX2_putNumber_5 (by decide) (by omega) (by omega) (fun c_167 => ?_) (fun c_167 => ?_)
                  · omega
                  · skip
                    refine lv_iload_n hx hb dX2_putNumber_8 rfl (lv_at hl 2 rfl) ?_
                    refine lv_iload_n hx hb dX2_putNumber_9 rfl (lv_at hl 0 rfl) ?_
                    refine ki_icmp_lt (tgt := 26) hx hb dX2_putNumber_10 (by decide) (by omega) (by omega) (by omega) (by omega) (fun c_168 => ?_) (fun c_168 => ?_)
                    · skip
                      refine lv_iload_n hx hb dX2_putNumber_26 rfl (lv_at hl 0 rfl) ?_
                      refine lv_bipush (v := iz 10) hx hb dX2_putNumber_27 (by decide) ?_
                      refine ki_idiv hx hb dX2_putNumber_29 (by omega) (by omega) (by omega) (by omega) ?_
                      refine ki_is (show iz (1 / 10) = iz 0 from rfl) ?_
                      refine lv_istore_n (lv' := [(2, .int (iz 0)), (0, .ref o), (1, .int (iz p0))]) hx hb dX2_putNumber_30 rfl hl (by decide) rfl (fun ls hl => ?_)
                      refine lv_goto (tgt := 4) hx hb dX2_putNumber_31 (by decide) ?_
                      refine lv_iload_n hx hb dX2_putNumber_4 rfl (lv_at hl 0 rfl) ?_
                      refine ki_if_le (tgt := 34) hx hb dX2_putNumber_5 (by decide) (by omega) (by omega) (fun c_169 => ?_) (fun c_169 => ?_)
                      · skip
                        exact xk_vret (ov := (fun _ : Int × Int × (Int → Int) => none)) (post := (fun (u : Int × Int × (Int → Int)) (dn dm : Nat) => match u with | (z', tl', F') => dn = 0 ∧ dm = 0 ∧ (0 ≤ z' ∧ z' ≤ (n : Int)) ∧ (tl' = 0 ∨ tl' = 1) ∧ iB F' ∧ pt_X F z tl (pt_l (pt_nu p0)) F' z' tl')) (ws := (fun u : Int × Int × (Int → Int) => match u with | (z', tl', F') => (pU cB o r n z' tl' F'))) (tys := xT cI cB cE) (z_157, tl_158, F_159) hx hb hr hlocks rfl hP hD hK hS dX2_putNumber_34 (fun dn dm hdn hdm => ⟨by omega, by omega, by omega, by omega, hF160, pt_X_eq hY160 (by first | (exfalso; omega) | (unfold pt_nu pt_l; (first | rw [if_pos (show 10000 ≤ p0 by omega)] | rw [if_neg (show ¬ 10000 ≤ p0 by omega)]) ; (first | rw [if_pos (show 1000 ≤ p0 by omega)] | rw [if_neg (show ¬ 1000 ≤ p0 by omega)]) ; (first | rw [if_pos (show 100 ≤ p0 by omega)] | rw [if_neg (show ¬ 100 ≤ p0 by omega)]) ; (first | rw [if_pos (show 10 ≤ p0 by omega)] | rw [if_neg (show ¬ 10 ≤ p0 by omega)]) ; (first | rw [if_pos (show 1 ≤ p0 by omega)] | rw [if_neg (show ¬ 1 ≤ p0 by omega)]); rfl))⟩) (by omega) (by omega)
                      · omega
                    · skip
                      refine lv_aload_n hx hb dX2_putNumber_13 rfl (lv_at hl 1 rfl) ?_
                      refine lv_bipush (v := iz 48) hx hb dX2_putNumber_14 (by decide) ?_
                      refine lv_iload_n hx hb dX2_putNumber_16 rfl (lv_at hl 2 rfl) ?_
                      refine lv_iload_n hx hb dX2_putNumber_17 rfl (lv_at hl 0 rfl) ?_
                      refine ki_idiv hx hb dX2_putNumber_18 (by omega) (by omega) (by omega) (by omega) ?_
                      refine lv_bipush (v := iz 10) hx hb dX2_putNumber_19 (by decide) ?_
                      refine ki_irem hx hb dX2_putNumber_21 (by omega) (by omega) (by omega) (by omega) ?_
                      refine ki_iadd hx hb dX2_putNumber_22 ?_
                      have hPc := hP.sub (ws' := (pU cB o r n z_157 tl_158 F_159)) [0, 1] rfl
                      have hDc := hD.sub (ws' := (pU cB o r n z_157 tl_158 F_159)) [0, 1] (by decide) rfl
                      have hFc := va_free (wc := (pU cB o r n z_157 tl_158 F_159)) hD hS hA [0, 1] rfl
                      refine xk_call (va_runV (As := [.int (iz (48 + ((p0 / 1) % 10)))]) (rest := []) ⟨hx, hb, hml, hown, hts⟩ (x_put2 l dC dI cI cB cE o r n z_157 tl_158 F_159 (48 + ((p0 / 1) % 10)) H.size (by omega) (by omega) hF160 hn6 (by omega) (by omega)) (cwV 1 hts (kx_gV kq_15_xspan_14 kq_15_xspan_15 kq_15_xspan_16 kq_15_xspan_17 kq_15_xspan_18 rfl) rfl rfl rfl (by decide +kernel) ⟨Nat.le_of_ble_eq_true rfl, Nat.le_of_ble_eq_true rfl⟩) ⟨kx_blind, va_recv hK hPc (ci := 2) (q0 := 0) rfl rfl, kx_give (ws := []) (tys := []) hPc hDc hK hG hZ hS hFc⟩ rfl rfl hl.1 rfl (lv_room (Nat.le_of_ble_eq_true rfl)) dX2_putNumber_23 ⟨show (0 + 0) + 0 ≤ 0 from (by omega), show (0 + 0) + 0 ≤ 0 from (by omega)⟩) hS (fun q _ h => hFc q h) hFc (fun u dn_171 dm_172 t H locs ht hvm hq_170 hB hk1 hS => ?_)
                      obtain ⟨z_173, tl_174, F_175⟩ := u
                      obtain ⟨hP1, hK1, hD1⟩ := hB
                      rw [ht] at hP1
                      obtain ⟨hP, hD⟩ := xj (wr := []) (w1 := (pU cB o r n z_173 tl_174 F_175)) (ws' := (pU cB o r n z_173 tl_174 F_175)) hP hD [0, 1] [] [0, 1] rfl rfl (by decide) (by decide) hk1 hFc hP1 hD1 rfl (by decide)
                      refine W.eq (g2 := F0 m 26 ls []) rfl ?_
                      try dsimp only at hq_170
                      obtain ⟨hd176, hm176, hz176, ht176, hF176, hX176⟩ := hq_170
                      subst hd176
                      subst hm176
                      have hY176 := pt_X_app hY160 hX176
                      refine lv_iload_n hx hb dX2_putNumber_26 rfl (lv_at hl 0 rfl) ?_
                      refine lv_bipush (v := iz 10) hx hb dX2_putNumber_27 (by decide) ?_
                      refine ki_idiv hx hb dX2_putNumber_29 (by omega) (by omega) (by omega) (by omega) ?_
                      refine ki_is (show iz (1 / 10) = iz 0 from rfl) ?_
                      refine lv_istore_n (lv' := [(2, .int (iz 0)), (0, .ref o), (1, .int (iz p0))]) hx hb dX2_putNumber_30 rfl hl (by decide) rfl (fun ls hl => ?_)
                      refine lv_goto (tgt := 4) hx hb dX2_putNumber_31 (by decide) ?_
                      refine lv_iload_n hx hb dX2_putNumber_4 rfl (lv_at hl 0 rfl) ?_
                      refine ki_if_le (tgt := 34) hx hb dX2_putNumber_5 (by decide) (by omega) (by omega) (fun c_177 => ?_) (fun c_177 => ?_)
                      · skip
                        exact xk_vret (ov := (fun _ : Int × Int × (Int → Int) => none)) (post := (fun (u : Int × Int × (Int → Int)) (dn dm : Nat) => match u with | (z', tl', F') => dn = 0 ∧ dm = 0 ∧ (0 ≤ z' ∧ z' ≤ (n : Int)) ∧ (tl' = 0 ∨ tl' = 1) ∧ iB F' ∧ pt_X F z tl (pt_l (pt_nu p0)) F' z' tl')) (ws := (fun u : Int × Int × (Int → Int) => match u with | (z', tl', F') => (pU cB o r n z' tl' F'))) (tys := xT cI cB cE) (z_173, tl_174, F_175) hx hb hr hlocks rfl hP hD hK hS dX2_putNumber_34 (fun dn dm hdn hdm => ⟨by omega, by omega, by omega, by omega, hF176, pt_X_eq hY176 (by first | (exfalso; omega) | (unfold pt_nu pt_l; (first | rw [if_pos (show 10000 ≤ p0 by omega)] | rw [if_neg (show ¬ 10000 ≤ p0 by omega)]) ; (first | rw [if_pos (show 1000 ≤ p0 by omega)] | rw [if_neg (show ¬ 1000 ≤ p0 by omega)]) ; (first | rw [if_pos (show 100 ≤ p0 by omega)] | rw [if_neg (show ¬ 100 ≤ p0 by omega)]) ; (first | rw [if_pos (show 10 ≤ p0 by omega)] | rw [if_neg (show ¬ 10 ≤ p0 by omega)]) ; (first | rw [if_pos (show 1 ≤ p0 by omega)] | rw [if_neg (show ¬ 1 ≤ p0 by omega)]); rfl))⟩) (by omega) (by omega)
                      · omega
                · skip
                  refine lv_aload_n hx hb dX2_putNumber_13 rfl (lv_at hl 1 rfl) ?_
                  refine lv_bipush (v := iz 48) hx hb dX2_putNumber_14 (by decide) ?_
                  refine lv_iload_n hx hb dX2_putNumber_16 rfl (lv_at hl 2 rfl) ?_
                  refine lv_iload_n hx hb dX2_putNumber_17 rfl (lv_at hl 0 rfl) ?_
                  refine ki_idiv hx hb dX2_putNumber_18 (by omega) (by omega) (by omega) (by omega) ?_
                  refine lv_bipush (v := iz 10) hx hb dX2_putNumber_19 (by decide) ?_
                  refine ki_irem hx hb dX2_putNumber_21 (by omega) (by omega) (by omega) (by omega) ?_
                  refine ki_iadd hx hb dX2_putNumber_22 ?_
                  have hPc := hP.sub (ws' := (pU cB o r n z_157 tl_158 F_159)) [0, 1] rfl
                  have hDc := hD.sub (ws' := (pU cB o r n z_157 tl_158 F_159)) [0, 1] (by decide) rfl
                  have hFc := va_free (wc := (pU cB o r n z_157 tl_158 F_159)) hD hS hA [0, 1] rfl
                  refine xk_call (va_runV (As := [.int (iz (48 + ((p0 / 10) % 10)))]) (rest := []) ⟨hx, hb, hml, hown, hts⟩ (x_put2 l dC dI cI cB cE o r n z_157 tl_158 F_159 (48 + ((p0 / 10) % 10)) H.size (by omega) (by omega) hF160 hn6 (by omega) (by omega)) (cwV 1 hts (kx_gV kq_15_xspan_14 kq_15_xspan_15 kq_15_xspan_16 kq_15_xspan_17 kq_15_xspan_18 rfl) rfl rfl rfl (by decide +kernel) ⟨Nat.le_of_ble_eq_true rfl, Nat.le_of_ble_eq_true rfl⟩) ⟨kx_blind, va_recv hK hPc (ci := 2) (q0 := 0) rfl rfl, kx_give (ws := []) (tys := []) hPc hDc hK hG hZ hS hFc⟩ rfl rfl hl.1 rfl (lv_room (Nat.le_of_ble_eq_true rfl)) dX2_putNumber_23 ⟨show (0 + 0) + 0 ≤ 0 from (by omega), show (0 + 0) + 0 ≤ 0 from (by omega)⟩) hS (fun q _ h => hFc q h) hFc (fun u dn_179 dm_180 t H locs ht hvm hq_178 hB hk1 hS => ?_)
                  obtain ⟨z_181, tl_182, F_183⟩ := u
                  obtain ⟨hP1, hK1, hD1⟩ := hB
                  rw [ht] at hP1
                  obtain ⟨hP, hD⟩ := xj (wr := []) (w1 := (pU cB o r n z_181 tl_182 F_183)) (ws' := (pU cB o r n z_181 tl_182 F_183)) hP hD [0, 1] [] [0, 1] rfl rfl (by decide) (by decide) hk1 hFc hP1 hD1 rfl (by decide)
                  refine W.eq (g2 := F0 m 26 ls []) rfl ?_
                  try dsimp only at hq_178
                  obtain ⟨hd184, hm184, hz184, ht184, hF184, hX184⟩ := hq_178
                  subst hd184
                  subst hm184
                  have hY184 := pt_X_app hY160 hX184
                  refine lv_iload_n hx hb dX2_putNumber_26 rfl (lv_at hl 0 rfl) ?_
                  refine lv_bipush (v := iz 10) hx hb dX2_putNumber_27 (by decide) ?_
                  refine ki_idiv hx hb dX2_putNumber_29 (by omega) (by omega) (by omega) (by omega) ?_
                  refine ki_is (show iz (10 / 10) = iz 1 from rfl) ?_
                  refine lv_istore_n (lv' := [(2, .int (iz 1)), (0, .ref o), (1, .int (iz p0))]) hx hb dX2_putNumber_30 rfl hl (by decide) rfl (fun ls hl => ?_)
                  refine lv_goto (tgt := 4) hx hb dX2_putNumber_31 (by decide) ?_
                  refine lv_iload_n hx hb dX2_putNumber_4 rfl (lv_at hl 0 rfl) ?_
                  refine ki_if_le (tgt := 34) hx hb dX2_putNumber_5 (by decide) (by omega) (by omega) (fun c_185 => ?_) (fun c_185 => ?_)
                  · omega
                  · skip
                    refine lv_iload_n hx hb dX2_putNumber_8 rfl (lv_at hl 2 rfl) ?_
                    refine lv_iload_n hx hb dX2_putNumber_9 rfl (lv_at hl 0 rfl) ?_
                    refine ki_icmp_lt (tgt := 26) hx hb dX2_putNumber_10 (by decide) (by omega) (by omega) (by omega) (by omega) (fun c_186 => ?_) (fun c_186 => ?_)
                    · skip
                      refine lv_iload_n hx hb dX2_putNumber_26 rfl (lv_at hl 0 rfl) ?_
                      refine lv_bipush (v := iz 10) hx hb dX2_putNumber_27 (by decide) ?_
                      refine ki_idiv hx hb dX2_putNumber_29 (by omega) (by omega) (by omega) (by omega) ?_
                      refine ki_is (show iz (1 / 10) = iz 0 from rfl) ?_
                      refine lv_istore_n (lv' := [(2, .int (iz 0)), (0, .ref o), (1, .int (iz p0))]) hx hb dX2_putNumber_30 rfl hl (by decide) rfl (fun ls hl => ?_)
                      refine lv_goto (tgt := 4) hx hb dX2_putNumber_31 (by decide) ?_
                      refine lv_iload_n hx hb dX2_putNumber_4 rfl (lv_at hl 0 rfl) ?_
                      refine ki_if_le (tgt := 34) hx hb dX2_putNumber_5 (by decide) (by omega) (by omega) (fun c_187 => ?_) (fun c_187 => ?_)
                      · skip
                        exact xk_vret (ov := (fun _ : Int × Int × (Int → Int) => none)) (post := (fun (u : Int × Int × (Int → Int)) (dn dm : Nat) => match u with | (z', tl', F') => dn = 0 ∧ dm = 0 ∧ (0 ≤ z' ∧ z' ≤ (n : Int)) ∧ (tl' = 0 ∨ tl' = 1) ∧ iB F' ∧ pt_X F z tl (pt_l (pt_nu p0)) F' z' tl')) (ws := (fun u : Int × Int × (Int → Int) => match u with | (z', tl', F') => (pU cB o r n z' tl' F'))) (tys := xT cI cB cE) (z_181, tl_182, F_183) hx hb hr hlocks rfl hP hD hK hS dX2_putNumber_34 (fun dn dm hdn hdm => ⟨by omega, by omega, by omega, by omega, hF184, pt_X_eq hY184 (by first | (exfalso; omega) | (unfold pt_nu pt_l; (first | rw [if_pos (show 10000 ≤ p0 by omega)] | rw [if_neg (show ¬ 10000 ≤ p0 by omega)]) ; (first | rw [if_pos (show 1000 ≤ p0 by omega)] | rw [if_neg (show ¬ 1000 ≤ p0 by omega)]) ; (first | rw [if_pos (show 100 ≤ p0 by omega)] | rw [if_neg (show ¬ 100 ≤ p0 by omega)]) ; (first | rw [if_pos (show 10 ≤ p0 by omega)] | rw [if_neg (show ¬ 10 ≤ p0 by omega)]) ; (first | rw [if_pos (show 1 ≤ p0 by omega)] | rw [if_neg (show ¬ 1 ≤ p0 by omega)]); rfl))⟩) (by omega) (by omega)
                      · omega
                    · skip
                      refine lv_aload_n hx hb dX2_putNumber_13 rfl (lv_at hl 1 rfl) ?_
                      refine lv_bipush (v := iz 48) hx hb dX2_putNumber_14 (by decide) ?_
                      refine lv_iload_n hx hb dX2_putNumber_16 rfl (lv_at hl 2 rfl) ?_
                      refine lv_iload_n hx hb dX2_putNumber_17 rfl (lv_at hl 0 rfl) ?_
                      refine ki_idiv hx hb dX2_putNumber_18 (by omega) (by omega) (by omega) (by omega) ?_
                      refine lv_bipush (v := iz 10) hx hb dX2_putNumber_19 (by decide) ?_
                      refine ki_irem hx hb dX2_putNumber_21 (by omega) (by omega) (by omega) (by omega) ?_
                      refine ki_iadd hx hb dX2_putNumber_22 ?_
                      have hPc := hP.sub (ws' := (pU cB o r n z_181 tl_182 F_183)) [0, 1] rfl
                      have hDc := hD.sub (ws' := (pU cB o r n z_181 tl_182 F_183)) [0, 1] (by decide) rfl
                      have hFc := va_free (wc := (pU cB o r n z_181 tl_182 F_183)) hD hS hA [0, 1] rfl
                      refine xk_call (va_runV (As := [.int (iz (48 + ((p0 / 1) % 10)))]) (rest := []) ⟨hx, hb, hml, hown, hts⟩ (x_put2 l dC dI cI cB cE o r n z_181 tl_182 F_183 (48 + ((p0 / 1) % 10)) H.size (by omega) (by omega) hF184 hn6 (by omega) (by omega)) (cwV 1 hts (kx_gV kq_15_xspan_14 kq_15_xspan_15 kq_15_xspan_16 kq_15_xspan_17 kq_15_xspan_18 rfl) rfl rfl rfl (by decide +kernel) ⟨Nat.le_of_ble_eq_true rfl, Nat.le_of_ble_eq_true rfl⟩) ⟨kx_blind, va_recv hK hPc (ci := 2) (q0 := 0) rfl rfl, kx_give (ws := []) (tys := []) hPc hDc hK hG hZ hS hFc⟩ rfl rfl hl.1 rfl (lv_room (Nat.le_of_ble_eq_true rfl)) dX2_putNumber_23 ⟨show ((0 + 0) + 0) + 0 ≤ 0 from (by omega), show ((0 + 0) + 0) + 0 ≤ 0 from (by omega)⟩) hS (fun q _ h => hFc q h) hFc (fun u dn_189 dm_190 t H locs ht hvm hq_188 hB hk1 hS => ?_)
                      obtain ⟨z_191, tl_192, F_193⟩ := u
                      obtain ⟨hP1, hK1, hD1⟩ := hB
                      rw [ht] at hP1
                      obtain ⟨hP, hD⟩ := xj (wr := []) (w1 := (pU cB o r n z_191 tl_192 F_193)) (ws' := (pU cB o r n z_191 tl_192 F_193)) hP hD [0, 1] [] [0, 1] rfl rfl (by decide) (by decide) hk1 hFc hP1 hD1 rfl (by decide)
                      refine W.eq (g2 := F0 m 26 ls []) rfl ?_
                      try dsimp only at hq_188
                      obtain ⟨hd194, hm194, hz194, ht194, hF194, hX194⟩ := hq_188
                      subst hd194
                      subst hm194
                      have hY194 := pt_X_app hY184 hX194
                      refine lv_iload_n hx hb dX2_putNumber_26 rfl (lv_at hl 0 rfl) ?_
                      refine lv_bipush (v := iz 10) hx hb dX2_putNumber_27 (by decide) ?_
                      refine ki_idiv hx hb dX2_putNumber_29 (by omega) (by omega) (by omega) (by omega) ?_
                      refine ki_is (show iz (1 / 10) = iz 0 from rfl) ?_
                      refine lv_istore_n (lv' := [(2, .int (iz 0)), (0, .ref o), (1, .int (iz p0))]) hx hb dX2_putNumber_30 rfl hl (by decide) rfl (fun ls hl => ?_)
                      refine lv_goto (tgt := 4) hx hb dX2_putNumber_31 (by decide) ?_
                      refine lv_iload_n hx hb dX2_putNumber_4 rfl (lv_at hl 0 rfl) ?_
                      refine ki_if_le (tgt := 34) hx hb dX2_putNumber_5 (by decide) (by omega) (by omega) (fun c_195 => ?_) (fun c_195 => ?_)
                      · skip
                        exact xk_vret (ov := (fun _ : Int × Int × (Int → Int) => none)) (post := (fun (u : Int × Int × (Int → Int)) (dn dm : Nat) => match u with | (z', tl', F') => dn = 0 ∧ dm = 0 ∧ (0 ≤ z' ∧ z' ≤ (n : Int)) ∧ (tl' = 0 ∨ tl' = 1) ∧ iB F' ∧ pt_X F z tl (pt_l (pt_nu p0)) F' z' tl')) (ws := (fun u : Int × Int × (Int → Int) => match u with | (z', tl', F') => (pU cB o r n z' tl' F'))) (tys := xT cI cB cE) (z_191, tl_192, F_193) hx hb hr hlocks rfl hP hD hK hS dX2_putNumber_34 (fun dn dm hdn hdm => ⟨by omega, by omega, by omega, by omega, hF194, pt_X_eq hY194 (by first | (exfalso; omega) | (unfold pt_nu pt_l; (first | rw [if_pos (show 10000 ≤ p0 by omega)] | rw [if_neg (show ¬ 10000 ≤ p0 by omega)]) ; (first | rw [if_pos (show 1000 ≤ p0 by omega)] | rw [if_neg (show ¬ 1000 ≤ p0 by omega)]) ; (first | rw [if_pos (show 100 ≤ p0 by omega)] | rw [if_neg (show ¬ 100 ≤ p0 by omega)]) ; (first | rw [if_pos (show 10 ≤ p0 by omega)] | rw [if_neg (show ¬ 10 ≤ p0 by omega)]) ; (first | rw [if_pos (show 1 ≤ p0 by omega)] | rw [if_neg (show ¬ 1 ≤ p0 by omega)]); rfl))⟩) (by omega) (by omega)
                      · omega
            · skip
              refine lv_aload_n hx hb dX2_putNumber_13 rfl (lv_at hl 1 rfl) ?_
              refine lv_bipush (v := iz 48) hx hb dX2_putNumber_14 (by decide) ?_
              refine lv_iload_n hx hb dX2_putNumber_16 rfl (lv_at hl 2 rfl) ?_
              refine lv_iload_n hx hb dX2_putNumber_17 rfl (lv_at hl 0 rfl) ?_
              refine ki_idiv hx hb dX2_putNumber_18 (by omega) (by omega) (by omega) (by omega) ?_
              refine lv_bipush (v := iz 10) hx hb dX2_putNumber_19 (by decide) ?_
              refine ki_irem hx hb dX2_putNumber_21 (by omega) (by omega) (by omega) (by omega) ?_
              refine ki_iadd hx hb dX2_putNumber_22 ?_
              have hPc := hP.sub (ws' := (pU cB o r n z_157 tl_158 F_159)) [0, 1] rfl
              have hDc := hD.sub (ws' := (pU cB o r n z_157 tl_158 F_159)) [0, 1] (by decide) rfl
              have hFc := va_free (wc := (pU cB o r n z_157 tl_158 F_159)) hD hS hA [0, 1] rfl
              refine xk_call (va_runV (As := [.int (iz (48 + ((p0 / 100) % 10)))]) (rest := []) ⟨hx, hb, hml, hown, hts⟩ (x_put2 l dC dI cI cB cE o r n z_157 tl_158 F_159 (48 + ((p0 / 100) % 10)) H.size (by omega) (by omega) hF160 hn6 (by omega) (by omega)) (cwV 1 hts (kx_gV kq_15_xspan_14 kq_15_xspan_15 kq_15_xspan_16 kq_15_xspan_17 kq_15_xspan_18 rfl) rfl rfl rfl (by decide +kernel) ⟨Nat.le_of_ble_eq_true rfl, Nat.le_of_ble_eq_true rfl⟩) ⟨kx_blind, va_recv hK hPc (ci := 2) (q0 := 0) rfl rfl, kx_give (ws := []) (tys := []) hPc hDc hK hG hZ hS hFc⟩ rfl rfl hl.1 rfl (lv_room (Nat.le_of_ble_eq_true rfl)) dX2_putNumber_23 ⟨show (0 + 0) + 0 ≤ 0 from (by omega), show (0 + 0) + 0 ≤ 0 from (by omega)⟩) hS (fun q _ h => hFc q h) hFc (fun u dn_197 dm_198 t H locs ht hvm hq_196 hB hk1 hS => ?_)
              obtain ⟨z_199, tl_200, F_201⟩ := u
              obtain ⟨hP1, hK1, hD1⟩ := hB
              rw [ht] at hP1
              obtain ⟨hP, hD⟩ := xj (wr := []) (w1 := (pU cB o r n z_199 tl_200 F_201)) (ws' := (pU cB o r n z_199 tl_200 F_201)) hP hD [0, 1] [] [0, 1] rfl rfl (by decide) (by decide) hk1 hFc hP1 hD1 rfl (by decide)
              refine W.eq (g2 := F0 m 26 ls []) rfl ?_
              try dsimp only at hq_196
              obtain ⟨hd202, hm202, hz202, ht202, hF202, hX202⟩ := hq_196
              subst hd202
              subst hm202
              have hY202 := pt_X_app hY160 hX202
              refine lv_iload_n hx hb dX2_putNumber_26 rfl (lv_at hl 0 rfl) ?_
              refine lv_bipush (v := iz 10) hx hb dX2_putNumber_27 (by decide) ?_
              refine ki_idiv hx hb dX2_putNumber_29 (by omega) (by omega) (by omega) (by omega) ?_
              refine ki_is (show iz (100 / 10) = iz 10 from rfl) ?_
              refine lv_istore_n (lv' := [(2, .int (iz 10)), (0, .ref o), (1, .int (iz p0))]) hx hb dX2_putNumber_30 rfl hl (by decide) rfl (fun ls hl => ?_)
              refine lv_goto (tgt := 4) hx hb dX2_putNumber_31 (by decide) ?_
              refine lv_iload_n hx hb dX2_putNumber_4 rfl (lv_at hl 0 rfl) ?_
              refine ki_if_le (tgt := 34) hx hb dX2_putNumber_5 (by decide) (by omega) (by omega) (fun c_203 => ?_) (fun c_203 => ?_)
              · omega
              · skip
                refine lv_iload_n hx hb dX2_putNumber_8 rfl (lv_at hl 2 rfl) ?_
                refine lv_iload_n hx hb dX2_putNumber_9 rfl (lv_at hl 0 rfl) ?_
                refine ki_icmp_lt (tgt := 26) hx hb dX2_putNumber_10 (by decide) (by omega) (by omega) (by omega) (by omega) (fun c_204 => ?_) (fun c_204 => ?_)
                · skip
                  refine lv_iload_n hx hb dX2_putNumber_26 rfl (lv_at hl 0 rfl) ?_
                  refine lv_bipush (v := iz 10) hx hb dX2_putNumber_27 (by decide) ?_
                  refine ki_idiv hx hb dX2_putNumber_29 (by omega) (by omega) (by omega) (by omega) ?_
                  refine ki_is (show iz (10 / 10) = iz 1 from rfl) ?_
                  refine lv_istore_n (lv' := [(2, .int (iz 1)), (0, .ref o), (1, .int (iz p0))]) hx hb dX2_putNumber_30 rfl hl (by decide) rfl (fun ls hl => ?_)
                  refine lv_goto (tgt := 4) hx hb dX2_putNumber_31 (by decide) ?_
                  refine lv_iload_n hx hb dX2_putNumber_4 rfl (lv_at hl 0 rfl) ?_
                  refine ki_if_le (tgt := 34) hx hb dX2_putNumber_5 (by decide) (by omega) (by omega) (fun c_205 => ?_) (fun c_205 => ?_)
                  · omega
                  · skip
                    refine lv_iload_n hx hb dX2_putNumber_8 rfl (lv_at hl 2 rfl) ?_
                    refine lv_iload_n hx hb dX2_putNumber_9 rfl (lv_at hl 0 rfl) ?_
                    refine ki_icmp_lt (tgt := 26) hx hb dX2_putNumber_10 (by decide) (by omega) (by omega) (by omega) (by omega) (fun c_206 => ?_) (fun c_206 => ?_)
                    · skip
                      refine lv_iload_n hx hb dX2_putNumber_26 rfl (lv_at hl 0 rfl) ?_
                      refine lv_bipush (v := iz 10) hx hb dX2_putNumber_27 (by decide) ?_
                      refine ki_idiv hx hb dX2_putNumber_29 (by omega) (by omega) (by omega) (by omega) ?_
                      refine ki_is (show iz (1 / 10) = iz 0 from rfl) ?_
                      refine lv_istore_n (lv' := [(2, .int (iz 0)), (0, .ref o), (1, .int (iz p0))]) hx hb dX2_putNumber_30 rfl hl (by decide) rfl (fun ls hl => ?_)
                      refine lv_goto (tgt := 4) hx hb dX2_putNumber_31 (by decide) ?_
                      refine lv_iload_n hx hb dX2_putNumber_4 rfl (lv_at hl 0 rfl) ?_
                      refine ki_if_le (tgt := 34) hx hb dX2_putNumber_5 (by decide) (by omega) (by omega) (fun c_207 => ?_) (fun c_207 => ?_)
                      · skip
                        exact xk_vret (ov := (fun _ : Int × Int × (Int → Int) => none)) (post := (fun (u : Int × Int × (Int → Int)) (dn dm : Nat) => match u with | (z', tl', F') => dn = 0 ∧ dm = 0 ∧ (0 ≤ z' ∧ z' ≤ (n : Int)) ∧ (tl' = 0 ∨ tl' = 1) ∧ iB F' ∧ pt_X F z tl (pt_l (pt_nu p0)) F' z' tl')) (ws := (fun u : Int × Int × (Int → Int) => match u with | (z', tl', F') => (pU cB o r n z' tl' F'))) (tys := xT cI cB cE) (z_199, tl_200, F_201) hx hb hr hlocks rfl hP hD hK hS dX2_putNumber_34 (fun dn dm hdn hdm => ⟨by omega, by omega, by omega, by omega, hF202, pt_X_eq hY202 (by first | (exfalso; omega) | (unfold pt_nu pt_l; (first | rw [if_pos (show 10000 ≤ p0 by omega)] | rw [if_neg (show ¬ 10000 ≤ p0 by omega)]) ; (first | rw [if_pos (show 1000 ≤ p0 by omega)] | rw [if_neg (show ¬ 1000 ≤ p0 by omega)]) ; (first | rw [if_pos (show 100 ≤ p0 by omega)] | rw [if_neg (show ¬ 100 ≤ p0 by omega)]) ; (first | rw [if_pos (show 10 ≤ p0 by omega)] | rw [if_neg (show ¬ 10 ≤ p0 by omega)]) ; (first | rw [if_pos (show 1 ≤ p0 by omega)] | rw [if_neg (show ¬ 1 ≤ p0 by omega)]); rfl))⟩) (by omega) (by omega)
                      · omega
                    · skip
                      refine lv_aload_n hx hb dX2_putNumber_13 rfl (lv_at hl 1 rfl) ?_
                      refine lv_bipush (v := iz 48) hx hb dX2_putNumber_14 (by decide) ?_
                      refine lv_iload_n hx hb dX2_putNumber_16 rfl (lv_at hl 2 rfl) ?_
                      refine lv_iload_n hx hb dX2_putNumber_17 rfl (lv_at hl 0 rfl) ?_
                      refine ki_idiv hx hb dX2_putNumber_18 (by omega) (by omega) (by omega) (by omega) ?_
                      refine lv_bipush (v := iz 10) hx hb dX2_putNumber_19 (by decide) ?_
                      refine ki_irem hx hb dX2_putNumber_21 (by omega) (by omega) (by omega) (by omega) ?_
                      refine ki_iadd hx hb dX2_putNumber_22 ?_
                      have hPc := hP.sub (ws' := (pU cB o r n z_199 tl_200 F_201)) [0, 1] rfl
                      have hDc := hD.sub (ws' := (pU cB o r n z_199 tl_200 F_201)) [0, 1] (by decide) rfl
                      have hFc := va_free (wc := (pU cB o r n z_199 tl_200 F_201)) hD hS hA [0, 1] rfl
                      refine xk_call (va_runV (As := [.int (iz (48 + ((p0 / 1) % 10)))]) (rest := []) ⟨hx, hb, hml, hown, hts⟩ (x_put2 l dC dI cI cB cE o r n z_199 tl_200 F_201 (48 + ((p0 / 1) % 10)) H.size (by omega) (by omega) hF202 hn6 (by omega) (by omega)) (cwV 1 hts (kx_gV kq_15_xspan_14 kq_15_xspan_15 kq_15_xspan_16 kq_15_xspan_17 kq_15_xspan_18 rfl) rfl rfl rfl (by decide +kernel) ⟨Nat.le_of_ble_eq_true rfl, Nat.le_of_ble_eq_true rfl⟩) ⟨kx_blind, va_recv hK hPc (ci := 2) (q0 := 0) rfl rfl, kx_give (ws := []) (tys := []) hPc hDc hK hG hZ hS hFc⟩ rfl rfl hl.1 rfl (lv_room (Nat.le_of_ble_eq_true rfl)) dX2_putNumber_23 ⟨show ((0 + 0) + 0) + 0 ≤ 0 from (by omega), show ((0 + 0) + 0) + 0 ≤ 0 from (by omega)⟩) hS (fun q _ h => hFc q h) hFc (fun u dn_209 dm_210 t H locs ht hvm hq_208 hB hk1 hS => ?_)
                      obtain ⟨z_211, tl_212, F_213⟩ := u
                      obtain ⟨hP1, hK1, hD1⟩ := hB
                      rw [ht] at hP1
                      obtain ⟨hP, hD⟩ := xj (wr := []) (w1 := (pU cB o r n z_211 tl_212 F_213)) (ws' := (pU cB o r n z_211 tl_212 F_213)) hP hD [0, 1] [] [0, 1] rfl rfl (by decide) (by decide) hk1 hFc hP1 hD1 rfl (by decide)
                      refine W.eq (g2 := F0 m 26 ls []) rfl ?_
                      try dsimp only at hq_208
                      obtain ⟨hd214, hm214, hz214, ht214, hF214, hX214⟩ := hq_208
                      subst hd214
                      subst hm214
                      have hY214 := pt_X_app hY202 hX214
                      refine lv_iload_n hx hb dX2_putNumber_26 rfl (lv_at hl 0 rfl) ?_
                      refine lv_bipush (v := iz 10) hx hb dX2_putNumber_27 (by decide) ?_
                      refine ki_idiv hx hb dX2_putNumber_29 (by omega) (by omega) (by omega) (by omega) ?_
                      refine ki_is (show iz (1 / 10) = iz 0 from rfl) ?_
                      refine lv_istore_n (lv' := [(2, .int (iz 0)), (0, .ref o), (1, .int (iz p0))]) hx hb dX2_putNumber_30 rfl hl (by decide) rfl (fun ls hl => ?_)
                      refine lv_goto (tgt := 4) hx hb dX2_putNumber_31 (by decide) ?_
                      refine lv_iload_n hx hb dX2_putNumber_4 rfl (lv_at hl 0 rfl) ?_
                      refine ki_if_le (tgt := 34) hx hb dX2_putNumber_5 (by decide) (by omega) (by omega) (fun c_215 => ?_) (fun c_215 => ?_)
                      · skip
                        exact xk_vret (ov := (fun _ : Int × Int × (Int → Int) => none)) (post := (fun (u : Int × Int × (Int → Int)) (dn dm : Nat) => match u with | (z', tl', F') => dn = 0 ∧ dm = 0 ∧ (0 ≤ z' ∧ z' ≤ (n : Int)) ∧ (tl' = 0 ∨ tl' = 1) ∧ iB F' ∧ pt_X F z tl (pt_l (pt_nu p0)) F' z' tl')) (ws := (fun u : Int × Int × (Int → Int) => match u with | (z', tl', F') => (pU cB o r n z' tl' F'))) (tys := xT cI cB cE) (z_211, tl_212, F_213) hx hb hr hlocks rfl hP hD hK hS dX2_putNumber_34 (fun dn dm hdn hdm => ⟨by omega, by omega, by omega, by omega, hF214, pt_X_eq hY214 (by first | (exfalso; omega) | (unfold pt_nu pt_l; (first | rw [if_pos (show 10000 ≤ p0 by omega)] | rw [if_neg (show ¬ 10000 ≤ p0 by omega)]) ; (first | rw [if_pos (show 1000 ≤ p0 by omega)] | rw [if_neg (show ¬ 1000 ≤ p0 by omega)]) ; (first | rw [if_pos (show 100 ≤ p0 by omega)] | rw [if_neg (show ¬ 100 ≤ p0 by omega)]) ; (first | rw [if_pos (show 10 ≤ p0 by omega)] | rw [if_neg (show ¬ 10 ≤ p0 by omega)]) ; (first | rw [if_pos (show 1 ≤ p0 by omega)] | rw [if_neg (show ¬ 1 ≤ p0 by omega)]); rfl))⟩) (by omega) (by omega)
                      · omega
                · skip
                  refine lv_aload_n hx hb dX2_putNumber_13 rfl (lv_at hl 1 rfl) ?_
                  refine lv_bipush (v := iz 48) hx hb dX2_putNumber_14 (by decide) ?_
                  refine lv_iload_n hx hb dX2_putNumber_16 rfl (lv_at hl 2 rfl) ?_
                  refine lv_iload_n hx hb dX2_putNumber_17 rfl (lv_at hl 0 rfl) ?_
                  refine ki_idiv hx hb dX2_putNumber_18 (by omega) (by omega) (by omega) (by omega) ?_
                  refine lv_bipush (v := iz 10) hx hb dX2_putNumber_19 (by decide) ?_
                  refine ki_irem hx hb dX2_putNumber_21 (by omega) (by omega) (by omega) (by omega) ?_
                  refine ki_iadd hx hb dX2_putNumber_22 ?_
                  have hPc := hP.sub (ws' := (pU cB o r n z_199 tl_200 F_201)) [0, 1] rfl
                  have hDc := hD.sub (ws' := (pU cB o r n z_199 tl_200 F_201)) [0, 1] (by decide) rfl
                  have hFc := va_free (wc := (pU cB o r n z_199 tl_200 F_201)) hD hS hA [0, 1] rfl
                  refine xk_call (va_runV (As := [.int (iz (48 + ((p0 / 10) % 10)))]) (rest := []) ⟨hx, hb, hml, hown, hts⟩ (x_put2 l dC dI cI cB cE o r n z_199 tl_200 F_201 (48 + ((p0 / 10) % 10)) H.size (by omega) (by omega) hF202 hn6 (by omega) (by omega)) (cwV 1 hts (kx_gV kq_15_xspan_14 kq_15_xspan_15 kq_15_xspan_16 kq_15_xspan_17 kq_15_xspan_18 rfl) rfl rfl rfl (by decide +kernel) ⟨Nat.le_of_ble_eq_true rfl, Nat.le_of_ble_eq_true rfl⟩) ⟨kx_blind, va_recv hK hPc (ci := 2) (q0 := 0) rfl rfl, kx_give (ws := []) (tys := []) hPc hDc hK hG hZ hS hFc⟩ rfl rfl hl.1 rfl (lv_room (Nat.le_of_ble_eq_true rfl)) dX2_putNumber_23 ⟨show ((0 + 0) + 0) + 0 ≤ 0 from (by omega), show ((0 + 0) + 0) + 0 ≤ 0 from (by omega)⟩) hS (fun q _ h => hFc q h) hFc (fun u dn_217 dm_218 t H locs ht hvm hq_216 hB hk1 hS => ?_)
                  obtain ⟨z_219, tl_220, F_221⟩ := u
                  obtain ⟨hP1, hK1, hD1⟩ := hB
                  rw [ht] at hP1
                  obtain ⟨hP, hD⟩ := xj (wr := []) (w1 := (pU cB o r n z_219 tl_220 F_221)) (ws' := (pU cB o r n z_219 tl_220 F_221)) hP hD [0, 1] [] [0, 1] rfl rfl (by decide) (by decide) hk1 hFc hP1 hD1 rfl (by decide)
                  refine W.eq (g2 := F0 m 26 ls []) rfl ?_
                  try dsimp only at hq_216
                  obtain ⟨hd222, hm222, hz222, ht222, hF222, hX222⟩ := hq_216
                  subst hd222
                  subst hm222
                  have hY222 := pt_X_app hY202 hX222
                  refine lv_iload_n hx hb dX2_putNumber_26 rfl (lv_at hl 0 rfl) ?_
                  refine lv_bipush (v := iz 10) hx hb dX2_putNumber_27 (by decide) ?_
                  refine ki_idiv hx hb dX2_putNumber_29 (by omega) (by omega) (by omega) (by omega) ?_
                  refine ki_is (show iz (10 / 10) = iz 1 from rfl) ?_
                  refine lv_istore_n (lv' := [(2, .int (iz 1)), (0, .ref o), (1, .int (iz p0))]) hx hb dX2_putNumber_30 rfl hl (by decide) rfl (fun ls hl => ?_)
                  refine lv_goto (tgt := 4) hx hb dX2_putNumber_31 (by decide) ?_
                  refine lv_iload_n hx hb dX2_putNumber_4 rfl (lv_at hl 0 rfl) ?_
                  refine ki_if_le (tgt := 34) hx hb dX2_putNumber_5 (by decide) (by omega) (by omega) (fun c_223 => ?_) (fun c_223 => ?_)
                  · omega
                  · skip
                    refine lv_iload_n hx hb dX2_putNumber_8 rfl (lv_at hl 2 rfl) ?_
                    refine lv_iload_n hx hb dX2_putNumber_9 rfl (lv_at hl 0 rfl) ?_
                    refine ki_icmp_lt (tgt := 26) hx hb dX2_putNumber_10 (by decide) (by omega) (by omega) (by omega) (by omega) (fun c_224 => ?_) (fun c_224 => ?_)
                    · skip
                      refine lv_iload_n hx hb dX2_putNumber_26 rfl (lv_at hl 0 rfl) ?_
                      refine lv_bipush (v := iz 10) hx hb dX2_putNumber_27 (by decide) ?_
                      refine ki_idiv hx hb dX2_putNumber_29 (by omega) (by omega) (by omega) (by omega) ?_
                      refine ki_is (show iz (1 / 10) = iz 0 from rfl) ?_
                      refine lv_istore_n (lv' := [(2, .int (iz 0)), (0, .ref o), (1, .int (iz p0))]) hx hb dX2_putNumber_30 rfl hl (by decide) rfl (fun ls hl => ?_)
                      refine lv_goto (tgt := 4) hx hb dX2_putNumber_31 (by decide) ?_
                      refine lv_iload_n hx hb dX2_putNumber_4 rfl (lv_at hl 0 rfl) ?_
                      refine ki_if_le (tgt := 34) hx hb dX2_putNumber_5 (by decide) (by omega) (by omega) (fun c_225 => ?_) (fun c_225 => ?_)
                      · skip
                        exact xk_vret (ov := (fun _ : Int × Int × (Int → Int) => none)) (post := (fun (u : Int × Int × (Int → Int)) (dn dm : Nat) => match u with | (z', tl', F') => dn = 0 ∧ dm = 0 ∧ (0 ≤ z' ∧ z' ≤ (n : Int)) ∧ (tl' = 0 ∨ tl' = 1) ∧ iB F' ∧ pt_X F z tl (pt_l (pt_nu p0)) F' z' tl')) (ws := (fun u : Int × Int × (Int → Int) => match u with | (z', tl', F') => (pU cB o r n z' tl' F'))) (tys := xT cI cB cE) (z_219, tl_220, F_221) hx hb hr hlocks rfl hP hD hK hS dX2_putNumber_34 (fun dn dm hdn hdm => ⟨by omega, by omega, by omega, by omega, hF222, pt_X_eq hY222 (by first | (exfalso; omega) | (unfold pt_nu pt_l; (first | rw [if_pos (show 10000 ≤ p0 by omega)] | rw [if_neg (show ¬ 10000 ≤ p0 by omega)]) ; (first | rw [if_pos (show 1000 ≤ p0 by omega)] | rw [if_neg (show ¬ 1000 ≤ p0 by omega)]) ; (first | rw [if_pos (show 100 ≤ p0 by omega)] | rw [if_neg (show ¬ 100 ≤ p0 by omega)]) ; (first | rw [if_pos (show 10 ≤ p0 by omega)] | rw [if_neg (show ¬ 10 ≤ p0 by omega)]) ; (first | rw [if_pos (show 1 ≤ p0 by omega)] | rw [if_neg (show ¬ 1 ≤ p0 by omega)]); rfl))⟩) (by omega) (by omega)
                      · omega
                    · skip
                      refine lv_aload_n hx hb dX2_putNumber_13 rfl (lv_at hl 1 rfl) ?_
                      refine lv_bipush (v := iz 48) hx hb dX2_putNumber_14 (by decide) ?_
                      refine lv_iload_n hx hb dX2_putNumber_16 rfl (lv_at hl 2 rfl) ?_
                      refine lv_iload_n hx hb dX2_putNumber_17 rfl (lv_at hl 0 rfl) ?_
                      refine ki_idiv hx hb dX2_putNumber_18 (by omega) (by omega) (by omega) (by omega) ?_
                      refine lv_bipush (v := iz 10) hx hb dX2_putNumber_19 (by decide) ?_
                      refine ki_irem hx hb dX2_putNumber_21 (by omega) (by omega) (by omega) (by omega) ?_
                      refine ki_iadd hx hb dX2_putNumber_22 ?_
                      have hPc := hP.sub (ws' := (pU cB o r n z_219 tl_220 F_221)) [0, 1] rfl
                      have hDc := hD.sub (ws' := (pU cB o r n z_219 tl_220 F_221)) [0, 1] (by decide) rfl
                      have hFc := va_free (wc := (pU cB o r n z_219 tl_220 F_221)) hD hS hA [0, 1] rfl
                      refine xk_call (va_runV (As := [.int (iz (48 + ((p0 / 1) % 10)))]) (rest := []) ⟨hx, hb, hml, hown, hts⟩ (x_put2 l dC dI cI cB cE o r n z_219 tl_220 F_221 (48 + ((p0 / 1) % 10)) H.size (by omega) (by omega) hF222 hn6 (by omega) (by omega)) (cwV 1 hts (kx_gV kq_15_xspan_14 kq_15_xspan_15 kq_15_xspan_16 kq_15_xspan_17 kq_15_xspan_18 rfl) rfl rfl rfl (by decide +kernel) ⟨Nat.le_of_ble_eq_true rfl, Nat.le_of_ble_eq_true rfl⟩) ⟨kx_blind, va_recv hK hPc (ci := 2) (q0 := 0) rfl rfl, kx_give (ws := []) (tys := []) hPc hDc hK hG hZ hS hFc⟩ rfl rfl hl.1 rfl (lv_room (Nat.le_of_ble_eq_true rfl)) dX2_putNumber_23 ⟨show (((0 + 0) + 0) + 0) + 0 ≤ 0 from (by omega), show (((0 + 0) + 0) + 0) + 0 ≤ 0 from (by omega)⟩) hS (fun q _ h => hFc q h) hFc (fun u dn_227 dm_228 t H locs ht hvm hq_226 hB hk1 hS => ?_)
                      obtain ⟨z_229, tl_230, F_231⟩ := u
                      obtain ⟨hP1, hK1, hD1⟩ := hB
                      rw [ht] at hP1
                      obtain ⟨hP, hD⟩ := xj (wr := []) (w1 := (pU cB o r n z_229 tl_230 F_231)) (ws' := (pU cB o r n z_229 tl_230 F_231)) hP hD [0, 1] [] [0, 1] rfl rfl (by decide) (by decide) hk1 hFc hP1 hD1 rfl (by decide)
                      refine W.eq (g2 := F0 m 26 ls []) rfl ?_
                      try dsimp only at hq_226
                      obtain ⟨hd232, hm232, hz232, ht232, hF232, hX232⟩ := hq_226
                      subst hd232
                      subst hm232
                      have hY232 := pt_X_app hY222 hX232
                      refine lv_iload_n hx hb dX2_putNumber_26 rfl (lv_at hl 0 rfl) ?_
                      refine lv_bipush (v := iz 10) hx hb dX2_putNumber_27 (by decide) ?_
                      refine ki_idiv hx hb dX2_putNumber_29 (by omega) (by omega) (by omega) (by omega) ?_
                      refine ki_is (show iz (1 / 10) = iz 0 from rfl) ?_
                      refine lv_istore_n (lv' := [(2, .int (iz 0)), (0, .ref o), (1, .int (iz p0))]) hx hb dX2_putNumber_30 rfl hl (by decide) rfl (fun ls hl => ?_)
                      refine lv_goto (tgt := 4) hx hb dX2_putNumber_31 (by decide) ?_
                      refine lv_iload_n hx hb dX2_putNumber_4 rfl (lv_at hl 0 rfl) ?_
                      refine ki_if_le (tgt := 34) hx hb dX2_putNumber_5 (by decide) (by omega) (by omega) (fun c_233 => ?_) (fun c_233 => ?_)
                      · skip
                        exact xk_vret (ov := (fun _ : Int × Int × (Int → Int) => none)) (post := (fun (u : Int × Int × (Int → Int)) (dn dm : Nat) => match u with | (z', tl', F') => dn = 0 ∧ dm = 0 ∧ (0 ≤ z' ∧ z' ≤ (n : Int)) ∧ (tl' = 0 ∨ tl' = 1) ∧ iB F' ∧ pt_X F z tl (pt_l (pt_nu p0)) F' z' tl')) (ws := (fun u : Int × Int × (Int → Int) => match u with | (z', tl', F') => (pU cB o r n z' tl' F'))) (tys := xT cI cB cE) (z_229, tl_230, F_231) hx hb hr hlocks rfl hP hD hK hS dX2_putNumber_34 (fun dn dm hdn hdm => ⟨by omega, by omega, by omega, by omega, hF232, pt_X_eq hY232 (by first | (exfalso; omega) | (unfold pt_nu pt_l; (first | rw [if_pos (show 10000 ≤ p0 by omega)] | rw [if_neg (show ¬ 10000 ≤ p0 by omega)]) ; (first | rw [if_pos (show 1000 ≤ p0 by omega)] | rw [if_neg (show ¬ 1000 ≤ p0 by omega)]) ; (first | rw [if_pos (show 100 ≤ p0 by omega)] | rw [if_neg (show ¬ 100 ≤ p0 by omega)]) ; (first | rw [if_pos (show 10 ≤ p0 by omega)] | rw [if_neg (show ¬ 10 ≤ p0 by omega)]) ; (first | rw [if_pos (show 1 ≤ p0 by omega)] | rw [if_neg (show ¬ 1 ≤ p0 by omega)]); rfl))⟩) (by omega) (by omega)
                      · omega
        · skip
          refine lv_aload_n hx hb dX2_putNumber_13 rfl (lv_at hl 1 rfl) ?_
          refine lv_bipush (v := iz 48) hx hb dX2_putNumber_14 (by decide) ?_
          refine lv_iload_n hx hb dX2_putNumber_16 rfl (lv_at hl 2 rfl) ?_
          refine lv_iload_n hx hb dX2_putNumber_17 rfl (lv_at hl 0 rfl) ?_
          refine ki_idiv hx hb dX2_putNumber_18 (by omega) (by omega) (by omega) (by omega) ?_
          refine lv_bipush (v := iz 10) hx hb dX2_putNumber_19 (by decide) ?_
          refine ki_irem hx hb dX2_putNumber_21 (by omega) (by omega) (by omega) (by omega) ?_
          refine ki_iadd hx hb dX2_putNumber_22 ?_
          have hPc := hP.sub (ws' := (pU cB o r n z_157 tl_158 F_159)) [0, 1] rfl
          have hDc := hD.sub (ws' := (pU cB o r n z_157 tl_158 F_159)) [0, 1] (by decide) rfl
          have hFc := va_free (wc := (pU cB o r n z_157 tl_158 F_159)) hD hS hA [0, 1] rfl
          refine xk_call (va_runV (As := [.int (iz (48 + ((p0 / 1000) % 10)))]) (rest := []) ⟨hx, hb, hml, hown, hts⟩ (x_put2 l dC dI cI cB cE o r n z_157 tl_158 F_159 (48 + ((p0 / 1000) % 10)) H.size (by omega) (by omega) hF160 hn6 (by omega) (by omega)) (cwV 1 hts (kx_gV kq_15_xspan_14 kq_15_xspan_15 kq_15_xspan_16 kq_15_xspan_17 kq_15_xspan_18 rfl) rfl rfl rfl (by decide +kernel) ⟨Nat.le_of_ble_eq_true rfl, Nat.le_of_ble_eq_true rfl⟩) ⟨kx_blind, va_recv hK hPc (ci := 2) (q0 := 0) rfl rfl, kx_give (ws := []) (tys := []) hPc hDc hK hG hZ hS hFc⟩ rfl rfl hl.1 rfl (lv_room (Nat.le_of_ble_eq_true rfl)) dX2_putNumber_23 ⟨show (0 + 0) + 0 ≤ 0 from (by omega), show (0 + 0) + 0 ≤ 0 from (by omega)⟩) hS (fun q _ h => hFc q h) hFc (fun u dn_235 dm_236 t H locs ht hvm hq_234 hB hk1 hS => ?_)
          obtain ⟨z_237, tl_238, F_239⟩ := u
          obtain ⟨hP1, hK1, hD1⟩ := hB
          rw [ht] at hP1
          obtain ⟨hP, hD⟩ := xj (wr := []) (w1 := (pU cB o r n z_237 tl_238 F_239)) (ws' := (pU cB o r n z_237 tl_238 F_239)) hP hD [0, 1] [] [0, 1] rfl rfl (by decide) (by decide) hk1 hFc hP1 hD1 rfl (by decide)
          refine W.eq (g2 := F0 m 26 ls []) rfl ?_
          try dsimp only at hq_234
          obtain ⟨hd240, hm240, hz240, ht240, hF240, hX240⟩ := hq_234
          subst hd240
          subst hm240
          have hY240 := pt_X_app hY160 hX240
          refine lv_iload_n hx hb dX2_putNumber_26 rfl (lv_at hl 0 rfl) ?_
          refine lv_bipush (v := iz 10) hx hb dX2_putNumber_27 (by decide) ?_
          refine ki_idiv hx hb dX2_putNumber_29 (by omega) (by omega) (by omega) (by omega) ?_
          refine ki_is (show iz (1000 / 10) = iz 100 from rfl) ?_
          refine lv_istore_n (lv' := [(2, .int (iz 100)), (0, .ref o), (1, .int (iz p0))]) hx hb dX2_putNumber_30 rfl hl (by decide) rfl (fun ls hl => ?_)
          refine lv_goto (tgt := 4) hx hb dX2_putNumber_31 (by decide) ?_
          refine lv_iload_n hx hb dX2_putNumber_4 rfl (lv_at hl 0 rfl) ?_
          refine ki_if_le (tgt := 34) hx hb dX2_putNumber_5 (by decide) (by omega) (by omega) (fun c_241 => ?_) (fun c_241 => ?_)
          · omega
          · skip
            refine lv_iload_n hx hb dX2_putNumber_8 rfl (lv_at hl 2 rfl) ?_
            refine lv_iload_n hx hb dX2_putNumber_9 rfl (lv_at hl 0 rfl) ?_
            refine ki_icmp_lt (tgt := 26) hx hb dX2_putNumber_10 (by decide) (by omega) (by omega) (by omega) (by omega) (fun c_242 => ?_) (fun c_242 => ?_)
            · skip
              refine lv_iload_n hx hb dX2_putNumber_26 rfl (lv_at hl 0 rfl) ?_
              refine lv_bipush (v := iz 10) hx hb dX2_putNumber_27 (by decide) ?_
              refine ki_idiv hx hb dX2_putNumber_29 (by omega) (by omega) (by omega) (by omega) ?_
              refine ki_is (show iz (100 / 10) = iz 10 from rfl) ?_
              refine lv_istore_n (lv' := [(2, .int (iz 10)), (0, .ref o), (1, .int (iz p0))]) hx hb dX2_putNumber_30 rfl hl (by decide) rfl (fun ls hl => ?_)
              refine lv_goto (tgt := 4) hx hb dX2_putNumber_31 (by decide) ?_
              refine lv_iload_n hx hb dX2_putNumber_4 rfl (lv_at hl 0 rfl) ?_
              refine ki_if_le (tgt := 34) hx hb dX2_putNumber_5 (by decide) (by omega) (by omega) (fun c_243 => ?_) (fun c_243 => ?_)
              · omega
              · skip
                refine lv_iload_n hx hb dX2_putNumber_8 rfl (lv_at hl 2 rfl) ?_
                refine lv_iload_n hx hb dX2_putNumber_9 rfl (lv_at hl 0 rfl) ?_
                refine ki_icmp_lt (tgt := 26) hx hb dX2_putNumber_10 (by decide) (by omega) (by omega) (by omega) (by omega) (fun c_244 => ?_) (fun c_244 => ?_)
                · skip
                  refine lv_iload_n hx hb dX2_putNumber_26 rfl (lv_at hl 0 rfl) ?_
                  refine lv_bipush (v := iz 10) hx hb dX2_putNumber_27 (by decide) ?_
                  refine ki_idiv hx hb dX2_putNumber_29 (by omega) (by omega) (by omega) (by omega) ?_
                  refine ki_is (show iz (10 / 10) = iz 1 from rfl) ?_
                  refine lv_istore_n (lv' := [(2, .int (iz 1)), (0, .ref o), (1, .int (iz p0))]) hx hb dX2_putNumber_30 rfl hl (by decide) rfl (fun ls hl => ?_)
                  refine lv_goto (tgt := 4) hx hb dX2_putNumber_31 (by decide) ?_
                  refine lv_iload_n hx hb dX2_putNumber_4 rfl (lv_at hl 0 rfl) ?_
                  refine ki_if_le (tgt := 34) hx hb dX2_putNumber_5 (by decide) (by omega) (by omega) (fun c_245 => ?_) (fun c_245 => ?_)
                  · omega
                  · skip
                    refine lv_iload_n hx hb dX2_putNumber_8 rfl (lv_at hl 2 rfl) ?_
                    refine lv_iload_n hx hb dX2_putNumber_9 rfl (lv_at hl 0 rfl) ?_
                    refine ki_icmp_lt (tgt := 26) hx hb dX2_putNumber_10 (by decide) (by omega) (by omega) (by omega) (by omega) (fun c_246 => ?_) (fun c_246 => ?_)
                    · skip
                      refine lv_iload_n hx hb dX2_putNumber_26 rfl (lv_at hl 0 rfl) ?_
                      refine lv_bipush (v := iz 10) hx hb dX2_putNumber_27 (by decide) ?_
                      refine ki_idiv hx hb dX2_putNumber_29 (by omega) (by omega) (by omega) (by omega) ?_
                      refine ki_is (show iz (1 / 10) = iz 0 from rfl) ?_
                      refine lv_istore_n (lv' := [(2, .int (iz 0)), (0, .ref o), (1, .int (iz p0))]) hx hb dX2_putNumber_30 rfl hl (by decide) rfl (fun ls hl => ?_)
                      refine lv_goto (tgt := 4) hx hb dX2_putNumber_31 (by decide) ?_
                      refine lv_iload_n hx hb dX2_putNumber_4 rfl (lv_at hl 0 rfl) ?_
                      refine ki_if_le (tgt := 34) hx hb dX2_putNumber_5 (by decide) (by omega) (by omega) (fun c_247 => ?_) (fun c_247 => ?_)
                      · skip
                        exact xk_vret (ov := (fun _ : Int × Int × (Int → Int) => none)) (post := (fun (u : Int × Int × (Int → Int)) (dn dm : Nat) => match u with | (z', tl', F') => dn = 0 ∧ dm = 0 ∧ (0 ≤ z' ∧ z' ≤ (n : Int)) ∧ (tl' = 0 ∨ tl' = 1) ∧ iB F' ∧ pt_X F z tl (pt_l (pt_nu p0)) F' z' tl')) (ws := (fun u : Int × Int × (Int → Int) => match u with | (z', tl', F') => (pU cB o r n z' tl' F'))) (tys := xT cI cB cE) (z_237, tl_238, F_239) hx hb hr hlocks rfl hP hD hK hS dX2_putNumber_34 (fun dn dm hdn hdm => ⟨by omega, by omega, by omega, by omega, hF240, pt_X_eq hY240 (by first | (exfalso; omega) | (unfold pt_nu pt_l; (first | rw [if_pos (show 10000 ≤ p0 by omega)] | rw [if_neg (show ¬ 10000 ≤ p0 by omega)]) ; (first | rw [if_pos (show 1000 ≤ p0 by omega)] | rw [if_neg (show ¬ 1000 ≤ p0 by omega)]) ; (first | rw [if_pos (show 100 ≤ p0 by omega)] | rw [if_neg (show ¬ 100 ≤ p0 by omega)]) ; (first | rw [if_pos (show 10 ≤ p0 by omega)] | rw [if_neg (show ¬ 10 ≤ p0 by omega)]) ; (first | rw [if_pos (show 1 ≤ p0 by omega)] | rw [if_neg (show ¬ 1 ≤ p0 by omega)]); rfl))⟩) (by omega) (by omega)
                      · omega
                    · skip
                      refine lv_aload_n hx hb dX2_putNumber_13 rfl (lv_at hl 1 rfl) ?_
                      refine lv_bipush (v := iz 48) hx hb dX2_putNumber_14 (by decide) ?_
                      refine lv_iload_n hx hb dX2_putNumber_16 rfl (lv_at hl 2 rfl) ?_
                      refine lv_iload_n hx hb dX2_putNumber_17 rfl (lv_at hl 0 rfl) ?_
                      refine ki_idiv hx hb dX2_putNumber_18 (by omega) (by omega) (by omega) (by omega) ?_
                      refine lv_bipush (v := iz 10) hx hb dX2_putNumber_19 (by decide) ?_
                      refine ki_irem hx hb dX2_putNumber_21 (by omega) (by omega) (by omega) (by omega) ?_
                      refine ki_iadd hx hb dX2_putNumber_22 ?_
                      have hPc := hP.sub (ws' := (pU cB o r n z_237 tl_238 F_239)) [0, 1] rfl
                      have hDc := hD.sub (ws' := (pU cB o r n z_237 tl_238 F_239)) [0, 1] (by decide) rfl
                      have hFc := va_free (wc := (pU cB o r n z_237 tl_238 F_239)) hD hS hA [0, 1] rfl
                      refine xk_call (va_runV (As := [.int (iz (48 + ((p0 / 1) % 10)))]) (rest := []) ⟨hx, hb, hml, hown, hts⟩ (x_put2 l dC dI cI cB cE o r n z_237 tl_238 F_239 (48 + ((p0 / 1) % 10)) H.size (by omega) (by omega) hF240 hn6 (by omega) (by omega)) (cwV 1 hts (kx_gV kq_15_xspan_14 kq_15_xspan_15 kq_15_xspan_16 kq_15_xspan_17 kq_15_xspan_18 rfl) rfl rfl rfl (by decide +kernel) ⟨Nat.le_of_ble_eq_true rfl, Nat.le_of_ble_eq_true rfl⟩) ⟨kx_blind, va_recv hK hPc (ci := 2) (q0 := 0) rfl rfl, kx_give (ws := []) (tys := []) hPc hDc hK hG hZ hS hFc⟩ rfl rfl hl.1 rfl (lv_room (Nat.le_of_ble_eq_true rfl)) dX2_putNumber_23 ⟨show ((0 + 0) + 0) + 0 ≤ 0 from (by omega), show ((0 + 0) + 0) + 0 ≤ 0 from (by omega)⟩) hS (fun q _ h => hFc q h) hFc (fun u dn_249 dm_250 t H locs ht hvm hq_248 hB hk1 hS => ?_)
                      obtain ⟨z_251, tl_252, F_253⟩ := u
                      obtain ⟨hP1, hK1, hD1⟩ := hB
                      rw [ht] at hP1
                      obtain ⟨hP, hD⟩ := xj (wr := []) (w1 := (pU cB o r n z_251 tl_252 F_253)) (ws' := (pU cB o r n z_251 tl_252 F_253)) hP hD [0, 1] [] [0, 1] rfl rfl (by decide) (by decide) hk1 hFc hP1 hD1 rfl (by decide)
                      refine W.eq (g2 := F0 m 26 ls []) rfl ?_
                      try dsimp only at hq_248
                      obtain ⟨hd254, hm254, hz254, ht254, hF254, hX254⟩ := hq_248
                      subst hd254
                      subst hm254
                      have hY254 := pt_X_app hY240 hX254
                      refine lv_iload_n hx hb dX2_putNumber_26 rfl (lv_at hl 0 rfl) ?_
                      refine lv_bipush (v := iz 10) hx hb dX2_putNumber_27 (by decide) ?_
                      refine ki_idiv hx hb dX2_putNumber_29 (by omega) (by omega) (by omega) (by omega) ?_
                      refine ki_is (show iz (1 / 10) = iz 0 from rfl) ?_
                      refine lv_istore_n (lv' := [(2, .int (iz 0)), (0, .ref o), (1, .int (iz p0))]) hx hb dX2_putNumber_30 rfl hl (by decide) rfl (fun ls hl => ?_)
                      refine lv_goto (tgt := 4) hx hb dX2_putNumber_31 (by decide) ?_
                      refine lv_iload_n hx hb dX2_putNumber_4 rfl (lv_at hl 0 rfl) ?_
                      refine ki_if_le (tgt := 34) hx hb dX2_putNumber_5 (by decide) (by omega) (by omega) (fun c_255 => ?_) (fun c_255 => ?_)
                      · skip
                        exact xk_vret (ov := (fun _ : Int × Int × (Int → Int) => none)) (post := (fun (u : Int × Int × (Int → Int)) (dn dm : Nat) => match u with | (z', tl', F') => dn = 0 ∧ dm = 0 ∧ (0 ≤ z' ∧ z' ≤ (n : Int)) ∧ (tl' = 0 ∨ tl' = 1) ∧ iB F' ∧ pt_X F z tl (pt_l (pt_nu p0)) F' z' tl')) (ws := (fun u : Int × Int × (Int → Int) => match u with | (z', tl', F') => (pU cB o r n z' tl' F'))) (tys := xT cI cB cE) (z_251, tl_252, F_253) hx hb hr hlocks rfl hP hD hK hS dX2_putNumber_34 (fun dn dm hdn hdm => ⟨by omega, by omega, by omega, by omega, hF254, pt_X_eq hY254 (by first | (exfalso; omega) | (unfold pt_nu pt_l; (first | rw [if_pos (show 10000 ≤ p0 by omega)] | rw [if_neg (show ¬ 10000 ≤ p0 by omega)]) ; (first | rw [if_pos (show 1000 ≤ p0 by omega)] | rw [if_neg (show ¬ 1000 ≤ p0 by omega)]) ; (first | rw [if_pos (show 100 ≤ p0 by omega)] | rw [if_neg (show ¬ 100 ≤ p0 by omega)]) ; (first | rw [if_pos (show 10 ≤ p0 by omega)] | rw [if_neg (show ¬ 10 ≤ p0 by omega)]) ; (first | rw [if_pos (show 1 ≤ p0 by omega)] | rw [if_neg (show ¬ 1 ≤ p0 by omega)]); rfl))⟩) (by omega) (by omega)
                      · omega
                · skip
                  refine lv_aload_n hx hb dX2_putNumber_13 rfl (lv_at hl 1 rfl) ?_
                  refine lv_bipush (v := iz 48) hx hb dX2_putNumber_14 (by decide) ?_
                  refine lv_iload_n hx hb dX2_putNumber_16 rfl (lv_at hl 2 rfl) ?_
                  refine lv_iload_n hx hb dX2_putNumber_17 rfl (lv_at hl 0 rfl) ?_
                  refine ki_idiv hx hb dX2_putNumber_18 (by omega) (by omega) (by omega) (by omega) ?_
                  refine lv_bipush (v := iz 10) hx hb dX2_putNumber_19 (by decide) ?_
                  refine ki_irem hx hb dX2_putNumber_21 (by omega) (by omega) (by omega) (by omega) ?_
                  refine ki_iadd hx hb dX2_putNumber_22 ?_
                  have hPc := hP.sub (ws' := (pU cB o r n z_237 tl_238 F_239)) [0, 1] rfl
                  have hDc := hD.sub (ws' := (pU cB o r n z_237 tl_238 F_239)) [0, 1] (by decide) rfl
                  have hFc := va_free (wc := (pU cB o r n z_237 tl_238 F_239)) hD hS hA [0, 1] rfl
                  refine xk_call (va_runV (As := [.int (iz (48 + ((p0 / 10) % 10)))]) (rest := []) ⟨hx, hb, hml, hown, hts⟩ (x_put2 l dC dI cI cB cE o r n z_237 tl_238 F_239 (48 + ((p0 / 10) % 10)) H.size (by omega) (by omega) hF240 hn6 (by omega) (by omega)) (cwV 1 hts (kx_gV kq_15_xspan_14 kq_15_xspan_15 kq_15_xspan_16 kq_15_xspan_17 kq_15_xspan_18 rfl) rfl rfl rfl (by decide +kernel) ⟨Nat.le_of_ble_eq_true rfl, Nat.le_of_ble_eq_true rfl⟩) ⟨kx_blind, va_recv hK hPc (ci := 2) (q0 := 0) rfl rfl, kx_give (ws := []) (tys := []) hPc hDc hK hG hZ hS hFc⟩ rfl rfl hl.1 rfl (lv_room (Nat.le_of_ble_eq_true rfl)) dX2_putNumber_23 ⟨show ((0 + 0) + 0) + 0 ≤ 0 from (by omega), show ((0 + 0) + 0) + 0 ≤ 0 from (by omega)⟩) hS (fun q _ h => hFc q h) hFc (fun u dn_257 dm_258 t H locs ht hvm hq_256 hB hk1 hS => ?_)
                  obtain ⟨z_259, tl_260, F_261⟩ := u
                  obtain ⟨hP1, hK1, hD1⟩ := hB
                  rw [ht] at hP1
                  obtain ⟨hP, hD⟩ := xj (wr := []) (w1 := (pU cB o r n z_259 tl_260 F_261)) (ws' := (pU cB o r n z_259 tl_260 F_261)) hP hD [0, 1] [] [0, 1] rfl rfl (by decide) (by decide) hk1 hFc hP1 hD1 rfl (by decide)
                  refine W.eq (g2 := F0 m 26 ls []) rfl ?_
                  try dsimp only at hq_256
                  obtain ⟨hd262, hm262, hz262, ht262, hF262, hX262⟩ := hq_256
                  subst hd262
                  subst hm262
                  have hY262 := pt_X_app hY240 hX262
                  refine lv_iload_n hx hb dX2_putNumber_26 rfl (lv_at hl 0 rfl) ?_
                  refine lv_bipush (v := iz 10) hx hb dX2_putNumber_27 (by decide) ?_
                  refine ki_idiv hx hb dX2_putNumber_29 (by omega) (by omega) (by omega) (by omega) ?_
                  refine ki_is (show iz (10 / 10) = iz 1 from rfl) ?_
                  refine lv_istore_n (lv' := [(2, .int (iz 1)), (0, .ref o), (1, .int (iz p0))]) hx hb dX2_putNumber_30 rfl hl (by decide) rfl (fun ls hl => ?_)
                  refine lv_goto (tgt := 4) hx hb dX2_putNumber_31 (by decide) ?_
                  refine lv_iload_n hx hb dX2_putNumber_4 rfl (lv_at hl 0 rfl) ?_
                  refine ki_if_le (tgt := 34) hx hb dX2_putNumber_5 (by decide) (by omega) (by omega) (fun c_263 => ?_) (fun c_263 => ?_)
                  · omega
                  · skip
                    refine lv_iload_n hx hb dX2_putNumber_8 rfl (lv_at hl 2 rfl) ?_
                    refine lv_iload_n hx hb dX2_putNumber_9 rfl (lv_at hl 0 rfl) ?_
                    refine ki_icmp_lt (tgt := 26) hx hb dX2_putNumber_10 (by decide) (by omega) (by omega) (by omega) (by omega) (fun c_264 => ?_) (fun c_264 => ?_)
                    · skip
                      refine lv_iload_n hx hb dX2_putNumber_26 rfl (lv_at hl 0 rfl) ?_
                      refine lv_bipush (v := iz 10) hx hb dX2_putNumber_27 (by decide) ?_
                      refine ki_idiv hx hb dX2_putNumber_29 (by omega) (by omega) (by omega) (by omega) ?_
                      refine ki_is (show iz (1 / 10) = iz 0 from rfl) ?_
                      refine lv_istore_n (lv' := [(2, .int (iz 0)), (0, .ref o), (1, .int (iz p0))]) hx hb dX2_putNumber_30 rfl hl (by decide) rfl (fun ls hl => ?_)
                      refine lv_goto (tgt := 4) hx hb dX2_putNumber_31 (by decide) ?_
                      refine lv_iload_n hx hb dX2_putNumber_4 rfl (lv_at hl 0 rfl) ?_
                      refine ki_if_le (tgt := 34) hx hb dX2_putNumber_5 (by decide) (by omega) (by omega) (fun c_265 => ?_) (fun c_265 => ?_)
                      · skip
                        exact xk_vret (ov := (fun _ : Int × Int × (Int → Int) => none)) (post := (fun (u : Int × Int × (Int → Int)) (dn dm : Nat) => match u with | (z', tl', F') => dn = 0 ∧ dm = 0 ∧ (0 ≤ z' ∧ z' ≤ (n : Int)) ∧ (tl' = 0 ∨ tl' = 1) ∧ iB F' ∧ pt_X F z tl (pt_l (pt_nu p0)) F' z' tl')) (ws := (fun u : Int × Int × (Int → Int) => match u with | (z', tl', F') => (pU cB o r n z' tl' F'))) (tys := xT cI cB cE) (z_259, tl_260, F_261) hx hb hr hlocks rfl hP hD hK hS dX2_putNumber_34 (fun dn dm hdn hdm => ⟨by omega, by omega, by omega, by omega, hF262, pt_X_eq hY262 (by first | (exfalso; omega) | (unfold pt_nu pt_l; (first | rw [if_pos (show 10000 ≤ p0 by omega)] | rw [if_neg (show ¬ 10000 ≤ p0 by omega)]) ; (first | rw [if_pos (show 1000 ≤ p0 by omega)] | rw [if_neg (show ¬ 1000 ≤ p0 by omega)]) ; (first | rw [if_pos (show 100 ≤ p0 by omega)] | rw [if_neg (show ¬ 100 ≤ p0 by omega)]) ; (first | rw [if_pos (show 10 ≤ p0 by omega)] | rw [if_neg (show ¬ 10 ≤ p0 by omega)]) ; (first | rw [if_pos (show 1 ≤ p0 by omega)] | rw [if_neg (show ¬ 1 ≤ p0 by omega)]); rfl))⟩) (by omega) (by omega)
                      · omega
                    · skip
                      refine lv_aload_n hx hb dX2_putNumber_13 rfl (lv_at hl 1 rfl) ?_
                      refine lv_bipush (v := iz 48) hx hb dX2_putNumber_14 (by decide) ?_
                      refine lv_iload_n hx hb dX2_putNumber_16 rfl (lv_at hl 2 rfl) ?_
                      refine lv_iload_n hx hb dX2_putNumber_17 rfl (lv_at hl 0 rfl) ?_
                      refine ki_idiv hx hb dX2_putNumber_18 (by omega) (by omega) (by omega) (by omega) ?_
                      refine lv_bipush (v := iz 10) hx hb dX2_putNumber_19 (by decide) ?_
                      refine ki_irem hx hb dX2_putNumber_21 (by omega) (by omega) (by omega) (by omega) ?_
                      refine ki_iadd hx hb dX2_putNumber_22 ?_
                      have hPc := hP.sub (ws' := (pU cB o r n z_259 tl_260 F_261)) [0, 1] rfl
                      have hDc := hD.sub (ws' := (pU cB o r n z_259 tl_260 F_261)) [0, 1] (by decide) rfl
                      have hFc := va_free (wc := (pU cB o r n z_259 tl_260 F_261)) hD hS hA [0, 1] rfl
                      refine xk_call (va_runV (As := [.int (iz (48 + ((p0 / 1) % 10)))]) (rest := []) ⟨hx, hb, hml, hown, hts⟩ (x_put2 l dC dI cI cB cE o r n z_259 tl_260 F_261 (48 + ((p0 / 1) % 10)) H.size (by omega) (by omega) hF262 hn6 (by omega) (by omega)) (cwV 1 hts (kx_gV kq_15_xspan_14 kq_15_xspan_15 kq_15_xspan_16 kq_15_xspan_17 kq_15_xspan_18 rfl) rfl rfl rfl (by decide +kernel) ⟨Nat.le_of_ble_eq_true rfl, Nat.le_of_ble_eq_true rfl⟩) ⟨kx_blind, va_recv hK hPc (ci := 2) (q0 := 0) rfl rfl, kx_give (ws := []) (tys := []) hPc hDc hK hG hZ hS hFc⟩ rfl rfl hl.1 rfl (lv_room (Nat.le_of_ble_eq_true rfl)) dX2_putNumber_23 ⟨show (((0 + 0) + 0) + 0) + 0 ≤ 0 from (by omega), show (((0 + 0) + 0) + 0) + 0 ≤ 0 from (by omega)⟩) hS (fun q _ h => hFc q h) hFc (fun u dn_267 dm_268 t H locs ht hvm hq_266 hB hk1 hS => ?_)
                      obtain ⟨z_269, tl_270, F_271⟩ := u
                      obtain ⟨hP1, hK1, hD1⟩ := hB
                      rw [ht] at hP1
                      obtain ⟨hP, hD⟩ := xj (wr := []) (w1 := (pU cB o r n z_269 tl_270 F_271)) (ws' := (pU cB o r n z_269 tl_270 F_271)) hP hD [0, 1] [] [0, 1] rfl rfl (by decide) (by decide) hk1 hFc hP1 hD1 rfl (by decide)
                      refine W.eq (g2 := F0 m 26 ls []) rfl ?_
                      try dsimp only at hq_266
                      obtain ⟨hd272, hm272, hz272, ht272, hF272, hX272⟩ := hq_266
                      subst hd272
                      subst hm272
                      have hY272 := pt_X_app hY262 hX272
                      refine lv_iload_n hx hb dX2_putNumber_26 rfl (lv_at hl 0 rfl) ?_
                      refine lv_bipush (v := iz 10) hx hb dX2_putNumber_27 (by decide) ?_
                      refine ki_idiv hx hb dX2_putNumber_29 (by omega) (by omega) (by omega) (by omega) ?_
                      refine ki_is (show iz (1 / 10) = iz 0 from rfl) ?_
                      refine lv_istore_n (lv' := [(2, .int (iz 0)), (0, .ref o), (1, .int (iz p0))]) hx hb dX2_putNumber_30 rfl hl (by decide) rfl (fun ls hl => ?_)
                      refine lv_goto (tgt := 4) hx hb dX2_putNumber_31 (by decide) ?_
                      refine lv_iload_n hx hb dX2_putNumber_4 rfl (lv_at hl 0 rfl) ?_
                      refine ki_if_le (tgt := 34) hx hb dX2_putNumber_5 (by decide) (by omega) (by omega) (fun c_273 => ?_) (fun c_273 => ?_)
                      · skip
                        exact xk_vret (ov := (fun _ : Int × Int × (Int → Int) => none)) (post := (fun (u : Int × Int × (Int → Int)) (dn dm : Nat) => match u with | (z', tl', F') => dn = 0 ∧ dm = 0 ∧ (0 ≤ z' ∧ z' ≤ (n : Int)) ∧ (tl' = 0 ∨ tl' = 1) ∧ iB F' ∧ pt_X F z tl (pt_l (pt_nu p0)) F' z' tl')) (ws := (fun u : Int × Int × (Int → Int) => match u with | (z', tl', F') => (pU cB o r n z' tl' F'))) (tys := xT cI cB cE) (z_269, tl_270, F_271) hx hb hr hlocks rfl hP hD hK hS dX2_putNumber_34 (fun dn dm hdn hdm => ⟨by omega, by omega, by omega, by omega, hF272, pt_X_eq hY272 (by first | (exfalso; omega) | (unfold pt_nu pt_l; (first | rw [if_pos (show 10000 ≤ p0 by omega)] | rw [if_neg (show ¬ 10000 ≤ p0 by omega)]) ; (first | rw [if_pos (show 1000 ≤ p0 by omega)] | rw [if_neg (show ¬ 1000 ≤ p0 by omega)]) ; (first | rw [if_pos (show 100 ≤ p0 by omega)] | rw [if_neg (show ¬ 100 ≤ p0 by omega)]) ; (first | rw [if_pos (show 10 ≤ p0 by omega)] | rw [if_neg (show ¬ 10 ≤ p0 by omega)]) ; (first | rw [if_pos (show 1 ≤ p0 by omega)] | rw [if_neg (show ¬ 1 ≤ p0 by omega)]); rfl))⟩) (by omega) (by omega)
                      · omega
            · skip
              refine lv_aload_n hx hb dX2_putNumber_13 rfl (lv_at hl 1 rfl) ?_
              refine lv_bipush (v := iz 48) hx hb dX2_putNumber_14 (by decide) ?_
              refine lv_iload_n hx hb dX2_putNumber_16 rfl (lv_at hl 2 rfl) ?_
              refine lv_iload_n hx hb dX2_putNumber_17 rfl (lv_at hl 0 rfl) ?_
              refine ki_idiv hx hb dX2_putNumber_18 (by omega) (by omega) (by omega) (by omega) ?_
              refine lv_bipush (v := iz 10) hx hb dX2_putNumber_19 (by decide) ?_
              refine ki_irem hx hb dX2_putNumber_21 (by omega) (by omega) (by omega) (by omega) ?_
              refine ki_iadd hx hb dX2_putNumber_22 ?_
              have hPc := hP.sub (ws' := (pU cB o r n z_237 tl_238 F_239)) [0, 1] rfl
              have hDc := hD.sub (ws' := (pU cB o r n z_237 tl_238 F_239)) [0, 1] (by decide) rfl
              have hFc := va_free (wc := (pU cB o r n z_237 tl_238 F_239)) hD hS hA [0, 1] rfl
              refine xk_call (va_runV (As := [.int (iz (48 + ((p0 / 100) % 10)))]) (rest := []) ⟨hx, hb, hml, hown, hts⟩ (x_put2 l dC dI cI cB cE o r n z_237 tl_238 F_239 (48 + ((p0 / 100) % 10)) H.size (by omega) (by omega) hF240 hn6 (by omega) (by omega)) (cwV 1 hts (kx_gV kq_15_xspan_14 kq_15_xspan_15 kq_15_xspan_16 kq_15_xspan_17 kq_15_xspan_18 rfl) rfl rfl rfl (by decide +kernel) ⟨Nat.le_of_ble_eq_true rfl, Nat.le_of_ble_eq_true rfl⟩) ⟨kx_blind, va_recv hK hPc (ci := 2) (q0 := 0) rfl rfl, kx_give (ws := []) (tys := []) hPc hDc hK hG hZ hS hFc⟩ rfl rfl hl.1 rfl (lv_room (Nat.le_of_ble_eq_true rfl)) dX2_putNumber_23 ⟨show ((0 + 0) + 0) + 0 ≤ 0 from (by omega), show ((0 + 0) + 0) + 0 ≤ 0 from (by omega)⟩) hS (fun q _ h => hFc q h) hFc (fun u dn_275 dm_276 t H locs ht hvm hq_274 hB hk1 hS => ?_)
              obtain ⟨z_277, tl_278, F_279⟩ := u
              obtain ⟨hP1, hK1, hD1⟩ := hB
              rw [ht] at hP1
              obtain ⟨hP, hD⟩ := xj (wr := []) (w1 := (pU cB o r n z_277 tl_278 F_279)) (ws' := (pU cB o r n z_277 tl_278 F_279)) hP hD [0, 1] [] [0, 1] rfl rfl (by decide) (by decide) hk1 hFc hP1 hD1 rfl (by decide)
              refine W.eq (g2 := F0 m 26 ls []) rfl ?_
              try dsimp only at hq_274
              obtain ⟨hd280, hm280, hz280, ht280, hF280, hX280⟩ := hq_274
              subst hd280
              subst hm280
              have hY280 := pt_X_app hY240 hX280
              refine lv_iload_n hx hb dX2_putNumber_26 rfl (lv_at hl 0 rfl) ?_
              refine lv_bipush (v := iz 10) hx hb dX2_putNumber_27 (by decide) ?_
              refine ki_idiv hx hb dX2_putNumber_29 (by omega) (by omega) (by omega) (by omega) ?_
              refine ki_is (show iz (100 / 10) = iz 10 from rfl) ?_
              refine lv_istore_n (lv' := [(2, .int (iz 10)), (0, .ref o), (1, .int (iz p0))]) hx hb dX2_putNumber_30 rfl hl (by decide) rfl (fun ls hl => ?_)
              refine lv_goto (tgt := 4) hx hb dX2_putNumber_31 (by decide) ?_
              refine lv_iload_n hx hb dX2_putNumber_4 rfl (lv_at hl 0 rfl) ?_
              refine ki_if_le (tgt := 34) hx hb dX2_putNumber_5 (by decide) (by omega) (by omega) (fun c_281 => ?_) (fun c_281 => ?_)
              · omega
              · skip
                refine lv_iload_n hx hb dX2_putNumber_8 rfl (lv_at hl 2 rfl) ?_
                refine lv_iload_n hx hb dX2_putNumber_9 rfl (lv_at hl 0 rfl) ?_
                refine ki_icmp_lt (tgt := 26) hx hb dX2_putNumber_10 (by decide) (by omega) (by omega) (by omega) (by omega) (fun c_282 => ?_) (fun c_282 => ?_)
                · skip
                  refine lv_iload_n hx hb dX2_putNumber_26 rfl (lv_at hl 0 rfl) ?_
                  refine lv_bipush (v := iz 10) hx hb dX2_putNumber_27 (by decide) ?_
                  refine ki_idiv hx hb dX2_putNumber_29 (by omega) (by omega) (by omega) (by omega) ?_
                  refine ki_is (show iz (10 / 10) = iz 1 from rfl) ?_
                  refine lv_istore_n (lv' := [(2, .int (iz 1)), (0, .ref o), (1, .int (iz p0))]) hx hb dX2_putNumber_30 rfl hl (by decide) rfl (fun ls hl => ?_)
                  refine lv_goto (tgt := 4) hx hb dX2_putNumber_31 (by decide) ?_
                  refine lv_iload_n hx hb dX2_putNumber_4 rfl (lv_at hl 0 rfl) ?_
                  refine ki_if_le (tgt := 34) hx hb dX2_putNumber_5 (by decide) (by omega) (by omega) (fun c_283 => ?_) (fun c_283 => ?_)
                  · omega
                  · skip
                    refine lv_iload_n hx hb dX2_putNumber_8 rfl (lv_at hl 2 rfl) ?_
                    refine lv_iload_n hx hb dX2_putNumber_9 rfl (lv_at hl 0 rfl) ?_
                    refine ki_icmp_lt (tgt := 26) hx hb dX2_putNumber_10 (by decide) (by omega) (by omega) (by omega) (by omega) (fun c_284 => ?_) (fun c_284 => ?_)
                    · skip
                      refine lv_iload_n hx hb dX2_putNumber_26 rfl (lv_at hl 0 rfl) ?_
                      refine lv_bipush (v := iz 10) hx hb dX2_putNumber_27 (by decide) ?_
                      refine ki_idiv hx hb dX2_putNumber_29 (by omega) (by omega) (by omega) (by omega) ?_
                      refine ki_is (show iz (1 / 10) = iz 0 from rfl) ?_
                      refine lv_istore_n (lv' := [(2, .int (iz 0)), (0, .ref o), (1, .int (iz p0))]) hx hb dX2_putNumber_30 rfl hl (by decide) rfl (fun ls hl => ?_)
                      refine lv_goto (tgt := 4) hx hb dX2_putNumber_31 (by decide) ?_
                      refine lv_iload_n hx hb dX2_putNumber_4 rfl (lv_at hl 0 rfl) ?_
                      refine ki_if_le (tgt := 34) hx hb dX2_putNumber_5 (by decide) (by omega) (by omega) (fun c_285 => ?_) (fun c_285 => ?_)
                      · skip
                        exact xk_vret (ov := (fun _ : Int × Int × (Int → Int) => none)) (post := (fun (u : Int × Int × (Int → Int)) (dn dm : Nat) => match u with | (z', tl', F') => dn = 0 ∧ dm = 0 ∧ (0 ≤ z' ∧ z' ≤ (n : Int)) ∧ (tl' = 0 ∨ tl' = 1) ∧ iB F' ∧ pt_X F z tl (pt_l (pt_nu p0)) F' z' tl')) (ws := (fun u : Int × Int × (Int → Int) => match u with | (z', tl', F') => (pU cB o r n z' tl' F'))) (tys := xT cI cB cE) (z_277, tl_278, F_279) hx hb hr hlocks rfl hP hD hK hS dX2_putNumber_34 (fun dn dm hdn hdm => ⟨by omega, by omega, by omega, by omega, hF280, pt_X_eq hY280 (by first | (exfalso; omega) | (unfold pt_nu pt_l; (first | rw [if_pos (show 10000 ≤ p0 by omega)] | rw [if_neg (show ¬ 10000 ≤ p0 by omega)]) ; (first | rw [if_pos (show 1000 ≤ p0 by omega)] | rw [if_neg (show ¬ 1000 ≤ p0 by omega)]) ; (first | rw [if_pos (show 100 ≤ p0 by omega)] | rw [if_neg (show ¬ 100 ≤ p0 by omega)]) ; (first | rw [if_pos (show 10 ≤ p0 by omega)] | rw [if_neg (show ¬ 10 ≤ p0 by omega)]) ; (first | rw [if_pos (show 1 ≤ p0 by omega)] | rw [if_neg (show ¬ 1 ≤ p0 by omega)]); rfl))⟩) (by omega) (by omega)
                      · omega
                    · skip
                      refine lv_aload_n hx hb dX2_putNumber_13 rfl (lv_at hl 1 rfl) ?_
                      refine lv_bipush (v := iz 48) hx hb dX2_putNumber_14 (by decide) ?_
                      refine lv_iload_n hx hb dX2_putNumber_16 rfl (lv_at hl 2 rfl) ?_
                      refine lv_iload_n hx hb dX2_putNumber_17 rfl (lv_at hl 0 rfl) ?_
                      refine ki_idiv hx hb dX2_putNumber_18 (by omega) (by omega) (by omega) (by omega) ?_
                      refine lv_bipush (v := iz 10) hx hb dX2_putNumber_19 (by decide) ?_
                      refine ki_irem hx hb dX2_putNumber_21 (by omega) (by omega) (by omega) (by omega) ?_
                      refine ki_iadd hx hb dX2_putNumber_22 ?_
                      have hPc := hP.sub (ws' := (pU cB o r n z_277 tl_278 F_279)) [0, 1] rfl
                      have hDc := hD.sub (ws' := (pU cB o r n z_277 tl_278 F_279)) [0, 1] (by decide) rfl
                      have hFc := va_free (wc := (pU cB o r n z_277 tl_278 F_279)) hD hS hA [0, 1] rfl
                      refine xk_call (va_runV (As := [.int (iz (48 + ((p0 / 1) % 10)))]) (rest := []) ⟨hx, hb, hml, hown, hts⟩ (x_put2 l dC dI cI cB cE o r n z_277 tl_278 F_279 (48 + ((p0 / 1) % 10)) H.size (by omega) (by omega) hF280 hn6 (by omega) (by omega)) (cwV 1 hts (kx_gV kq_15_xspan_14 kq_15_xspan_15 kq_15_xspan_16 kq_15_xspan_17 kq_15_xspan_18 rfl) rfl rfl rfl (by decide +kernel) ⟨Nat.le_of_ble_eq_true rfl, Nat.le_of_ble_eq_true rfl⟩) ⟨kx_blind, va_recv hK hPc (ci := 2) (q0 := 0) rfl rfl, kx_give (ws := []) (tys := []) hPc hDc hK hG hZ hS hFc⟩ rfl rfl hl.1 rfl (lv_room (Nat.le_of_ble_eq_true rfl)) dX2_putNumber_23 ⟨show (((0 + 0) + 0) + 0) + 0 ≤ 0 from (by omega), show (((0 + 0) + 0) + 0) + 0 ≤ 0 from (by omega)⟩) hS (fun q _ h => hFc q h) hFc (fun u dn_287 dm_288 t H locs ht hvm hq_286 hB hk1 hS => ?_)
                      obtain ⟨z_289, tl_290, F_291⟩ := u
                      obtain ⟨hP1, hK1, hD1⟩ := hB
                      rw [ht] at hP1
                      obtain ⟨hP, hD⟩ := xj (wr := []) (w1 := (pU cB o r n z_289 tl_290 F_291)) (ws' := (pU cB o r n z_289 tl_290 F_291)) hP hD [0, 1] [] [0, 1] rfl rfl (by decide) (by decide) hk1 hFc hP1 hD1 rfl (by decide)
                      refine W.eq (g2 := F0 m 26 ls []) rfl ?_
                      try dsimp only at hq_286
                      obtain ⟨hd292, hm292, hz292, ht292, hF292, hX292⟩ := hq_286
                      subst hd292
                      subst hm292
                      have hY292 := pt_X_app hY280 hX292
                      refine lv_iload_n hx hb dX2_putNumber_26 rfl (lv_at hl 0 rfl) ?_
                      refine lv_bipush (v := iz 10) hx hb dX2_putNumber_27 (by decide) ?_
                      refine ki_idiv hx hb dX2_putNumber_29 (by omega) (by omega) (by omega) (by omega) ?_
                      refine ki_is (show iz (1 / 10) = iz 0 from rfl) ?_
                      refine lv_istore_n (lv' := [(2, .int (iz 0)), (0, .ref o), (1, .int (iz p0))]) hx hb dX2_putNumber_30 rfl hl (by decide) rfl (fun ls hl => ?_)
                      refine lv_goto (tgt := 4) hx hb dX2_putNumber_31 (by decide) ?_
                      refine lv_iload_n hx hb dX2_putNumber_4 rfl (lv_at hl 0 rfl) ?_
                      refine ki_if_le (tgt := 34) hx hb dX2_putNumber_5 (by decide) (by omega) (by omega) (fun c_293 => ?_) (fun c_293 => ?_)
                      · skip
                        exact xk_vret (ov := (fun _ : Int × Int × (Int → Int) => none)) (post := (fun (u : Int × Int × (Int → Int)) (dn dm : Nat) => match u with | (z', tl', F') => dn = 0 ∧ dm = 0 ∧ (0 ≤ z' ∧ z' ≤ (n : Int)) ∧ (tl' = 0 ∨ tl' = 1) ∧ iB F' ∧ pt_X F z tl (pt_l (pt_nu p0)) F' z' tl')) (ws := (fun u : Int × Int × (Int → Int) => match u with | (z', tl', F') => (pU cB o r n z' tl' F'))) (tys := xT cI cB cE) (z_289, tl_290, F_291) hx hb hr hlocks rfl hP hD hK hS dX2_putNumber_34 (fun dn dm hdn hdm => ⟨by omega, by omega, by omega, by omega, hF292, pt_X_eq hY292 (by first | (exfalso; omega) | (unfold pt_nu pt_l; (first | rw [if_pos (show 10000 ≤ p0 by omega)] | rw [if_neg (show ¬ 10000 ≤ p0 by omega)]) ; (first | rw [if_pos (show 1000 ≤ p0 by omega)] | rw [if_neg (show ¬ 1000 ≤ p0 by omega)]) ; (first | rw [if_pos (show 100 ≤ p0 by omega)] | rw [if_neg (show ¬ 100 ≤ p0 by omega)]) ; (first | rw [if_pos (show 10 ≤ p0 by omega)] | rw [if_neg (show ¬ 10 ≤ p0 by omega)]) ; (first | rw [if_pos (show 1 ≤ p0 by omega)] | rw [if_neg (show ¬ 1 ≤ p0 by omega)]); rfl))⟩) (by omega) (by omega)
                      · omega
                · skip
                  refine lv_aload_n hx hb dX2_putNumber_13 rfl (lv_at hl 1 rfl) ?_
                  refine lv_bipush (v := iz 48) hx hb dX2_putNumber_14 (by decide) ?_
                  refine lv_iload_n hx hb dX2_putNumber_16 rfl (lv_at hl 2 rfl) ?_
                  refine lv_iload_n hx hb dX2_putNumber_17 rfl (lv_at hl 0 rfl) ?_
                  refine ki_idiv hx hb dX2_putNumber_18 (by omega) (by omega) (by omega) (by omega) ?_
                  refine lv_bipush (v := iz 10) hx hb dX2_putNumber_19 (by decide) ?_
                  refine ki_irem hx hb dX2_putNumber_21 (by omega) (by omega) (by omega) (by omega) ?_
                  refine ki_iadd hx hb dX2_putNumber_22 ?_
                  have hPc := hP.sub (ws' := (pU cB o r n z_277 tl_278 F_279)) [0, 1] rfl
                  have hDc := hD.sub (ws' := (pU cB o r n z_277 tl_278 F_279)) [0, 1] (by decide) rfl
                  have hFc := va_free (wc := (pU cB o r n z_277 tl_278 F_279)) hD hS hA [0, 1] rfl
                  refine xk_call (va_runV (As := [.int (iz (48 + ((p0 / 10) % 10)))]) (rest := []) ⟨hx, hb, hml, hown, hts⟩ (x_put2 l dC dI cI cB cE o r n z_277 tl_278 F_279 (48 + ((p0 / 10) % 10)) H.size (by omega) (by omega) hF280 hn6 (by omega) (by omega)) (cwV 1 hts (kx_gV kq_15_xspan_14 kq_15_xspan_15 kq_15_xspan_16 kq_15_xspan_17 kq_15_xspan_18 rfl) rfl rfl rfl (by decide +kernel) ⟨Nat.le_of_ble_eq_true rfl, Nat.le_of_ble_eq_true rfl⟩) ⟨kx_blind, va_recv hK hPc (ci := 2) (q0 := 0) rfl rfl, kx_give (ws := []) (tys := []) hPc hDc hK hG hZ hS hFc⟩ rfl rfl hl.1 rfl (lv_room (Nat.le_of_ble_eq_true rfl)) dX2_putNumber_23 ⟨show (((0 + 0) + 0) + 0) + 0 ≤ 0 from (by omega), show (((0 + 0) + 0) + 0) + 0 ≤ 0 from (by omega)⟩) hS (fun q _ h => hFc q h) hFc (fun u dn_295 dm_296 t H locs ht hvm hq_294 hB hk1 hS => ?_)
                  obtain ⟨z_297, tl_298, F_299⟩ := u
                  obtain ⟨hP1, hK1, hD1⟩ := hB
                  rw [ht] at hP1
                  obtain ⟨hP, hD⟩ := xj (wr := []) (w1 := (pU cB o r n z_297 tl_298 F_299)) (ws' := (pU cB o r n z_297 tl_298 F_299)) hP hD [0, 1] [] [0, 1] rfl rfl (by decide) (by decide) hk1 hFc hP1 hD1 rfl (by decide)
                  refine W.eq (g2 := F0 m 26 ls []) rfl ?_
                  try dsimp only at hq_294
                  obtain ⟨hd300, hm300, hz300, ht300, hF300, hX300⟩ := hq_294
                  subst hd300
                  subst hm300
                  have hY300 := pt_X_app hY280 hX300
                  refine lv_iload_n hx hb dX2_putNumber_26 rfl (lv_at hl 0 rfl) ?_
                  refine lv_bipush (v := iz 10) hx hb dX2_putNumber_27 (by decide) ?_
                  refine ki_idiv hx hb dX2_putNumber_29 (by omega) (by omega) (by omega) (by omega) ?_
                  refine ki_is (show iz (10 / 10) = iz 1 from rfl) ?_
                  refine lv_istore_n (lv' := [(2, .int (iz 1)), (0, .ref o), (1, .int (iz p0))]) hx hb dX2_putNumber_30 rfl hl (by decide) rfl (fun ls hl => ?_)
                  refine lv_goto (tgt := 4) hx hb dX2_putNumber_31 (by decide) ?_
                  refine lv_iload_n hx hb dX2_putNumber_4 rfl (lv_at hl 0 rfl) ?_
                  refine ki_if_le (tgt := 34) hx hb dX2_putNumber_5 (by decide) (by omega) (by omega) (fun c_301 => ?_) (fun c_301 => ?_)
                  · omega
                  · skip
                    refine lv_iload_n hx hb dX2_putNumber_8 rfl (lv_at hl 2 rfl) ?_
                    refine lv_iload_n hx hb dX2_putNumber_9 rfl (lv_at hl 0 rfl) ?_
                    refine ki_icmp_lt (tgt := 26) hx hb dX2_putNumber_10 (by decide) (by omega) (by omega) (by omega) (by omega) (fun c_302 => ?_) (fun c_302 => ?_)
                    · skip
                      refine lv_iload_n hx hb dX2_putNumber_26 rfl (lv_at hl 0 rfl) ?_
                      refine lv_bipush (v := iz 10) hx hb dX2_putNumber_27 (by decide) ?_
                      refine ki_idiv hx hb dX2_putNumber_29 (by omega) (by omega) (by omega) (by omega) ?_
                      refine ki_is (show iz (1 / 10) = iz 0 from rfl) ?_
                      refine lv_istore_n (lv' := [(2, .int (iz 0)), (0, .ref o), (1, .int (iz p0))]) hx hb dX2_putNumber_30 rfl hl (by decide) rfl (fun ls hl => ?_)
                      refine lv_goto (tgt := 4) hx hb dX2_putNumber_31 (by decide) ?_
                      refine lv_iload_n hx hb dX2_putNumber_4 rfl (lv_at hl 0 rfl) ?_
                      refine ki_if_le (tgt := 34) hx hb dX2_putNumber_5 (by decide) (by omega) (by omega) (fun c_303 => ?_) (fun c_303 => ?_)
                      · skip
                        exact xk_vret (ov := (fun _ : Int × Int × (Int → Int) => none)) (post := (fun (u : Int × Int × (Int → Int)) (dn dm : Nat) => match u with | (z', tl', F') => dn = 0 ∧ dm = 0 ∧ (0 ≤ z' ∧ z' ≤ (n : Int)) ∧ (tl' = 0 ∨ tl' = 1) ∧ iB F' ∧ pt_X F z tl (pt_l (pt_nu p0)) F' z' tl')) (ws := (fun u : Int × Int × (Int → Int) => match u with | (z', tl', F') => (pU cB o r n z' tl' F'))) (tys := xT cI cB cE) (z_297, tl_298, F_299) hx hb hr hlocks rfl hP hD hK hS dX2_putNumber_34 (fun dn dm hdn hdm => ⟨by omega, by omega, by omega, by omega, hF300, pt_X_eq hY300 (by first | (exfalso; omega) | (unfold pt_nu pt_l; (first | rw [if_pos (show 10000 ≤ p0 by omega)] | rw [if_neg (show ¬ 10000 ≤ p0 by omega)]) ; (first | rw [if_pos (show 1000 ≤ p0 by omega)] | rw [if_neg (show ¬ 1000 ≤ p0 by omega)]) ; (first | rw [if_pos (show 100 ≤ p0 by omega)] | rw [if_neg (show ¬ 100 ≤ p0 by omega)]) ; (first | rw [if_pos (show 10 ≤ p0 by omega)] | rw [if_neg (show ¬ 10 ≤ p0 by omega)]) ; (first | rw [if_pos (show 1 ≤ p0 by omega)] | rw [if_neg (show ¬ 1 ≤ p0 by omega)]); rfl))⟩) (by omega) (by omega)
                      · omega
                    · skip
                      refine lv_aload_n hx hb dX2_putNumber_13 rfl (lv_at hl 1 rfl) ?_
                      refine lv_bipush (v := iz 48) hx hb dX2_putNumber_14 (by decide) ?_
                      refine lv_iload_n hx hb dX2_putNumber_16 rfl (lv_at hl 2 rfl) ?_
                      refine lv_iload_n hx hb dX2_putNumber_17 rfl (lv_at hl 0 rfl) ?_
                      refine ki_idiv hx hb dX2_putNumber_18 (by omega) (by omega) (by omega) (by omega) ?_
                      refine lv_bipush (v := iz 10) hx hb dX2_putNumber_19 (by decide) ?_
                      refine ki_irem hx hb dX2_putNumber_21 (by omega) (by omega) (by omega) (by omega) ?_
                      refine ki_iadd hx hb dX2_putNumber_22 ?_
                      have hPc := hP.sub (ws' := (pU cB o r n z_297 tl_298 F_299)) [0, 1] rfl
                      have hDc := hD.sub (ws' := (pU cB o r n z_297 tl_298 F_299)) [0, 1] (by decide) rfl
                      have hFc := va_free (wc := (pU cB o r n z_297 tl_298 F_299)) hD hS hA [0, 1] rfl
                      refine xk_call (va_runV (As := [.int (iz (48 + ((p0 / 1) % 10)))]) (rest := []) ⟨hx, hb, hml, hown, hts⟩ (x_put2 l dC dI cI cB cE o r n z_297 tl_298 F_299 (48 + ((p0 / 1) % 10)) H.size (by omega) (by omega) hF300 hn6 (by omega) (by omega)) (cwV 1 hts (kx_gV kq_15_xspan_14 kq_15_xspan_15 kq_15_xspan_16 kq_15_xspan_17 kq_15_xspan_18 rfl) rfl rfl rfl (by decide +kernel) ⟨Nat.le_of_ble_eq_true rfl, Nat.le_of_ble_eq_true rfl⟩) ⟨kx_blind, va_recv hK hPc (ci := 2) (q0 := 0) rfl rfl, kx_give (ws := []) (tys := []) hPc hDc hK hG hZ hS hFc⟩ rfl rfl hl.1 rfl (lv_room (Nat.le_of_ble_eq_true rfl)) dX2_putNumber_23 ⟨show ((((0 + 0) + 0) + 0) + 0) + 0 ≤ 0 from (by omega), show ((((0 + 0) + 0) + 0) + 0) + 0 ≤ 0 from (by omega)⟩) hS (fun q _ h => hFc q h) hFc (fun u dn_305 dm_306 t H locs ht hvm hq_304 hB hk1 hS => ?_)
                      obtain ⟨z_307, tl_308, F_309⟩ := u
                      obtain ⟨hP1, hK1, hD1⟩ := hB
                      rw [ht] at hP1
                      obtain ⟨hP, hD⟩ := xj (wr := []) (w1 := (pU cB o r n z_307 tl_308 F_309)) (ws' := (pU cB o r n z_307 tl_308 F_309)) hP hD [0, 1] [] [0, 1] rfl rfl (by decide) (by decide) hk1 hFc hP1 hD1 rfl (by decide)
                      refine W.eq (g2 := F0 m 26 ls []) rfl ?_
                      try dsimp only at hq_304
                      obtain ⟨hd310, hm310, hz310, ht310, hF310, hX310⟩ := hq_304
                      subst hd310
                      subst hm310
                      have hY310 := pt_X_app hY300 hX310
                      refine lv_iload_n hx hb dX2_putNumber_26 rfl (lv_at hl 0 rfl) ?_
                      refine lv_bipush (v := iz 10) hx hb dX2_putNumber_27 (by decide) ?_
                      refine ki_idiv hx hb dX2_putNumber_29 (by omega) (by omega) (by omega) (by omega) ?_
                      refine ki_is (show iz (1 / 10) = iz 0 from rfl) ?_
                      refine lv_istore_n (lv' := [(2, .int (iz 0)), (0, .ref o), (1, .int (iz p0))]) hx hb dX2_putNumber_30 rfl hl (by decide) rfl (fun ls hl => ?_)
                      refine lv_goto (tgt := 4) hx hb dX2_putNumber_31 (by decide) ?_
                      refine lv_iload_n hx hb dX2_putNumber_4 rfl (lv_at hl 0 rfl) ?_
                      refine ki_if_le (tgt := 34) hx hb dX2_putNumber_5 (by decide) (by omega) (by omega) (fun c_311 => ?_) (fun c_311 => ?_)
                      · skip
                        exact xk_vret (ov := (fun _ : Int × Int × (Int → Int) => none)) (post := (fun (u : Int × Int × (Int → Int)) (dn dm : Nat) => match u with | (z', tl', F') => dn = 0 ∧ dm = 0 ∧ (0 ≤ z' ∧ z' ≤ (n : Int)) ∧ (tl' = 0 ∨ tl' = 1) ∧ iB F' ∧ pt_X F z tl (pt_l (pt_nu p0)) F' z' tl')) (ws := (fun u : Int × Int × (Int → Int) => match u with | (z', tl', F') => (pU cB o r n z' tl' F'))) (tys := xT cI cB cE) (z_307, tl_308, F_309) hx hb hr hlocks rfl hP hD hK hS dX2_putNumber_34 (fun dn dm hdn hdm => ⟨by omega, by omega, by omega, by omega, hF310, pt_X_eq hY310 (by first | (exfalso; omega) | (unfold pt_nu pt_l; (first | rw [if_pos (show 10000 ≤ p0 by omega)] | rw [if_neg (show ¬ 10000 ≤ p0 by omega)]) ; (first | rw [if_pos (show 1000 ≤ p0 by omega)] | rw [if_neg (show ¬ 1000 ≤ p0 by omega)]) ; (first | rw [if_pos (show 100 ≤ p0 by omega)] | rw [if_neg (show ¬ 100 ≤ p0 by omega)]) ; (first | rw [if_pos (show 10 ≤ p0 by omega)] | rw [if_neg (show ¬ 10 ≤ p0 by omega)]) ; (first | rw [if_pos (show 1 ≤ p0 by omega)] | rw [if_neg (show ¬ 1 ≤ p0 by omega)]); rfl))⟩) (by omega) (by omega)
                      · omega
set_option maxHeartbeats 4000000 in
set_option maxRecDepth 100000 in
theorem x_putLetters2 (l : Launch) (dC : Nat → ClassId) (dI : Nat → Nat → Nat) (cI cB cE : ClassId) (o : Nat) (r : Nat) (n : Nat) (z : Int) (tl : Int) (F : Int → Int) (p0 : Int) (sz : Nat) (hok : 0 ≤ z ∧ z ≤ (n : Int) ∧ (n = 0 ∨ n = 6000)) (ht : tl = 0 ∨ tl = 1) (hF : iB F) (hn6 : n = 6000) (hd9 : 1 ≤ p0 ∧ p0 ≤ 702) (hp01 : -2147483648 ≤ p0) (hp02 : p0 < 2147483648) : Met l yX2_putLetters [.code yX2_putLetters cX2_putLetters 2 none] ({ frames := 1, cells := 0, slots := 0, locals := 21 }) (va_Pc [.ref o, .int (iz p0)] (kx_Pre dC dI (pU cB o r n z tl F) (xT cI cB cE) sz)) (xQ (fun _ : Int × Int × (Int → Int) => none) (fun (u : Int × Int × (Int → Int)) (dn dm : Nat) => match u with | (z', tl', F') => dn = 0 ∧ dm = 0 ∧ (0 ≤ z' ∧ z' ≤ (n : Int)) ∧ (tl' = 0 ∨ tl' = 1) ∧ iB F' ∧ pt_X F z tl (pt_l (pt_le p0)) F' z' tl') (fun u t => kx_At dC dI (va_A (pU cB o r n z tl F) sz) ((fun u : Int × Int × (Int → Int) => match u with | (z', tl', F') => (pU cB o r n z' tl' F')) u) (xT cI cB cE) t) (va_A (pU cB o r n z tl F) sz)) 0 0 (va_A (pU cB o r n z tl F) sz) := by
  refine Met.ofW (cc := cX2_putLetters) (maxL := 2) (ret := none) (by decide) rfl ?_
  intro p e s m args below meth c s₁ B hml hv
  obtain ⟨rfl, hsz, hP, hK, hD0, hG, hZ⟩ := hv
  have hx := B.exec
  have hb := B.bytes
  have hr := B.returns
  have hts := kx_hts (a := ([.ref o, .int (iz p0)] : List Value).toArray) hG
  have hown : s.vm.findClass RX2 = some m.cls := findClass_of_methodNamed B.named
  have hlocks := B.notSynchronized
  subst hsz
  have hD := hD0.self (sz := s.heap.size)
  generalize hAe : va_A (pU cB o r n z tl F) s.heap.size = A at hD hZ ⊢
  have hA : ∀ q : Nat, s.heap.size ≤ q → A q := fun q h => by rw [← hAe]; exact Or.inr h
  have hS : va_S A s.heap s.heap [] := va_S.rf
  have hl := lv_entry ([.ref o, .int (iz p0)]) (n := 2) (Nat.le_of_ble_eq_true rfl)
  rw [lg_entry_eq]
  generalize (lg_sl ([.ref o, .int (iz p0)]) ++ List.replicate (2 - (lg_sl ([.ref o, .int (iz p0)])).length) Slot.unset).toArray = ls at hl ⊢
  have hl : lv_has ls 2 [(0, .ref o), (1, .int (iz p0))] := hl
  have hX0 := pt_X_nil F z tl
  refine lv_iload_n hx hb dX2_putLetters_0 rfl (lv_at hl 1 rfl) ?_
  refine lv_bipush (v := iz 26) hx hb dX2_putLetters_1 (by decide) ?_
  refine ki_icmp_le (tgt := 21) hx hb dX2_putLetters_3 (by decide) (by omega) (by omega) (by omega) (by omega) (fun c_1 => ?_) (fun c_1 => ?_)
  · skip
    refine lv_aload_n hx hb dX2_putLetters_21 rfl (lv_at hl 0 rfl) ?_
    refine lv_bipush (v := iz 97) hx hb dX2_putLetters_22 (by decide) ?_
    refine lv_iload_n hx hb dX2_putLetters_24 rfl (lv_at hl 1 rfl) ?_
    refine lv_iconst (v := iz 1) hx hb dX2_putLetters_25 (by decide) ?_
    refine ki_isub hx hb dX2_putLetters_26 ?_
    refine lv_bipush (v := iz 26) hx hb dX2_putLetters_27 (by decide) ?_
    refine ki_irem hx hb dX2_putLetters_29 (by omega) (by omega) (by omega) (by omega) ?_
    refine ki_iadd hx hb dX2_putLetters_30 ?_
    have hPc := hP.sub (ws' := (pU cB o r n z tl F)) [0, 1] rfl
    have hDc := hD.sub (ws' := (pU cB o r n z tl F)) [0, 1] (by decide) rfl
    have hFc := va_free (wc := (pU cB o r n z tl F)) hD hS hA [0, 1] rfl
    refine xk_call (va_runV (As := [.int (iz (97 + ((p0 - 1) % 26)))]) (rest := []) ⟨hx, hb, hml, hown, hts⟩ (x_put2 l dC dI cI cB cE o r n z tl F (97 + ((p0 - 1) % 26)) s.heap.size (by omega) (by omega) hF hn6 (by omega) (by omega)) (cwV 1 hts (kx_gV kq_15_xspan_14 kq_15_xspan_15 kq_15_xspan_16 kq_15_xspan_17 kq_15_xspan_18 rfl) rfl rfl rfl (by decide +kernel) ⟨Nat.le_of_ble_eq_true rfl, Nat.le_of_ble_eq_true rfl⟩) ⟨kx_blind, va_recv hK hPc (ci := 2) (q0 := 0) rfl rfl, kx_give (ws := []) (tys := []) hPc hDc hK hG hZ hS hFc⟩ rfl rfl hl.1 rfl (lv_room (Nat.le_of_ble_eq_true rfl)) dX2_putLetters_31 ⟨show 0 + 0 ≤ 0 from (by omega), show 0 + 0 ≤ 0 from (by omega)⟩) hS (fun q _ h => hFc q h) hFc (fun u dn_3 dm_4 t H locs ht hvm hq_2 hB hk1 hS => ?_)
    obtain ⟨z_5, tl_6, F_7⟩ := u
    obtain ⟨hP1, hK1, hD1⟩ := hB
    rw [ht] at hP1
    obtain ⟨hP, hD⟩ := xj (wr := []) (w1 := (pU cB o r n z_5 tl_6 F_7)) (ws' := (pU cB o r n z_5 tl_6 F_7)) hP hD [0, 1] [] [0, 1] rfl rfl (by decide) (by decide) hk1 hFc hP1 hD1 rfl (by decide)
    refine W.eq (g2 := F0 m 34 ls []) rfl ?_
    try dsimp only at hq_2
    obtain ⟨hd8, hm8, hz8, ht8, hF8, hX8⟩ := hq_2
    subst hd8
    subst hm8
    have hY8 := pt_X_app hX0 hX8
    exact xk_vret (ov := (fun _ : Int × Int × (Int → Int) => none)) (post := (fun (u : Int × Int × (Int → Int)) (dn dm : Nat) => match u with | (z', tl', F') => dn = 0 ∧ dm = 0 ∧ (0 ≤ z' ∧ z' ≤ (n : Int)) ∧ (tl' = 0 ∨ tl' = 1) ∧ iB F' ∧ pt_X F z tl (pt_l (pt_le p0)) F' z' tl')) (ws := (fun u : Int × Int × (Int → Int) => match u with | (z', tl', F') => (pU cB o r n z' tl' F'))) (tys := xT cI cB cE) (z_5, tl_6, F_7) hx hb hr hlocks rfl hP hD hK hS dX2_putLetters_34 (fun dn dm hdn hdm => ⟨by omega, by omega, by omega, by omega, hF8, pt_X_eq hY8 (by unfold pt_le pt_l; first | (rw [if_pos (show 26 < p0 by omega)]; rfl) | (rw [if_neg (show ¬ 26 < p0 by omega)]; rfl))⟩) (by omega) (by omega)
  · skip
    refine lv_aload_n hx hb dX2_putLetters_6 rfl (lv_at hl 0 rfl) ?_
    refine lv_bipush (v := iz 97) hx hb dX2_putLetters_7 (by decide) ?_
    refine lv_iload_n hx hb dX2_putLetters_9 rfl (lv_at hl 1 rfl) ?_
    refine lv_iconst (v := iz 1) hx hb dX2_putLetters_10 (by decide) ?_
    refine ki_isub hx hb dX2_putLetters_11 ?_
    refine lv_bipush (v := iz 26) hx hb dX2_putLetters_12 (by decide) ?_
    refine ki_idiv hx hb dX2_putLetters_14 (by omega) (by omega) (by omega) (by omega) ?_
    refine ki_iadd hx hb dX2_putLetters_15 ?_
    refine lv_iconst (v := iz 1) hx hb dX2_putLetters_16 (by decide) ?_
    refine ki_isub hx hb dX2_putLetters_17 ?_
    have hPc := hP.sub (ws' := (pU cB o r n z tl F)) [0, 1] rfl
    have hDc := hD.sub (ws' := (pU cB o r n z tl F)) [0, 1] (by decide) rfl
    have hFc := va_free (wc := (pU cB o r n z tl F)) hD hS hA [0, 1] rfl
    refine xk_call (va_runV (As := [.int (iz ((97 + ((p0 - 1) / 26)) - 1))]) (rest := []) ⟨hx, hb, hml, hown, hts⟩ (x_put2 l dC dI cI cB cE o r n z tl F ((97 + ((p0 - 1) / 26)) - 1) s.heap.size (by omega) (by omega) hF hn6 (by omega) (by omega)) (cwV 1 hts (kx_gV kq_15_xspan_14 kq_15_xspan_15 kq_15_xspan_16 kq_15_xspan_17 kq_15_xspan_18 rfl) rfl rfl rfl (by decide +kernel) ⟨Nat.le_of_ble_eq_true rfl, Nat.le_of_ble_eq_true rfl⟩) ⟨kx_blind, va_recv hK hPc (ci := 2) (q0 := 0) rfl rfl, kx_give (ws := []) (tys := []) hPc hDc hK hG hZ hS hFc⟩ rfl rfl hl.1 rfl (lv_room (Nat.le_of_ble_eq_true rfl)) dX2_putLetters_18 ⟨show 0 + 0 ≤ 0 from (by omega), show 0 + 0 ≤ 0 from (by omega)⟩) hS (fun q _ h => hFc q h) hFc (fun u dn_10 dm_11 t H locs ht hvm hq_9 hB hk1 hS => ?_)
    obtain ⟨z_12, tl_13, F_14⟩ := u
    obtain ⟨hP1, hK1, hD1⟩ := hB
    rw [ht] at hP1
    obtain ⟨hP, hD⟩ := xj (wr := []) (w1 := (pU cB o r n z_12 tl_13 F_14)) (ws' := (pU cB o r n z_12 tl_13 F_14)) hP hD [0, 1] [] [0, 1] rfl rfl (by decide) (by decide) hk1 hFc hP1 hD1 rfl (by decide)
    refine W.eq (g2 := F0 m 21 ls []) rfl ?_
    try dsimp only at hq_9
    obtain ⟨hd15, hm15, hz15, ht15, hF15, hX15⟩ := hq_9
    subst hd15
    subst hm15
    have hY15 := pt_X_app hX0 hX15
    refine lv_aload_n hx hb dX2_putLetters_21 rfl (lv_at hl 0 rfl) ?_
    refine lv_bipush (v := iz 97) hx hb dX2_putLetters_22 (by decide) ?_
    refine lv_iload_n hx hb dX2_putLetters_24 rfl (lv_at hl 1 rfl) ?_
    refine lv_iconst (v := iz 1) hx hb dX2_putLetters_25 (by decide) ?_
    refine ki_isub hx hb dX2_putLetters_26 ?_
    refine lv_bipush (v := iz 26) hx hb dX2_putLetters_27 (by decide) ?_
    refine ki_irem hx hb dX2_putLetters_29 (by omega) (by omega) (by omega) (by omega) ?_
    refine ki_iadd hx hb dX2_putLetters_30 ?_
    have hPc := hP.sub (ws' := (pU cB o r n z_12 tl_13 F_14)) [0, 1] rfl
    have hDc := hD.sub (ws' := (pU cB o r n z_12 tl_13 F_14)) [0, 1] (by decide) rfl
    have hFc := va_free (wc := (pU cB o r n z_12 tl_13 F_14)) hD hS hA [0, 1] rfl
    refine xk_call (va_runV (As := [.int (iz (97 + ((p0 - 1) % 26)))]) (rest := []) ⟨hx, hb, hml, hown, hts⟩ (x_put2 l dC dI cI cB cE o r n z_12 tl_13 F_14 (97 + ((p0 - 1) % 26)) H.size (by omega) (by omega) hF15 hn6 (by omega) (by omega)) (cwV 1 hts (kx_gV kq_15_xspan_14 kq_15_xspan_15 kq_15_xspan_16 kq_15_xspan_17 kq_15_xspan_18 rfl) rfl rfl rfl (by decide +kernel) ⟨Nat.le_of_ble_eq_true rfl, Nat.le_of_ble_eq_true rfl⟩) ⟨kx_blind, va_recv hK hPc (ci := 2) (q0 := 0) rfl rfl, kx_give (ws := []) (tys := []) hPc hDc hK hG hZ hS hFc⟩ rfl rfl hl.1 rfl (lv_room (Nat.le_of_ble_eq_true rfl)) dX2_putLetters_31 ⟨show (0 + 0) + 0 ≤ 0 from (by omega), show (0 + 0) + 0 ≤ 0 from (by omega)⟩) hS (fun q _ h => hFc q h) hFc (fun u dn_17 dm_18 t H locs ht hvm hq_16 hB hk1 hS => ?_)
    obtain ⟨z_19, tl_20, F_21⟩ := u
    obtain ⟨hP1, hK1, hD1⟩ := hB
    rw [ht] at hP1
    obtain ⟨hP, hD⟩ := xj (wr := []) (w1 := (pU cB o r n z_19 tl_20 F_21)) (ws' := (pU cB o r n z_19 tl_20 F_21)) hP hD [0, 1] [] [0, 1] rfl rfl (by decide) (by decide) hk1 hFc hP1 hD1 rfl (by decide)
    refine W.eq (g2 := F0 m 34 ls []) rfl ?_
    try dsimp only at hq_16
    obtain ⟨hd22, hm22, hz22, ht22, hF22, hX22⟩ := hq_16
    subst hd22
    subst hm22
    have hY22 := pt_X_app hY15 hX22
    exact xk_vret (ov := (fun _ : Int × Int × (Int → Int) => none)) (post := (fun (u : Int × Int × (Int → Int)) (dn dm : Nat) => match u with | (z', tl', F') => dn = 0 ∧ dm = 0 ∧ (0 ≤ z' ∧ z' ≤ (n : Int)) ∧ (tl' = 0 ∨ tl' = 1) ∧ iB F' ∧ pt_X F z tl (pt_l (pt_le p0)) F' z' tl')) (ws := (fun u : Int × Int × (Int → Int) => match u with | (z', tl', F') => (pU cB o r n z' tl' F'))) (tys := xT cI cB cE) (z_19, tl_20, F_21) hx hb hr hlocks rfl hP hD hK hS dX2_putLetters_34 (fun dn dm hdn hdm => ⟨by omega, by omega, by omega, by omega, hF22, pt_X_eq hY22 (by unfold pt_le pt_l; first | (rw [if_pos (show 26 < p0 by omega)]; rfl) | (rw [if_neg (show ¬ 26 < p0 by omega)]; rfl))⟩) (by omega) (by omega)
set_option maxHeartbeats 4000000 in
set_option maxRecDepth 100000 in
theorem x_putPage2 (l : Launch) (dC : Nat → ClassId) (dI : Nat → Nat → Nat) (cI cB cE : ClassId) (o : Nat) (r : Nat) (n : Nat) (z : Int) (tl : Int) (F : Int → Int) (p0 : Int) (sz : Nat) (hok : 0 ≤ z ∧ z ≤ (n : Int) ∧ (n = 0 ∨ n = 6000)) (ht : tl = 0 ∨ tl = 1) (hF : iB F) (hn6 : n = 6000) (hpg : 0 ≤ p0 ∧ p0 < 300000 ∧ 1 ≤ p0 % 100000 ∧ (p0 / 100000 = 0 → p0 % 100000 ≤ 3999) ∧ (p0 / 100000 = 2 → p0 % 100000 ≤ 702)) (hp01 : -2147483648 ≤ p0) (hp02 : p0 < 2147483648) : Met l yX2_putPage [.code yX2_putPage cX2_putPage 3 none] ({ frames := 2, cells := 0, slots := 0, locals := 46 }) (va_Pc [.ref o, .int (iz p0)] (kx_Pre dC dI (pU cB o r n z tl F) (xT cI cB cE) sz)) (xQ (fun _ : Int × Int × (Int → Int) => none) (fun (u : Int × Int × (Int → Int)) (dn dm : Nat) => match u with | (z', tl', F') => dn = 0 ∧ dm = 0 ∧ (0 ≤ z' ∧ z' ≤ (n : Int)) ∧ (tl' = 0 ∨ tl' = 1) ∧ iB F' ∧ pt_X F z tl (pt_l (pt_pg (p0 / 100000) (p0 % 100000))) F' z' tl') (fun u t => kx_At dC dI (va_A (pU cB o r n z tl F) sz) ((fun u : Int × Int × (Int → Int) => match u with | (z', tl', F') => (pU cB o r n z' tl' F')) u) (xT cI cB cE) t) (va_A (pU cB o r n z tl F) sz)) 0 0 (va_A (pU cB o r n z tl F) sz) := by
  refine Met.ofW (cc := cX2_putPage) (maxL := 3) (ret := none) (by decide) rfl ?_
  intro p e s m args below meth c s₁ B hml hv
  obtain ⟨rfl, hsz, hP, hK, hD0, hG, hZ⟩ := hv
  have hx := B.exec
  have hb := B.bytes
  have hr := B.returns
  have hts := kx_hts (a := ([.ref o, .int (iz p0)] : List Value).toArray) hG
  have hown : s.vm.findClass RX2 = some m.cls := findClass_of_methodNamed B.named
  have hlocks := B.notSynchronized
  subst hsz
  have hD := hD0.self (sz := s.heap.size)
  generalize hAe : va_A (pU cB o r n z tl F) s.heap.size = A at hD hZ ⊢
  have hA : ∀ q : Nat, s.heap.size ≤ q → A q := fun q h => by rw [← hAe]; exact Or.inr h
  have hS : va_S A s.heap s.heap [] := va_S.rf
  have hl := lv_entry ([.ref o, .int (iz p0)]) (n := 3) (Nat.le_of_ble_eq_true rfl)
  rw [lg_entry_eq]
  generalize (lg_sl ([.ref o, .int (iz p0)]) ++ List.replicate (3 - (lg_sl ([.ref o, .int (iz p0)])).length) Slot.unset).toArray = ls at hl ⊢
  have hl : lv_has ls 3 [(0, .ref o), (1, .int (iz p0))] := hl
  have hX0 := pt_X_nil F z tl
  refine lv_iload_n hx hb dX2_putPage_0 rfl (lv_at hl 1 rfl) ?_
  refine lv_ldc (v := 100000) hx hb hown (kx_word hG kq_15_xspan_19 rfl) dX2_putPage_1 ?_
  refine ki_is (show (100000 : Int32) = iz 100000 by decide) ?_
  refine ki_irem hx hb dX2_putPage_3 (by omega) (by omega) (by omega) (by omega) ?_
  refine lv_istore_n (lv' := [(2, .int (iz (p0 % 100000))), (0, .ref o), (1, .int (iz p0))]) hx hb dX2_putPage_4 rfl hl (by decide) rfl (fun ls hl => ?_)
  refine lv_iload_n hx hb dX2_putPage_5 rfl (lv_at hl 2 rfl) ?_
  refine lv_ldc (v := 100000) hx hb hown (kx_word hG kq_15_xspan_19 rfl) dX2_putPage_6 ?_
  refine ki_is (show (100000 : Int32) = iz 100000 by decide) ?_
  refine ki_idiv hx hb dX2_putPage_8 (by omega) (by omega) (by omega) (by omega) ?_
  by_cases hsw_1 : p0 / 100000 = 0
  · skip
    refine ki_is (show iz (p0 / 100000) = iz 0 by rw [hsw_1]) ?_
    refine lv_lookup (off := 27) (tgt := 36) hx hb dX2_putPage_9 (by decide) (by decide) (by decide) ?_
    refine lv_aload_n hx hb dX2_putPage_36 rfl (lv_at hl 1 rfl) ?_
    refine lv_iload_n hx hb dX2_putPage_37 rfl (lv_at hl 0 rfl) ?_
    refine lv_sipush (v := iz 1000) hx hb dX2_putPage_38 (by decide) ?_
    refine ki_idiv hx hb dX2_putPage_41 (by omega) (by omega) (by omega) (by omega) ?_
    refine lv_bipush (v := iz 109) hx hb dX2_putPage_42 (by decide) ?_
    refine lv_bipush (v := iz 109) hx hb dX2_putPage_44 (by decide) ?_
    refine lv_bipush (v := iz 109) hx hb dX2_putPage_46 (by decide) ?_
    have hPc := hP.sub (ws' := (pU cB o r n z tl F)) [0, 1] rfl
    have hDc := hD.sub (ws' := (pU cB o r n z tl F)) [0, 1] (by decide) rfl
    have hFc := va_free (wc := (pU cB o r n z tl F)) hD hS hA [0, 1] rfl
    refine xk_call (va_runV (As := [.int (iz ((p0 % 100000) / 1000)), .int (iz 109), .int (iz 109), .int (iz 109)]) (rest := []) ⟨hx, hb, hml, hown, hts⟩ (x_putRomanDigit2 l dC dI cI cB cE o r n z tl F ((p0 % 100000) / 1000) 109 109 109 s.heap.size (by omega) (by omega) hF hn6 (by omega) (by omega) (by omega) (by omega) (by omega) (by omega) (by omega) (by omega) (by omega)) (cwV 4 hts (kx_gV kq_15_xspan_20 kq_15_xspan_21 kq_15_xspan_22 kq_15_xspan_17 kq_15_xspan_23 rfl) rfl rfl rfl (by decide +kernel) ⟨Nat.le_of_ble_eq_true rfl, Nat.le_of_ble_eq_true rfl⟩) ⟨kx_blind, va_recv hK hPc (ci := 2) (q0 := 0) rfl rfl, kx_give (ws := []) (tys := []) hPc hDc hK hG hZ hS hFc⟩ rfl rfl hl.1 rfl (lv_room (Nat.le_of_ble_eq_true rfl)) dX2_putPage_48 ⟨show 0 + 0 ≤ 0 from (by omega), show 0 + 0 ≤ 0 from (by omega)⟩) hS (fun q _ h => hFc q h) hFc (fun u dn_3 dm_4 t H locs ht hvm hq_2 hB hk1 hS => ?_)
    obtain ⟨z_5, tl_6, F_7⟩ := u
    obtain ⟨hP1, hK1, hD1⟩ := hB
    rw [ht] at hP1
    obtain ⟨hP, hD⟩ := xj (wr := []) (w1 := (pU cB o r n z_5 tl_6 F_7)) (ws' := (pU cB o r n z_5 tl_6 F_7)) hP hD [0, 1] [] [0, 1] rfl rfl (by decide) (by decide) hk1 hFc hP1 hD1 rfl (by decide)
    refine W.eq (g2 := F0 m 51 ls []) rfl ?_
    try dsimp only at hq_2
    obtain ⟨hd8, hm8, hz8, ht8, hF8, hX8⟩ := hq_2
    subst hd8
    subst hm8
    have hY8 := pt_X_app hX0 hX8
    refine lv_aload_n hx hb dX2_putPage_51 rfl (lv_at hl 1 rfl) ?_
    refine lv_iload_n hx hb dX2_putPage_52 rfl (lv_at hl 0 rfl) ?_
    refine lv_bipush (v := iz 100) hx hb dX2_putPage_53 (by decide) ?_
    refine ki_idiv hx hb dX2_putPage_55 (by omega) (by omega) (by omega) (by omega) ?_
    refine lv_bipush (v := iz 10) hx hb dX2_putPage_56 (by decide) ?_
    refine ki_irem hx hb dX2_putPage_58 (by omega) (by omega) (by omega) (by omega) ?_
    refine lv_bipush (v := iz 99) hx hb dX2_putPage_59 (by decide) ?_
    refine lv_bipush (v := iz 100) hx hb dX2_putPage_61 (by decide) ?_
    refine lv_bipush (v := iz 109) hx hb dX2_putPage_63 (by decide) ?_
    have hPc := hP.sub (ws' := (pU cB o r n z_5 tl_6 F_7)) [0, 1] rfl
    have hDc := hD.sub (ws' := (pU cB o r n z_5 tl_6 F_7)) [0, 1] (by decide) rfl
    have hFc := va_free (wc := (pU cB o r n z_5 tl_6 F_7)) hD hS hA [0, 1] rfl
    refine xk_call (va_runV (As := [.int (iz (((p0 % 100000) / 100) % 10)), .int (iz 99), .int (iz 100), .int (iz 109)]) (rest := []) ⟨hx, hb, hml, hown, hts⟩ (x_putRomanDigit2 l dC dI cI cB cE o r n z_5 tl_6 F_7 (((p0 % 100000) / 100) % 10) 99 100 109 H.size (by omega) (by omega) hF8 hn6 (by omega) (by omega) (by omega) (by omega) (by omega) (by omega) (by omega) (by omega) (by omega)) (cwV 4 hts (kx_gV kq_15_xspan_20 kq_15_xspan_21 kq_15_xspan_22 kq_15_xspan_17 kq_15_xspan_23 rfl) rfl rfl rfl (by decide +kernel) ⟨Nat.le_of_ble_eq_true rfl, Nat.le_of_ble_eq_true rfl⟩) ⟨kx_blind, va_recv hK hPc (ci := 2) (q0 := 0) rfl rfl, kx_give (ws := []) (tys := []) hPc hDc hK hG hZ hS hFc⟩ rfl rfl hl.1 rfl (lv_room (Nat.le_of_ble_eq_true rfl)) dX2_putPage_65 ⟨show (0 + 0) + 0 ≤ 0 from (by omega), show (0 + 0) + 0 ≤ 0 from (by omega)⟩) hS (fun q _ h => hFc q h) hFc (fun u dn_10 dm_11 t H locs ht hvm hq_9 hB hk1 hS => ?_)
    obtain ⟨z_12, tl_13, F_14⟩ := u
    obtain ⟨hP1, hK1, hD1⟩ := hB
    rw [ht] at hP1
    obtain ⟨hP, hD⟩ := xj (wr := []) (w1 := (pU cB o r n z_12 tl_13 F_14)) (ws' := (pU cB o r n z_12 tl_13 F_14)) hP hD [0, 1] [] [0, 1] rfl rfl (by decide) (by decide) hk1 hFc hP1 hD1 rfl (by decide)
    refine W.eq (g2 := F0 m 68 ls []) rfl ?_
    try dsimp only at hq_9
    obtain ⟨hd15, hm15, hz15, ht15, hF15, hX15⟩ := hq_9
    subst hd15
    subst hm15
    have hY15 := pt_X_app hY8 hX15
    refine lv_aload_n hx hb dX2_putPage_68 rfl (lv_at hl 1 rfl) ?_
    refine lv_iload_n hx hb dX2_putPage_69 rfl (lv_at hl 0 rfl) ?_
    refine lv_bipush (v := iz 10) hx hb dX2_putPage_70 (by decide) ?_
    refine ki_idiv hx hb dX2_putPage_72 (by omega) (by omega) (by omega) (by omega) ?_
    refine lv_bipush (v := iz 10) hx hb dX2_putPage_73 (by decide) ?_
    refine ki_irem hx hb dX2_putPage_75 (by omega) (by omega) (by omega) (by omega) ?_
    refine lv_bipush (v := iz 120) hx hb dX2_putPage_76 (by decide) ?_
    refine lv_bipush (v := iz 108) hx hb dX2_putPage_78 (by decide) ?_
    refine lv_bipush (v := iz 99) hx hb dX2_putPage_80 (by decide) ?_
    have hPc := hP.sub (ws' := (pU cB o r n z_12 tl_13 F_14)) [0, 1] rfl
    have hDc := hD.sub (ws' := (pU cB o r n z_12 tl_13 F_14)) [0, 1] (by decide) rfl
    have hFc := va_free (wc := (pU cB o r n z_12 tl_13 F_14)) hD hS hA [0, 1] rfl
    refine xk_call (va_runV (As := [.int (iz (((p0 % 100000) / 10) % 10)), .int (iz 120), .int (iz 108), .int (iz 99)]) (rest := []) ⟨hx, hb, hml, hown, hts⟩ (x_putRomanDigit2 l dC dI cI cB cE o r n z_12 tl_13 F_14 (((p0 % 100000) / 10) % 10) 120 108 99 H.size (by omega) (by omega) hF15 hn6 (by omega) (by omega) (by omega) (by omega) (by omega) (by omega) (by omega) (by omega) (by omega)) (cwV 4 hts (kx_gV kq_15_xspan_20 kq_15_xspan_21 kq_15_xspan_22 kq_15_xspan_17 kq_15_xspan_23 rfl) rfl rfl rfl (by decide +kernel) ⟨Nat.le_of_ble_eq_true rfl, Nat.le_of_ble_eq_true rfl⟩) ⟨kx_blind, va_recv hK hPc (ci := 2) (q0 := 0) rfl rfl, kx_give (ws := []) (tys := []) hPc hDc hK hG hZ hS hFc⟩ rfl rfl hl.1 rfl (lv_room (Nat.le_of_ble_eq_true rfl)) dX2_putPage_82 ⟨show ((0 + 0) + 0) + 0 ≤ 0 from (by omega), show ((0 + 0) + 0) + 0 ≤ 0 from (by omega)⟩) hS (fun q _ h => hFc q h) hFc (fun u dn_17 dm_18 t H locs ht hvm hq_16 hB hk1 hS => ?_)
    obtain ⟨z_19, tl_20, F_21⟩ := u
    obtain ⟨hP1, hK1, hD1⟩ := hB
    rw [ht] at hP1
    obtain ⟨hP, hD⟩ := xj (wr := []) (w1 := (pU cB o r n z_19 tl_20 F_21)) (ws' := (pU cB o r n z_19 tl_20 F_21)) hP hD [0, 1] [] [0, 1] rfl rfl (by decide) (by decide) hk1 hFc hP1 hD1 rfl (by decide)
    refine W.eq (g2 := F0 m 85 ls []) rfl ?_
    try dsimp only at hq_16
    obtain ⟨hd22, hm22, hz22, ht22, hF22, hX22⟩ := hq_16
    subst hd22
    subst hm22
    have hY22 := pt_X_app hY15 hX22
    refine lv_aload_n hx hb dX2_putPage_85 rfl (lv_at hl 1 rfl) ?_
    refine lv_iload_n hx hb dX2_putPage_86 rfl (lv_at hl 0 rfl) ?_
    refine lv_bipush (v := iz 10) hx hb dX2_putPage_87 (by decide) ?_
    refine ki_irem hx hb dX2_putPage_89 (by omega) (by omega) (by omega) (by omega) ?_
    refine lv_bipush (v := iz 105) hx hb dX2_putPage_90 (by decide) ?_
    refine lv_bipush (v := iz 118) hx hb dX2_putPage_92 (by decide) ?_
    refine lv_bipush (v := iz 120) hx hb dX2_putPage_94 (by decide) ?_
    have hPc := hP.sub (ws' := (pU cB o r n z_19 tl_20 F_21)) [0, 1] rfl
    have hDc := hD.sub (ws' := (pU cB o r n z_19 tl_20 F_21)) [0, 1] (by decide) rfl
    have hFc := va_free (wc := (pU cB o r n z_19 tl_20 F_21)) hD hS hA [0, 1] rfl
    refine xk_call (va_runV (As := [.int (iz ((p0 % 100000) % 10)), .int (iz 105), .int (iz 118), .int (iz 120)]) (rest := []) ⟨hx, hb, hml, hown, hts⟩ (x_putRomanDigit2 l dC dI cI cB cE o r n z_19 tl_20 F_21 ((p0 % 100000) % 10) 105 118 120 H.size (by omega) (by omega) hF22 hn6 (by omega) (by omega) (by omega) (by omega) (by omega) (by omega) (by omega) (by omega) (by omega)) (cwV 4 hts (kx_gV kq_15_xspan_20 kq_15_xspan_21 kq_15_xspan_22 kq_15_xspan_17 kq_15_xspan_23 rfl) rfl rfl rfl (by decide +kernel) ⟨Nat.le_of_ble_eq_true rfl, Nat.le_of_ble_eq_true rfl⟩) ⟨kx_blind, va_recv hK hPc (ci := 2) (q0 := 0) rfl rfl, kx_give (ws := []) (tys := []) hPc hDc hK hG hZ hS hFc⟩ rfl rfl hl.1 rfl (lv_room (Nat.le_of_ble_eq_true rfl)) dX2_putPage_96 ⟨show (((0 + 0) + 0) + 0) + 0 ≤ 0 from (by omega), show (((0 + 0) + 0) + 0) + 0 ≤ 0 from (by omega)⟩) hS (fun q _ h => hFc q h) hFc (fun u dn_24 dm_25 t H locs ht hvm hq_23 hB hk1 hS => ?_)
    obtain ⟨z_26, tl_27, F_28⟩ := u
    obtain ⟨hP1, hK1, hD1⟩ := hB
    rw [ht] at hP1
    obtain ⟨hP, hD⟩ := xj (wr := []) (w1 := (pU cB o r n z_26 tl_27 F_28)) (ws' := (pU cB o r n z_26 tl_27 F_28)) hP hD [0, 1] [] [0, 1] rfl rfl (by decide) (by decide) hk1 hFc hP1 hD1 rfl (by decide)
    refine W.eq (g2 := F0 m 99 ls []) rfl ?_
    try dsimp only at hq_23
    obtain ⟨hd29, hm29, hz29, ht29, hF29, hX29⟩ := hq_23
    subst hd29
    subst hm29
    have hY29 := pt_X_app hY22 hX29
    refine lv_goto (tgt := 115) hx hb dX2_putPage_99 (by decide) ?_
    exact xk_vret (ov := (fun _ : Int × Int × (Int → Int) => none)) (post := (fun (u : Int × Int × (Int → Int)) (dn dm : Nat) => match u with | (z', tl', F') => dn = 0 ∧ dm = 0 ∧ (0 ≤ z' ∧ z' ≤ (n : Int)) ∧ (tl' = 0 ∨ tl' = 1) ∧ iB F' ∧ pt_X F z tl (pt_l (pt_pg (p0 / 100000) (p0 % 100000))) F' z' tl')) (ws := (fun u : Int × Int × (Int → Int) => match u with | (z', tl', F') => (pU cB o r n z' tl' F'))) (tys := xT cI cB cE) (z_26, tl_27, F_28) hx hb hr hlocks rfl hP hD hK hS dX2_putPage_115 (fun dn dm hdn hdm => ⟨by omega, by omega, by omega, by omega, hF29, pt_X_eq hY29 (by unfold pt_pg pt_l; first | (rw [if_pos (show p0 / 100000 = 0 by omega)]; unfold pt_ro; rw [List.map_append, List.map_append, List.map_append, List.append_assoc, List.append_assoc, List.append_assoc]; rfl) | (rw [if_neg (show ¬ p0 / 100000 = 0 by omega), if_pos (show p0 / 100000 = 1 by omega)]; rfl) | (rw [if_neg (show ¬ p0 / 100000 = 0 by omega), if_neg (show ¬ p0 / 100000 = 1 by omega)]; rfl))⟩) (by omega) (by omega)
  by_cases hsw_30 : p0 / 100000 = 1
  · skip
    refine ki_is (show iz (p0 / 100000) = iz 1 by rw [hsw_30]) ?_
    refine lv_lookup (off := 93) (tgt := 102) hx hb dX2_putPage_9 (by decide) (by decide) (by decide) ?_
    refine lv_aload_n hx hb dX2_putPage_102 rfl (lv_at hl 1 rfl) ?_
    refine lv_iload_n hx hb dX2_putPage_103 rfl (lv_at hl 0 rfl) ?_
    have hPc := hP.sub (ws' := (pU cB o r n z tl F)) [0, 1] rfl
    have hDc := hD.sub (ws' := (pU cB o r n z tl F)) [0, 1] (by decide) rfl
    have hFc := va_free (wc := (pU cB o r n z tl F)) hD hS hA [0, 1] rfl
    refine xk_call (va_runV (As := [.int (iz (p0 % 100000))]) (rest := []) ⟨hx, hb, hml, hown, hts⟩ (x_putNumber2 l dC dI cI cB cE o r n z tl F (p0 % 100000) s.heap.size (by omega) (by omega) hF hn6 (by omega) (by omega) (by omega)) (cwV 1 hts (kx_gV kq_15_xspan_24 kq_15_xspan_25 kq_15_xspan_26 kq_15_xspan_17 kq_15_xspan_27 rfl) rfl rfl rfl (by decide +kernel) ⟨Nat.le_of_ble_eq_true rfl, Nat.le_of_ble_eq_true rfl⟩) ⟨kx_blind, va_recv hK hPc (ci := 2) (q0 := 0) rfl rfl, kx_give (ws := []) (tys := []) hPc hDc hK hG hZ hS hFc⟩ rfl rfl hl.1 rfl (lv_room (Nat.le_of_ble_eq_true rfl)) dX2_putPage_104 ⟨show 0 + 0 ≤ 0 from (by omega), show 0 + 0 ≤ 0 from (by omega)⟩) hS (fun q _ h => hFc q h) hFc (fun u dn_32 dm_33 t H locs ht hvm hq_31 hB hk1 hS => ?_)
    obtain ⟨z_34, tl_35, F_36⟩ := u
    obtain ⟨hP1, hK1, hD1⟩ := hB
    rw [ht] at hP1
    obtain ⟨hP, hD⟩ := xj (wr := []) (w1 := (pU cB o r n z_34 tl_35 F_36)) (ws' := (pU cB o r n z_34 tl_35 F_36)) hP hD [0, 1] [] [0, 1] rfl rfl (by decide) (by decide) hk1 hFc hP1 hD1 rfl (by decide)
    refine W.eq (g2 := F0 m 107 ls []) rfl ?_
    try dsimp only at hq_31
    obtain ⟨hd37, hm37, hz37, ht37, hF37, hX37⟩ := hq_31
    subst hd37
    subst hm37
    have hY37 := pt_X_app hX0 hX37
    refine lv_goto (tgt := 115) hx hb dX2_putPage_107 (by decide) ?_
    exact xk_vret (ov := (fun _ : Int × Int × (Int → Int) => none)) (post := (fun (u : Int × Int × (Int → Int)) (dn dm : Nat) => match u with | (z', tl', F') => dn = 0 ∧ dm = 0 ∧ (0 ≤ z' ∧ z' ≤ (n : Int)) ∧ (tl' = 0 ∨ tl' = 1) ∧ iB F' ∧ pt_X F z tl (pt_l (pt_pg (p0 / 100000) (p0 % 100000))) F' z' tl')) (ws := (fun u : Int × Int × (Int → Int) => match u with | (z', tl', F') => (pU cB o r n z' tl' F'))) (tys := xT cI cB cE) (z_34, tl_35, F_36) hx hb hr hlocks rfl hP hD hK hS dX2_putPage_115 (fun dn dm hdn hdm => ⟨by omega, by omega, by omega, by omega, hF37, pt_X_eq hY37 (by unfold pt_pg pt_l; first | (rw [if_pos (show p0 / 100000 = 0 by omega)]; unfold pt_ro; rw [List.map_append, List.map_append, List.map_append, List.append_assoc, List.append_assoc, List.append_assoc]; rfl) | (rw [if_neg (show ¬ p0 / 100000 = 0 by omega), if_pos (show p0 / 100000 = 1 by omega)]; rfl) | (rw [if_neg (show ¬ p0 / 100000 = 0 by omega), if_neg (show ¬ p0 / 100000 = 1 by omega)]; rfl))⟩) (by omega) (by omega)
  refine lv_lookup (off := 101) (tgt := 110) hx hb dX2_putPage_9 (by decide) ((lv_osw (k := iz 0) (fun q9 => hsw_1 ((iz_eq (by omega) (by omega) (by omega) (by omega)).mp q9)) (by decide)).trans ((lv_osw (k := iz 1) (fun q9 => hsw_30 ((iz_eq (by omega) (by omega) (by omega) (by omega)).mp q9)) (by decide)).trans rfl)) (by decide) ?_
  refine lv_aload_n hx hb dX2_putPage_110 rfl (lv_at hl 1 rfl) ?_
  refine lv_iload_n hx hb dX2_putPage_111 rfl (lv_at hl 0 rfl) ?_
  have hPc := hP.sub (ws' := (pU cB o r n z tl F)) [0, 1] rfl
  have hDc := hD.sub (ws' := (pU cB o r n z tl F)) [0, 1] (by decide) rfl
  have hFc := va_free (wc := (pU cB o r n z tl F)) hD hS hA [0, 1] rfl
  refine xk_call (va_runV (As := [.int (iz (p0 % 100000))]) (rest := []) ⟨hx, hb, hml, hown, hts⟩ (x_putLetters2 l dC dI cI cB cE o r n z tl F (p0 % 100000) s.heap.size (by omega) (by omega) hF hn6 (by omega) (by omega) (by omega)) (cwV 1 hts (kx_gV kq_15_xspan_28 kq_15_xspan_29 kq_15_xspan_30 kq_15_xspan_17 kq_15_xspan_31 rfl) rfl rfl rfl (by decide +kernel) ⟨Nat.le_of_ble_eq_true rfl, Nat.le_of_ble_eq_true rfl⟩) ⟨kx_blind, va_recv hK hPc (ci := 2) (q0 := 0) rfl rfl, kx_give (ws := []) (tys := []) hPc hDc hK hG hZ hS hFc⟩ rfl rfl hl.1 rfl (lv_room (Nat.le_of_ble_eq_true rfl)) dX2_putPage_112 ⟨show 0 + 0 ≤ 0 from (by omega), show 0 + 0 ≤ 0 from (by omega)⟩) hS (fun q _ h => hFc q h) hFc (fun u dn_39 dm_40 t H locs ht hvm hq_38 hB hk1 hS => ?_)
  obtain ⟨z_41, tl_42, F_43⟩ := u
  obtain ⟨hP1, hK1, hD1⟩ := hB
  rw [ht] at hP1
  obtain ⟨hP, hD⟩ := xj (wr := []) (w1 := (pU cB o r n z_41 tl_42 F_43)) (ws' := (pU cB o r n z_41 tl_42 F_43)) hP hD [0, 1] [] [0, 1] rfl rfl (by decide) (by decide) hk1 hFc hP1 hD1 rfl (by decide)
  refine W.eq (g2 := F0 m 115 ls []) rfl ?_
  try dsimp only at hq_38
  obtain ⟨hd44, hm44, hz44, ht44, hF44, hX44⟩ := hq_38
  subst hd44
  subst hm44
  have hY44 := pt_X_app hX0 hX44
  exact xk_vret (ov := (fun _ : Int × Int × (Int → Int) => none)) (post := (fun (u : Int × Int × (Int → Int)) (dn dm : Nat) => match u with | (z', tl', F') => dn = 0 ∧ dm = 0 ∧ (0 ≤ z' ∧ z' ≤ (n : Int)) ∧ (tl' = 0 ∨ tl' = 1) ∧ iB F' ∧ pt_X F z tl (pt_l (pt_pg (p0 / 100000) (p0 % 100000))) F' z' tl')) (ws := (fun u : Int × Int × (Int → Int) => match u with | (z', tl', F') => (pU cB o r n z' tl' F'))) (tys := xT cI cB cE) (z_41, tl_42, F_43) hx hb hr hlocks rfl hP hD hK hS dX2_putPage_115 (fun dn dm hdn hdm => ⟨by omega, by omega, by omega, by omega, hF44, pt_X_eq hY44 (by unfold pt_pg pt_l; first | (rw [if_pos (show p0 / 100000 = 0 by omega)]; unfold pt_ro; rw [List.map_append, List.map_append, List.map_append, List.append_assoc, List.append_assoc, List.append_assoc]; rfl) | (rw [if_neg (show ¬ p0 / 100000 = 0 by omega), if_pos (show p0 / 100000 = 1 by omega)]; rfl) | (rw [if_neg (show ¬ p0 / 100000 = 0 by omega), if_neg (show ¬ p0 / 100000 = 1 by omega)]; rfl))⟩) (by omega) (by omega)
