/-! the landed object: calls that tell of pages, exact -/

set_option maxHeartbeats 4000000 in
set_option maxRecDepth 100000 in
theorem x_beginRange2 (l : Launch) (dC : Nat → ClassId) (dI : Nat → Nat → Nat) (cI cB cE : ClassId) (o : Nat → Nat) (r : Nat → Nat) (n : Nat → Nat) (z : Nat → Int) (F : Nat → Int → Int) (p0 : Int) (sz : Nat) (hE : eOk n z F) (hp01 : -2147483648 ≤ p0) (hp02 : p0 < 2147483648) : Met l yX0_beginRange [.code yX0_beginRange cX0_beginRange 2 (some .boolean)] ({ frames := 4, cells := 30, slots := 9600, locals := 126 }) (va_Pc [.ref (o 0), .int (iz p0)] (kx_Pre dC dI (eU cI o r n z F) (xT cI cB cE) sz)) (xQ (fun u : Int × Int × Nat × Nat × Int × (Int → Int) × Nat × Nat × Int × (Int → Int) × Nat × Nat × Int × (Int → Int) => match u with | (q, z9', r4', n4', z4', F4', r5', n5', z5', F5', r6', n6', z6', F6') => some (.int (iz q))) (fun (u : Int × Int × Nat × Nat × Int × (Int → Int) × Nat × Nat × Int × (Int → Int) × Nat × Nat × Int × (Int → Int)) (dn dm : Nat) => match u with | (q, z9', r4', n4', z4', F4', r5', n5', z5', F5', r6', n6', z6', F6') => ((0 ≤ z4' ∧ z4' ≤ (n4' : Int) ∧ (n4' : Int) ≤ 20) ∧ iB F4') ∧ ((0 ≤ z5' ∧ z5' ≤ (n5' : Int) ∧ (n5' : Int) ≤ 20) ∧ iB F5') ∧ ((0 ≤ z6' ∧ z6' ≤ (n6' : Int) ∧ (n6' : Int) ≤ 20) ∧ iB F6') ∧ (dn ≤ 27 ∧ dm ≤ 180) ∧ ((q = 0 ∧ 0 ≤ z 9 ∧ z9' = z 9 ∧ z4' = z 4 ∧ F4' = F 4 ∧ z5' = z 5 ∧ F5' = F 5 ∧ z6' = z 6 ∧ F6' = F 6) ∨ (q = 1 ∧ z 9 < 0 ∧ z9' = z 4 ∧ iAdd 20 (z 4) (F 4) z4' F4' p0 ∧ iAdd 20 (z 5) (F 5) z5' F5' p0 ∧ iAdd 20 (z 6) (F 6) z6' F6' 0))) (fun u t => kx_At dC dI (va_A (eU cI o r n z F) sz) ((fun u : Int × Int × Nat × Nat × Int × (Int → Int) × Nat × Nat × Int × (Int → Int) × Nat × Nat × Int × (Int → Int) => match u with | (q, z9', r4', n4', z4', F4', r5', n5', z5', F5', r6', n6', z6', F6') => (eU cI o (va_up (va_up (va_up r 4 r4') 5 r5') 6 r6') (va_up (va_up (va_up n 4 n4') 5 n5') 6 n6') (va_up (va_up (va_up (va_up z 4 z4') 5 z5') 6 z6') 9 z9') (va_up (va_up (va_up F 4 F4') 5 F5') 6 F6'))) u) (xT cI cB cE) t) (va_A (eU cI o r n z F) sz)) 30 9600 (va_A (eU cI o r n z F) sz) := by
  refine Met.ofW (cc := cX0_beginRange) (maxL := 2) (ret := (some .boolean)) (by decide) rfl ?_
  intro p e s m args below meth c s₁ B hml hv
  obtain ⟨rfl, hsz, hP, hK, hD0, hG, hZ⟩ := hv
  have hx := B.exec
  have hb := B.bytes
  have hr := B.returns
  have hts := kx_hts (a := ([.ref (o 0), .int (iz p0)] : List Value).toArray) hG
  have hown : s.vm.findClass RX0 = some m.cls := findClass_of_methodNamed B.named
  have hlocks := B.notSynchronized
  subst hsz
  have hD := hD0.self (sz := s.heap.size)
  generalize hAe : va_A (eU cI o r n z F) s.heap.size = A at hD hZ ⊢
  have hA : ∀ q : Nat, s.heap.size ≤ q → A q := fun q h => by rw [← hAe]; exact Or.inr h
  have hS : va_S A s.heap s.heap [] := va_S.rf
  have hl := lv_entry ([.ref (o 0), .int (iz p0)]) (n := 2) (Nat.le_of_ble_eq_true rfl)
  rw [lg_entry_eq]
  generalize (lg_sl ([.ref (o 0), .int (iz p0)]) ++ List.replicate (2 - (lg_sl ([.ref (o 0), .int (iz p0)])).length) Slot.unset).toArray = ls at hl ⊢
  have hl : lv_has ls 2 [(0, .ref (o 0)), (1, .int (iz p0))] := hl
  have he0 : 0 ≤ z 0 ∧ z 0 ≤ (n 0 : Int) ∧ (n 0 : Int) ≤ 20 := hE.1 0 (by decide)
  have he1 : 0 ≤ z 1 ∧ z 1 ≤ (n 1 : Int) ∧ (n 1 : Int) ≤ 20 := hE.1 1 (by decide)
  have he2 : 0 ≤ z 2 ∧ z 2 ≤ (n 2 : Int) ∧ (n 2 : Int) ≤ 40 := hE.1 2 (by decide)
  have he3 : 0 ≤ z 3 ∧ z 3 ≤ (n 3 : Int) ∧ (n 3 : Int) ≤ 5 := hE.1 3 (by decide)
  have he4 : 0 ≤ z 4 ∧ z 4 ≤ (n 4 : Int) ∧ (n 4 : Int) ≤ 20 := hE.1 4 (by decide)
  have he5 : 0 ≤ z 5 ∧ z 5 ≤ (n 5 : Int) ∧ (n 5 : Int) ≤ 20 := hE.1 5 (by decide)
  have he6 : 0 ≤ z 6 ∧ z 6 ≤ (n 6 : Int) ∧ (n 6 : Int) ≤ 20 := hE.1 6 (by decide)
  have hbz7 := hE.2.2 7
  have hbz8 := hE.2.2 8
  have hbz9 := hE.2.2 9
  have hbz10 := hE.2.2 10
  have hbz11 := hE.2.2 11
  have hbz12 := hE.2.2 12
  have hbz13 := hE.2.2 13
  have hp4a := psg_le 20 (n 4)
  have hp5a := psg_le 20 (n 5)
  have hp6a := psg_le 20 (n 6)
  have hp4b := psj_le (L := 20) (by omega) (n 4)
  have hp5b := psj_le (L := 20) (by omega) (n 5)
  have hp6b := psj_le (L := 20) (by omega) (n 6)
  refine lv_aload_n hx hb dX0_beginRange_0 rfl (lv_at hl 0 rfl) ?_
  refine va_get (D := (dC, dI)) (ci := 0) (v := .int (iz (z 9))) (C := RX0) (T := TX0) (N := 12) hx hb hts kt_X0 hown hK hP 0 rfl rfl 7 (by decide) (kx_word hG kq_16_xentry_10 rfl) (fun _ h9 => h9) rfl dX0_beginRange_1 ?_
  refine ki_if_lt (tgt := 9) hx hb dX0_beginRange_4 (by decide) (by omega) (by omega) (fun c_1 => ?_) (fun c_1 => ?_)
  · skip
    refine lv_aload_n hx hb dX0_beginRange_9 rfl (lv_at hl 0 rfl) ?_
    refine lv_aload_n hx hb dX0_beginRange_10 rfl (lv_at hl 0 rfl) ?_
    refine va_get (D := (dC, dI)) (ci := 0) (v := .ref (o 5)) (C := RX0) (T := TX0) (N := 12) hx hb hts kt_X0 hown hK hP 0 rfl rfl 5 (by decide) (kx_word hG kq_16_xentry_11 rfl) (fun _ h9 => h9) rfl dX0_beginRange_11 ?_
    have hPc := hP.sub (ws' := (sU cI 20 (o 5) (o 6) (o 7) (o 8) (r 4) (r 5) (r 6) (n 4) (n 5) (n 6) (z 4) (z 5) (z 6) (F 4) (F 5) (F 6))) [9, 10, 11, 12, 13, 14, 15] rfl
    refine xk_pure (va_runV (As := []) (rest := [.ref (o 0)]) ⟨hx, hb, hml, hown, hts⟩ (x_ssize l dC dI cI cB cE 20 (o 5) (o 6) (o 7) (o 8) (r 4) (r 5) (r 6) (n 4) (n 5) (n 6) (z 4) (z 5) (z 6) (F 4) (F 5) (F 6)  s.heap.size ) (cwV 0 hts (kx_gV kq_16_xentry_12 kq_15_xspan_51 kq_15_xspan_52 kq_15_xspan_53 kq_15_xspan_54 rfl) rfl rfl rfl (by decide +kernel) ⟨Nat.le_of_ble_eq_true rfl, Nat.le_of_ble_eq_true rfl⟩) ⟨pPre_blind, va_recv hK hPc (ci := 3) (q0 := 0) rfl rfl, pPre_give hPc hK hG⟩ rfl rfl hl.1 rfl (lv_room (Nat.le_of_ble_eq_true rfl)) dX0_beginRange_14 ⟨show 0 + 0 ≤ 30 from (by omega), show 0 + 0 ≤ 9600 from (by omega)⟩) hS (fun z_3 locs hq_2 hS => ?_)
    refine W.eq (g2 := F0 m 17 ls [.int (iz z_3), .ref (o 0)]) rfl ?_
    try dsimp only at hq_2
    have hq_2 := hq_2.symm
    subst hq_2
    refine va_put (D := (dC, dI)) (ci := 0) (v := .int (iz (z 4))) (ty := .int) (C := RX0) (T := TX0) (N := 12) hx hb hts kt_X0 tyX0 tyX0_ok nmX0 hown hK hP hD hS 0 rfl rfl 7 (by decide) (kx_word hG kq_16_xentry_10 rfl) (fun _ h9 => h9) rfl (by decide +kernel) rfl rfl (Nat.le_of_ble_eq_true rfl) dX0_beginRange_17 (fun H locs hP hD hS => ?_)
    have hP : va_P (dC, dI) kxCl (eU cI o r n (va_up z 9 (z 4)) F) H := hP
    have hD : va_D A (eU cI o r n (va_up z 9 (z 4)) F) := hD
    refine lv_aload_n hx hb dX0_beginRange_20 rfl (lv_at hl 0 rfl) ?_
    refine va_get (D := (dC, dI)) (ci := 0) (v := .ref (o 5)) (C := RX0) (T := TX0) (N := 12) hx hb hts kt_X0 hown hK hP 0 rfl rfl 5 (by decide) (kx_word hG kq_16_xentry_11 rfl) (fun _ h9 => h9) rfl dX0_beginRange_21 ?_
    refine lv_iload_n hx hb dX0_beginRange_24 rfl (lv_at hl 1 rfl) ?_
    refine lv_iload_n hx hb dX0_beginRange_25 rfl (lv_at hl 1 rfl) ?_
    refine lv_iconst (v := iz 0) hx hb dX0_beginRange_26 (by decide) ?_
    have hPc := hP.sub (ws' := (sU cI 20 (o 5) (o 6) (o 7) (o 8) (r 4) (r 5) (r 6) (n 4) (n 5) (n 6) (z 4) (z 5) (z 6) (F 4) (F 5) (F 6))) [9, 10, 11, 12, 13, 14, 15] rfl
    have hDc := hD.sub (ws' := (sU cI 20 (o 5) (o 6) (o 7) (o 8) (r 4) (r 5) (r 6) (n 4) (n 5) (n 6) (z 4) (z 5) (z 6) (F 4) (F 5) (F 6))) [9, 10, 11, 12, 13, 14, 15] (by decide) rfl
    have hFc := va_free (wc := (sU cI 20 (o 5) (o 6) (o 7) (o 8) (r 4) (r 5) (r 6) (n 4) (n 5) (n 6) (z 4) (z 5) (z 6) (F 4) (F 5) (F 6))) hD hS hA [9, 10, 11, 12, 13, 14, 15] rfl
    refine xk_call (va_runV (As := [.int (iz p0), .int (iz p0), .int (iz 0)]) (rest := []) ⟨hx, hb, hml, hown, hts⟩ (x_sadd l dC dI cI cB cE 20 (o 5) (o 6) (o 7) (o 8) (r 4) (r 5) (r 6) (n 4) (n 5) (n 6) (z 4) (z 5) (z 6) (F 4) (F 5) (F 6) p0 p0 0 H.size (by omega) (hE.2.1 4) (by omega) (hE.2.1 5) (by omega) (hE.2.1 6) (by omega) (by omega) (by omega) (by omega) (by omega)) (cwV 3 hts (kx_gV kq_16_xentry_13 kq_15_xspan_72 kq_15_xspan_73 kq_15_xspan_53 kq_15_xspan_74 rfl) rfl rfl rfl (by decide +kernel) ⟨Nat.le_of_ble_eq_true rfl, Nat.le_of_ble_eq_true rfl⟩) ⟨kx_blind, va_recv hK hPc (ci := 3) (q0 := 0) rfl rfl, kx_give (ws := []) (tys := []) hPc hDc hK hG hZ hS hFc⟩ rfl rfl hl.1 rfl (lv_room (Nat.le_of_ble_eq_true rfl)) dX0_beginRange_27 ⟨show 0 + 3 ≤ 30 from (by omega), show 0 + 4800 ≤ 9600 from (by omega)⟩) hS (fun q _ h => hFc q h) hFc (fun u dn_5 dm_6 t H locs ht hvm hq_4 hB hk1 hS => ?_)
    obtain ⟨r1_7, n1_8, z1_9, F1_10, r2_11, n2_12, z2_13, F2_14, r3_15, n3_16, z3_17, F3_18⟩ := u
    obtain ⟨hP1, hK1, hD1⟩ := hB
    rw [ht] at hP1
    obtain ⟨hP, hD⟩ := xj (wr := [(o 0, .inr (0, [.int (iz (z 7)), .int (iz (z 8)), .ref (o 1), .ref (o 2), .ref (o 3), .ref (o 5), .ref (o 4), .int (iz (z 4)), .int (iz (z 10)), .int (iz (z 11)), .int (iz (z 12)), .int (iz (z 13))])), (o 1, .inr (1, [.int (iz 20), .ref (r 0), .int (iz (z 0))])), (r 0, .inl (cI, n 0, .inl (iA (F 0)))), (o 2, .inr (1, [.int (iz 20), .ref (r 1), .int (iz (z 1))])), (r 1, .inl (cI, n 1, .inl (iA (F 1)))), (o 3, .inr (1, [.int (iz 40), .ref (r 2), .int (iz (z 2))])), (r 2, .inl (cI, n 2, .inl (iA (F 2)))), (o 4, .inr (1, [.int (iz 5), .ref (r 3), .int (iz (z 3))])), (r 3, .inl (cI, n 3, .inl (iA (F 3))))]) (w1 := (sU cI 20 (o 5) (o 6) (o 7) (o 8) r1_7 r2_11 r3_15 n1_8 n2_12 n3_16 z1_9 z2_13 z3_17 F1_10 F2_14 F3_18)) (ws' := (eU cI o (va_up (va_up (va_up r 4 r1_7) 5 r2_11) 6 r3_15) (va_up (va_up (va_up n 4 n1_8) 5 n2_12) 6 n3_16) (va_up (va_up (va_up (va_up z 4 z1_9) 5 z2_13) 6 z3_17) 9 (z 4)) (va_up (va_up (va_up F 4 F1_10) 5 F2_14) 6 F3_18))) hP hD [9, 10, 11, 12, 13, 14, 15] [0, 1, 2, 3, 4, 5, 6, 7, 8] [0, 1, 2, 3, 4, 5, 6, 7, 8, 9, 10, 11, 12, 13, 14, 15] rfl rfl (by decide) (by decide) hk1 hFc hP1 hD1 rfl (by decide)
    refine W.eq (g2 := F0 m 30 ls []) rfl ?_
    try dsimp only at hq_4
    obtain ⟨ha1, hb1, ha2, hb2, ha3, hb3, hc, hd1, hd2, hd3⟩ := hq_4
    refine lv_iconst (v := iz 1) hx hb dX0_beginRange_30 (by decide) ?_
    exact xk_iret (ov := (fun u : Int × Int × Nat × Nat × Int × (Int → Int) × Nat × Nat × Int × (Int → Int) × Nat × Nat × Int × (Int → Int) => match u with | (q, z9', r4', n4', z4', F4', r5', n5', z5', F5', r6', n6', z6', F6') => some (.int (iz q)))) (post := (fun (u : Int × Int × Nat × Nat × Int × (Int → Int) × Nat × Nat × Int × (Int → Int) × Nat × Nat × Int × (Int → Int)) (dn dm : Nat) => match u with | (q, z9', r4', n4', z4', F4', r5', n5', z5', F5', r6', n6', z6', F6') => ((0 ≤ z4' ∧ z4' ≤ (n4' : Int) ∧ (n4' : Int) ≤ 20) ∧ iB F4') ∧ ((0 ≤ z5' ∧ z5' ≤ (n5' : Int) ∧ (n5' : Int) ≤ 20) ∧ iB F5') ∧ ((0 ≤ z6' ∧ z6' ≤ (n6' : Int) ∧ (n6' : Int) ≤ 20) ∧ iB F6') ∧ (dn ≤ 27 ∧ dm ≤ 180) ∧ ((q = 0 ∧ 0 ≤ z 9 ∧ z9' = z 9 ∧ z4' = z 4 ∧ F4' = F 4 ∧ z5' = z 5 ∧ F5' = F 5 ∧ z6' = z 6 ∧ F6' = F 6) ∨ (q = 1 ∧ z 9 < 0 ∧ z9' = z 4 ∧ iAdd 20 (z 4) (F 4) z4' F4' p0 ∧ iAdd 20 (z 5) (F 5) z5' F5' p0 ∧ iAdd 20 (z 6) (F 6) z6' F6' 0)))) (ws := (fun u : Int × Int × Nat × Nat × Int × (Int → Int) × Nat × Nat × Int × (Int → Int) × Nat × Nat × Int × (Int → Int) => match u with | (q, z9', r4', n4', z4', F4', r5', n5', z5', F5', r6', n6', z6', F6') => (eU cI o (va_up (va_up (va_up r 4 r4') 5 r5') 6 r6') (va_up (va_up (va_up n 4 n4') 5 n5') 6 n6') (va_up (va_up (va_up (va_up z 4 z4') 5 z5') 6 z6') 9 z9') (va_up (va_up (va_up F 4 F4') 5 F5') 6 F6')))) (tys := xT cI cB cE) (z := 1) (1, z 4, r1_7, n1_8, z1_9, F1_10, r2_11, n2_12, z2_13, F2_14, r3_15, n3_16, z3_17, F3_18) hx hb hr (mz_bool (by omega)).1 hlocks rfl hP hD hK hS dX0_beginRange_31 (fun dn dm hdn hdm => ⟨⟨by omega, hb1⟩, ⟨by omega, hb2⟩, ⟨by omega, hb3⟩, by omega, Or.inr ⟨rfl, by omega, rfl, hd1, hd2, hd3⟩⟩) (by omega) (by omega)
  · skip
    refine lv_iconst (v := iz 0) hx hb dX0_beginRange_7 (by decide) ?_
    exact xk_iret (ov := (fun u : Int × Int × Nat × Nat × Int × (Int → Int) × Nat × Nat × Int × (Int → Int) × Nat × Nat × Int × (Int → Int) => match u with | (q, z9', r4', n4', z4', F4', r5', n5', z5', F5', r6', n6', z6', F6') => some (.int (iz q)))) (post := (fun (u : Int × Int × Nat × Nat × Int × (Int → Int) × Nat × Nat × Int × (Int → Int) × Nat × Nat × Int × (Int → Int)) (dn dm : Nat) => match u with | (q, z9', r4', n4', z4', F4', r5', n5', z5', F5', r6', n6', z6', F6') => ((0 ≤ z4' ∧ z4' ≤ (n4' : Int) ∧ (n4' : Int) ≤ 20) ∧ iB F4') ∧ ((0 ≤ z5' ∧ z5' ≤ (n5' : Int) ∧ (n5' : Int) ≤ 20) ∧ iB F5') ∧ ((0 ≤ z6' ∧ z6' ≤ (n6' : Int) ∧ (n6' : Int) ≤ 20) ∧ iB F6') ∧ (dn ≤ 27 ∧ dm ≤ 180) ∧ ((q = 0 ∧ 0 ≤ z 9 ∧ z9' = z 9 ∧ z4' = z 4 ∧ F4' = F 4 ∧ z5' = z 5 ∧ F5' = F 5 ∧ z6' = z 6 ∧ F6' = F 6) ∨ (q = 1 ∧ z 9 < 0 ∧ z9' = z 4 ∧ iAdd 20 (z 4) (F 4) z4' F4' p0 ∧ iAdd 20 (z 5) (F 5) z5' F5' p0 ∧ iAdd 20 (z 6) (F 6) z6' F6' 0)))) (ws := (fun u : Int × Int × Nat × Nat × Int × (Int → Int) × Nat × Nat × Int × (Int → Int) × Nat × Nat × Int × (Int → Int) => match u with | (q, z9', r4', n4', z4', F4', r5', n5', z5', F5', r6', n6', z6', F6') => (eU cI o (va_up (va_up (va_up r 4 r4') 5 r5') 6 r6') (va_up (va_up (va_up n 4 n4') 5 n5') 6 n6') (va_up (va_up (va_up (va_up z 4 z4') 5 z5') 6 z6') 9 z9') (va_up (va_up (va_up F 4 F4') 5 F5') 6 F6')))) (tys := xT cI cB cE) (z := 0) (0, z 9, r 4, n 4, z 4, F 4, r 5, n 5, z 5, F 5, r 6, n 6, z 6, F 6) hx hb hr (mz_bool (by omega)).1 hlocks rfl hP hD hK hS dX0_beginRange_8 (fun dn dm hdn hdm => ⟨⟨by omega, hE.2.1 4⟩, ⟨by omega, hE.2.1 5⟩, ⟨by omega, hE.2.1 6⟩, by omega, Or.inl ⟨rfl, by omega, rfl, rfl, rfl, rfl, rfl, rfl, rfl⟩⟩) (by omega) (by omega)
set_option maxHeartbeats 4000000 in
set_option maxRecDepth 100000 in
theorem x_endRange2 (l : Launch) (dC : Nat → ClassId) (dI : Nat → Nat → Nat) (cI cB cE : ClassId) (o : Nat → Nat) (r : Nat → Nat) (n : Nat → Nat) (z : Nat → Int) (F : Nat → Int → Int) (p0 : Int) (sz : Nat) (hE : eOk n z F) (h9z : 0 ≤ z 9 → z 9 < z 5 ∧ z 9 < z 6) (hp01 : -2147483648 ≤ p0) (hp02 : p0 < 2147483648) : Met l yX0_endRange [.code yX0_endRange cX0_endRange 2 (some .boolean)] ({ frames := 2, cells := 0, slots := 0, locals := 44 }) (va_Pc [.ref (o 0), .int (iz p0)] (kx_Pre dC dI (eU cI o r n z F) (xT cI cB cE) sz)) (xQ (fun u : Int × Int × (Int → Int) × (Int → Int) => match u with | (q, z9', F5', F6') => some (.int (iz q))) (fun (u : Int × Int × (Int → Int) × (Int → Int)) (dn dm : Nat) => match u with | (q, z9', F5', F6') => dn = 0 ∧ dm = 0 ∧ iB F5' ∧ iB F6' ∧ (-2147483648 ≤ z9' ∧ z9' < 2147483648) ∧ ((q = 0 ∧ z9' = z 9 ∧ (0 ≤ z 9 → z 9 < z 4 → p0 < F 4 (z 9)) ∧ F5' = F 5 ∧ F6' = F 6) ∨ (q = 1 ∧ 0 ≤ z 9 ∧ (z 9 < z 4 → F 4 (z 9) ≤ p0) ∧ z9' = -1 ∧ F5' = upI (F 5) (z 9) p0 ∧ F6' = upI (F 6) (z 9) 1))) (fun u t => kx_At dC dI (va_A (eU cI o r n z F) sz) ((fun u : Int × Int × (Int → Int) × (Int → Int) => match u with | (q, z9', F5', F6') => (eU cI o r n (va_up z 9 z9') (va_up (va_up F 5 F5') 6 F6'))) u) (xT cI cB cE) t) (va_A (eU cI o r n z F) sz)) 0 0 (va_A (eU cI o r n z F) sz) := by
  refine Met.ofW (cc := cX0_endRange) (maxL := 2) (ret := (some .boolean)) (by decide) rfl ?_
  intro p e s m args below meth c s₁ B hml hv
  obtain ⟨rfl, hsz, hP, hK, hD0, hG, hZ⟩ := hv
  have hx := B.exec
  have hb := B.bytes
  have hr := B.returns
  have hts := kx_hts (a := ([.ref (o 0), .int (iz p0)] : List Value).toArray) hG
  have hown : s.vm.findClass RX0 = some m.cls := findClass_of_methodNamed B.named
  have hlocks := B.notSynchronized
  subst hsz
  have hD := hD0.self (sz := s.heap.size)
  generalize hAe : va_A (eU cI o r n z F) s.heap.size = A at hD hZ ⊢
  have hA : ∀ q : Nat, s.heap.size ≤ q → A q := fun q h => by rw [← hAe]; exact Or.inr h
  have hS : va_S A s.heap s.heap [] := va_S.rf
  have hl := lv_entry ([.ref (o 0), .int (iz p0)]) (n := 2) (Nat.le_of_ble_eq_true rfl)
  rw [lg_entry_eq]
  generalize (lg_sl ([.ref (o 0), .int (iz p0)]) ++ List.replicate (2 - (lg_sl ([.ref (o 0), .int (iz p0)])).length) Slot.unset).toArray = ls at hl ⊢
  have hl : lv_has ls 2 [(0, .ref (o 0)), (1, .int (iz p0))] := hl
  have he0 : 0 ≤ z 0 ∧ z 0 ≤ (n 0 : Int) ∧ (n 0 : Int) ≤ 20 := hE.1 0 (by decide)
  have he1 : 0 ≤ z 1 ∧ z 1 ≤ (n 1 : Int) ∧ (n 1 : Int) ≤ 20 := hE.1 1 (by decide)
  have he2 : 0 ≤ z 2 ∧ z 2 ≤ (n 2 : Int) ∧ (n 2 : Int) ≤ 40 := hE.1 2 (by decide)
  have he3 : 0 ≤ z 3 ∧ z 3 ≤ (n 3 : Int) ∧ (n 3 : Int) ≤ 5 := hE.1 3 (by decide)
  have he4 : 0 ≤ z 4 ∧ z 4 ≤ (n 4 : Int) ∧ (n 4 : Int) ≤ 20 := hE.1 4 (by decide)
  have he5 : 0 ≤ z 5 ∧ z 5 ≤ (n 5 : Int) ∧ (n 5 : Int) ≤ 20 := hE.1 5 (by decide)
  have he6 : 0 ≤ z 6 ∧ z 6 ≤ (n 6 : Int) ∧ (n 6 : Int) ≤ 20 := hE.1 6 (by decide)
  have hbz7 := hE.2.2 7
  have hbz8 := hE.2.2 8
  have hbz9 := hE.2.2 9
  have hbz10 := hE.2.2 10
  have hbz11 := hE.2.2 11
  have hbz12 := hE.2.2 12
  have hbz13 := hE.2.2 13
  refine lv_aload_n hx hb dX0_endRange_0 rfl (lv_at hl 0 rfl) ?_
  refine va_get (D := (dC, dI)) (ci := 0) (v := .int (iz (z 9))) (C := RX0) (T := TX0) (N := 12) hx hb hts kt_X0 hown hK hP 0 rfl rfl 7 (by decide) (kx_word hG kq_16_xentry_10 rfl) (fun _ h9 => h9) rfl dX0_endRange_1 ?_
  refine ki_if_lt (tgt := 22) hx hb dX0_endRange_4 (by decide) (by omega) (by omega) (fun c_1 => ?_) (fun c_1 => ?_)
  · skip
    refine lv_iconst (v := iz 0) hx hb dX0_endRange_22 (by decide) ?_
    exact xk_iret (ov := (fun u : Int × Int × (Int → Int) × (Int → Int) => match u with | (q, z9', F5', F6') => some (.int (iz q)))) (post := (fun (u : Int × Int × (Int → Int) × (Int → Int)) (dn dm : Nat) => match u with | (q, z9', F5', F6') => dn = 0 ∧ dm = 0 ∧ iB F5' ∧ iB F6' ∧ (-2147483648 ≤ z9' ∧ z9' < 2147483648) ∧ ((q = 0 ∧ z9' = z 9 ∧ (0 ≤ z 9 → z 9 < z 4 → p0 < F 4 (z 9)) ∧ F5' = F 5 ∧ F6' = F 6) ∨ (q = 1 ∧ 0 ≤ z 9 ∧ (z 9 < z 4 → F 4 (z 9) ≤ p0) ∧ z9' = -1 ∧ F5' = upI (F 5) (z 9) p0 ∧ F6' = upI (F 6) (z 9) 1)))) (ws := (fun u : Int × Int × (Int → Int) × (Int → Int) => match u with | (q, z9', F5', F6') => (eU cI o r n (va_up z 9 z9') (va_up (va_up F 5 F5') 6 F6')))) (tys := xT cI cB cE) (z := 0) (0, z 9, F 5, F 6) hx hb hr (mz_bool (by omega)).1 hlocks rfl hP hD hK hS dX0_endRange_23 (fun dn dm hdn hdm => ⟨by omega, by omega, hE.2.1 5, hE.2.1 6, by omega, Or.inl ⟨rfl, rfl, (fun h8 h9 => by omega), rfl, rfl⟩⟩) (by omega) (by omega)
  · skip
    refine lv_iload_n hx hb dX0_endRange_7 rfl (lv_at hl 1 rfl) ?_
    refine lv_aload_n hx hb dX0_endRange_8 rfl (lv_at hl 0 rfl) ?_
    refine va_get (D := (dC, dI)) (ci := 0) (v := .ref (o 5)) (C := RX0) (T := TX0) (N := 12) hx hb hts kt_X0 hown hK hP 0 rfl rfl 5 (by decide) (kx_word hG kq_16_xentry_11 rfl) (fun _ h9 => h9) rfl dX0_endRange_9 ?_
    refine lv_aload_n hx hb dX0_endRange_12 rfl (lv_at hl 0 rfl) ?_
    refine va_get (D := (dC, dI)) (ci := 0) (v := .int (iz (z 9))) (C := RX0) (T := TX0) (N := 12) hx hb hts kt_X0 hown hK hP 0 rfl rfl 7 (by decide) (kx_word hG kq_16_xentry_10 rfl) (fun _ h9 => h9) rfl dX0_endRange_13 ?_
    have hPc := hP.sub (ws' := (sU cI 20 (o 5) (o 6) (o 7) (o 8) (r 4) (r 5) (r 6) (n 4) (n 5) (n 6) (z 4) (z 5) (z 6) (F 4) (F 5) (F 6))) [9, 10, 11, 12, 13, 14, 15] rfl
    refine xk_pure (va_runV (As := [.int (iz (z 9))]) (rest := [.int (iz p0)]) ⟨hx, hb, hml, hown, hts⟩ (x_sfrom l dC dI cI cB cE 20 (o 5) (o 6) (o 7) (o 8) (r 4) (r 5) (r 6) (n 4) (n 5) (n 6) (z 4) (z 5) (z 6) (F 4) (F 5) (F 6) (z 9) s.heap.size (by omega) (hE.2.1 4) (by omega) (hE.2.1 5) (by omega) (hE.2.1 6) (by omega) (by omega)) (cwV 1 hts (kx_gV kq_16_xentry_14 kq_15_xspan_56 kq_15_xspan_57 kq_15_xspan_53 kq_15_xspan_58 rfl) rfl rfl rfl (by decide +kernel) ⟨Nat.le_of_ble_eq_true rfl, Nat.le_of_ble_eq_true rfl⟩) ⟨pPre_blind, va_recv hK hPc (ci := 3) (q0 := 0) rfl rfl, pPre_give hPc hK hG⟩ rfl rfl hl.1 rfl (lv_room (Nat.le_of_ble_eq_true rfl)) dX0_endRange_16 ⟨show 0 + 0 ≤ 0 from (by omega), show 0 + 0 ≤ 0 from (by omega)⟩) hS (fun z_3 locs hq_2 hS => ?_)
    refine W.eq (g2 := F0 m 19 ls [.int (iz z_3), .int (iz p0)]) rfl ?_
    try dsimp only at hq_2
    refine ki_icmp_ge (tgt := 24) hx hb dX0_endRange_19 (by decide) (by omega) (by omega) (by omega) (by omega) (fun c_4 => ?_) (fun c_4 => ?_)
    · skip
      refine lv_aload_n hx hb dX0_endRange_24 rfl (lv_at hl 0 rfl) ?_
      refine va_get (D := (dC, dI)) (ci := 0) (v := .ref (o 5)) (C := RX0) (T := TX0) (N := 12) hx hb hts kt_X0 hown hK hP 0 rfl rfl 5 (by decide) (kx_word hG kq_16_xentry_11 rfl) (fun _ h9 => h9) rfl dX0_endRange_25 ?_
      refine lv_aload_n hx hb dX0_endRange_28 rfl (lv_at hl 0 rfl) ?_
      refine va_get (D := (dC, dI)) (ci := 0) (v := .int (iz (z 9))) (C := RX0) (T := TX0) (N := 12) hx hb hts kt_X0 hown hK hP 0 rfl rfl 7 (by decide) (kx_word hG kq_16_xentry_10 rfl) (fun _ h9 => h9) rfl dX0_endRange_29 ?_
      refine lv_iload_n hx hb dX0_endRange_32 rfl (lv_at hl 1 rfl) ?_
      have hPc := hP.sub (ws' := (sU cI 20 (o 5) (o 6) (o 7) (o 8) (r 4) (r 5) (r 6) (n 4) (n 5) (n 6) (z 4) (z 5) (z 6) (F 4) (F 5) (F 6))) [9, 10, 11, 12, 13, 14, 15] rfl
      have hDc := hD.sub (ws' := (sU cI 20 (o 5) (o 6) (o 7) (o 8) (r 4) (r 5) (r 6) (n 4) (n 5) (n 6) (z 4) (z 5) (z 6) (F 4) (F 5) (F 6))) [9, 10, 11, 12, 13, 14, 15] (by decide) rfl
      have hFc := va_free (wc := (sU cI 20 (o 5) (o 6) (o 7) (o 8) (r 4) (r 5) (r 6) (n 4) (n 5) (n 6) (z 4) (z 5) (z 6) (F 4) (F 5) (F 6))) hD hS hA [9, 10, 11, 12, 13, 14, 15] rfl
      refine xk_call (va_runV (As := [.int (iz (z 9)), .int (iz p0)]) (rest := []) ⟨hx, hb, hml, hown, hts⟩ (x_sendAt2 l dC dI cI cB cE 20 (o 5) (o 6) (o 7) (o 8) (r 4) (r 5) (r 6) (n 4) (n 5) (n 6) (z 4) (z 5) (z 6) (F 4) (F 5) (F 6) (z 9) p0 s.heap.size (by omega) (hE.2.1 4) (by omega) (hE.2.1 5) (by omega) (hE.2.1 6) (by omega) (by omega) (by omega) (by omega) (by have h9 := h9z (by omega); omega)) (cwV 2 hts (kx_gV kq_16_xentry_15 kq_16_xentry_16 kq_16_xentry_17 kq_15_xspan_53 kq_16_xentry_18 rfl) rfl rfl rfl (by decide +kernel) ⟨Nat.le_of_ble_eq_true rfl, Nat.le_of_ble_eq_true rfl⟩) ⟨kx_blind, va_recv hK hPc (ci := 3) (q0 := 0) rfl rfl, kx_give (ws := []) (tys := []) hPc hDc hK hG hZ hS hFc⟩ rfl rfl hl.1 rfl (lv_room (Nat.le_of_ble_eq_true rfl)) dX0_endRange_33 ⟨show 0 + 0 ≤ 0 from (by omega), show 0 + 0 ≤ 0 from (by omega)⟩) hS (fun q _ h => hFc q h) hFc (fun u dn_6 dm_7 t H locs ht hvm hq_5 hB hk1 hS => ?_)
      obtain ⟨F2_8, F3_9⟩ := u
      obtain ⟨hP1, hK1, hD1⟩ := hB
      rw [ht] at hP1
      obtain ⟨hP, hD⟩ := xj (wr := [(o 0, .inr (0, [.int (iz (z 7)), .int (iz (z 8)), .ref (o 1), .ref (o 2), .ref (o 3), .ref (o 5), .ref (o 4), .int (iz (z 9)), .int (iz (z 10)), .int (iz (z 11)), .int (iz (z 12)), .int (iz (z 13))])), (o 1, .inr (1, [.int (iz 20), .ref (r 0), .int (iz (z 0))])), (r 0, .inl (cI, n 0, .inl (iA (F 0)))), (o 2, .inr (1, [.int (iz 20), .ref (r 1), .int (iz (z 1))])), (r 1, .inl (cI, n 1, .inl (iA (F 1)))), (o 3, .inr (1, [.int (iz 40), .ref (r 2), .int (iz (z 2))])), (r 2, .inl (cI, n 2, .inl (iA (F 2)))), (o 4, .inr (1, [.int (iz 5), .ref (r 3), .int (iz (z 3))])), (r 3, .inl (cI, n 3, .inl (iA (F 3))))]) (w1 := (sU cI 20 (o 5) (o 6) (o 7) (o 8) (r 4) (r 5) (r 6) (n 4) (n 5) (n 6) (z 4) (z 5) (z 6) (F 4) F2_8 F3_9)) (ws' := (eU cI o r n z (va_up (va_up F 5 F2_8) 6 F3_9))) hP hD [9, 10, 11, 12, 13, 14, 15] [0, 1, 2, 3, 4, 5, 6, 7, 8] [0, 1, 2, 3, 4, 5, 6, 7, 8, 9, 10, 11, 12, 13, 14, 15] rfl rfl (by decide) (by decide) hk1 hFc hP1 hD1 rfl (by decide)
      refine W.eq (g2 := F0 m 36 ls []) rfl ?_
      try dsimp only at hq_5
      obtain ⟨hd, hm, hg1, hg2, he1, he2⟩ := hq_5
      refine lv_aload_n hx hb dX0_endRange_36 rfl (lv_at hl 0 rfl) ?_
      refine lv_iconst (v := iz (-1)) hx hb dX0_endRange_37 (by decide) ?_
      refine va_put (D := (dC, dI)) (ci := 0) (v := .int (iz (-1))) (ty := .int) (C := RX0) (T := TX0) (N := 12) hx hb hts kt_X0 tyX0 tyX0_ok nmX0 hown hK hP hD hS 0 rfl rfl 7 (by decide) (kx_word hG kq_16_xentry_10 rfl) (fun _ h9 => h9) rfl (by decide +kernel) rfl rfl (Nat.le_of_ble_eq_true rfl) dX0_endRange_38 (fun H locs hP hD hS => ?_)
      have hP : va_P (dC, dI) kxCl (eU cI o r n (va_up z 9 (-1)) (va_up (va_up F 5 F2_8) 6 F3_9)) H := hP
      have hD : va_D A (eU cI o r n (va_up z 9 (-1)) (va_up (va_up F 5 F2_8) 6 F3_9)) := hD
      refine lv_iconst (v := iz 1) hx hb dX0_endRange_41 (by decide) ?_
      exact xk_iret (ov := (fun u : Int × Int × (Int → Int) × (Int → Int) => match u with | (q, z9', F5', F6') => some (.int (iz q)))) (post := (fun (u : Int × Int × (Int → Int) × (Int → Int)) (dn dm : Nat) => match u with | (q, z9', F5', F6') => dn = 0 ∧ dm = 0 ∧ iB F5' ∧ iB F6' ∧ (-2147483648 ≤ z9' ∧ z9' < 2147483648) ∧ ((q = 0 ∧ z9' = z 9 ∧ (0 ≤ z 9 → z 9 < z 4 → p0 < F 4 (z 9)) ∧ F5' = F 5 ∧ F6' = F 6) ∨ (q = 1 ∧ 0 ≤ z 9 ∧ (z 9 < z 4 → F 4 (z 9) ≤ p0) ∧ z9' = -1 ∧ F5' = upI (F 5) (z 9) p0 ∧ F6' = upI (F 6) (z 9) 1)))) (ws := (fun u : Int × Int × (Int → Int) × (Int → Int) => match u with | (q, z9', F5', F6') => (eU cI o r n (va_up z 9 z9') (va_up (va_up F 5 F5') 6 F6')))) (tys := xT cI cB cE) (z := 1) (1, (-1), F2_8, F3_9) hx hb hr (mz_bool (by omega)).1 hlocks rfl hP hD hK hS dX0_endRange_42 (fun dn dm hdn hdm => ⟨by omega, by omega, hg1, hg2, by omega, Or.inr ⟨rfl, by omega, fun h9 => by omega, rfl, he1, he2⟩⟩) (by omega) (by omega)
    · skip
      refine lv_iconst (v := iz 0) hx hb dX0_endRange_22 (by decide) ?_
      exact xk_iret (ov := (fun u : Int × Int × (Int → Int) × (Int → Int) => match u with | (q, z9', F5', F6') => some (.int (iz q)))) (post := (fun (u : Int × Int × (Int → Int) × (Int → Int)) (dn dm : Nat) => match u with | (q, z9', F5', F6') => dn = 0 ∧ dm = 0 ∧ iB F5' ∧ iB F6' ∧ (-2147483648 ≤ z9' ∧ z9' < 2147483648) ∧ ((q = 0 ∧ z9' = z 9 ∧ (0 ≤ z 9 → z 9 < z 4 → p0 < F 4 (z 9)) ∧ F5' = F 5 ∧ F6' = F 6) ∨ (q = 1 ∧ 0 ≤ z 9 ∧ (z 9 < z 4 → F 4 (z 9) ≤ p0) ∧ z9' = -1 ∧ F5' = upI (F 5) (z 9) p0 ∧ F6' = upI (F 6) (z 9) 1)))) (ws := (fun u : Int × Int × (Int → Int) × (Int → Int) => match u with | (q, z9', F5', F6') => (eU cI o r n (va_up z 9 z9') (va_up (va_up F 5 F5') 6 F6')))) (tys := xT cI cB cE) (z := 0) (0, z 9, F 5, F 6) hx hb hr (mz_bool (by omega)).1 hlocks rfl hP hD hK hS dX0_endRange_23 (fun dn dm hdn hdm => ⟨by omega, by omega, hE.2.1 5, hE.2.1 6, by omega, Or.inl ⟨rfl, rfl, (fun h8 h9 => by omega), rfl, rfl⟩⟩) (by omega) (by omega)
set_option maxHeartbeats 4000000 in
set_option maxRecDepth 100000 in
theorem y_page5 (l : Launch) (hlf : l.stackTraces = false) (dC : Nat → ClassId) (dI : Nat → Nat → Nat) (cI cB cE : ClassId) (o r n : Nat → Nat) (z : Nat → Int) (F : Nat → Int → Int) (G : Nat → Option Nat) (N : Nat) (Eo Er En : Nat → Nat → Nat) (Ez : Nat → Nat → Int) (EF : Nat → Nat → Int → Int) (p0 : Int) (p1 : Int) (p2 : Int) (sz : Nat) (hok : xOk n z F) (hxG : xG N (z 12) G Eo) (hPE : eA N En Ez EF) (hp01 : -2147483648 ≤ p0) (hp02 : p0 < 2147483648) (hp11 : -2147483648 ≤ p1) (hp12 : p1 < 2147483648) (hp21 : -2147483648 ≤ p2) (hp22 : p2 < 2147483648) : vx_Met l yX5_page [.code yX5_page cX5_page 6 (some .int)] ({ frames := 8, cells := 200, slots := 60000, locals := 126 }) (va_Pc [.ref (o 15), .int (iz p0), .int (iz p1), .int (iz p2)] (kx_Pre dC dI (xU cI cB cE o r n z F G (Eo 0 0) ++ eP cI N Eo Er En Ez EF) (xT cI cB cE) sz)) (xQ (fun u : (Int) × (Nat → Nat) × (Nat → Nat) × (Nat → Int) × (Nat → Int → Int) × (Nat → Nat → Nat) × (Nat → Nat → Nat) × (Nat → Nat → Int) × (Nat → Nat → Int → Int) => match u with | (q, r', n', z', F', Er', En', Ez', EF') => some (.int (iz q))) (fun (u : (Int) × (Nat → Nat) × (Nat → Nat) × (Nat → Int) × (Nat → Int → Int) × (Nat → Nat → Nat) × (Nat → Nat → Nat) × (Nat → Nat → Int) × (Nat → Nat → Int → Int)) (dn dm : Nat) => match u with | (q, r', n', z', F', Er', En', Ez', EF') => xR [16] [] [4, 5, 6] [4, 5, 6] N z F En Ez EF n' z' F' En' Ez' EF' ∧ (dn + xg n' ≤ xg n + 30 ∧ dm + xp n' ≤ xp n + 200) ∧ (((0 ≤ p0 ∧ p0 < z 12) ∧ (1 ≤ p2 ∧ ((p1 = 0 ∧ p2 ≤ 3999) ∨ (p1 = 1 ∧ p2 ≤ 99999) ∨ (p1 = 2 ∧ p2 ≤ 702))) ∧ Ez ((p0 + 1).toNat) 4 < 20 ∧ q = Ez ((p0 + 1).toNat) 4 + 1 ∧ Ez' ((p0 + 1).toNat) 4 = Ez ((p0 + 1).toNat) 4 + 1 ∧ (∀ i, 0 ≤ i → i < Ez ((p0 + 1).toNat) 4 → EF' ((p0 + 1).toNat) 4 i = EF ((p0 + 1).toNat) 4 i) ∧ (∀ j, j ≠ ((p0 + 1).toNat) → Ez' j = Ez j ∧ EF' j = EF j)) ∧ (iAdd 20 (Ez ((p0 + 1).toNat) 4) (EF ((p0 + 1).toNat) 4) (Ez' ((p0 + 1).toNat) 4) (EF' ((p0 + 1).toNat) 4) (p1 * 100000 + p2) ∧ iAdd 20 (Ez ((p0 + 1).toNat) 5) (EF ((p0 + 1).toNat) 5) (Ez' ((p0 + 1).toNat) 5) (EF' ((p0 + 1).toNat) 5) (p1 * 100000 + p2) ∧ iAdd 20 (Ez ((p0 + 1).toNat) 6) (EF ((p0 + 1).toNat) 6) (Ez' ((p0 + 1).toNat) 6) (EF' ((p0 + 1).toNat) 6) 0) ∧ z' 16 = -1)) (fun u t => kx_At dC dI (va_A (xU cI cB cE o r n z F G (Eo 0 0) ++ eP cI N Eo Er En Ez EF) sz) ((fun u : (Int) × (Nat → Nat) × (Nat → Nat) × (Nat → Int) × (Nat → Int → Int) × (Nat → Nat → Nat) × (Nat → Nat → Nat) × (Nat → Nat → Int) × (Nat → Nat → Int → Int) => match u with | (q, r', n', z', F', Er', En', Ez', EF') => (xU cI cB cE o r' n' z' F' G (Eo 0 0) ++ eP cI N Eo Er' En' Ez' EF')) u) (xT cI cB cE) t) (va_A (xU cI cB cE o r n z F G (Eo 0 0) ++ eP cI N Eo Er En Ez EF) sz)) (yX (fun E => (E = "java/util/NoSuchElementException" ∧ (¬ (0 ≤ p0 ∧ p0 < z 12))) ∨ (E = "java/lang/IllegalArgumentException" ∧ ((0 ≤ p0 ∧ p0 < z 12) ∧ ¬ (1 ≤ p2 ∧ ((p1 = 0 ∧ p2 ≤ 3999) ∨ (p1 = 1 ∧ p2 ≤ 99999) ∨ (p1 = 2 ∧ p2 ≤ 702))))) ∨ (E = "java/lang/UnsupportedOperationException" ∧ ((0 ≤ p0 ∧ p0 < z 12) ∧ (1 ≤ p2 ∧ ((p1 = 0 ∧ p2 ≤ 3999) ∨ (p1 = 1 ∧ p2 ≤ 99999) ∨ (p1 = 2 ∧ p2 ≤ 702))) ∧ 20 ≤ Ez ((p0 + 1).toNat) 4))) 2 12 (fun t => ∃ u : (Nat → Nat) × (Nat → Nat) × (Nat → Int) × (Nat → Int → Int) × (Nat → Nat → Nat) × (Nat → Nat → Nat) × (Nat → Nat → Int) × (Nat → Nat → Int → Int), match u with | (r', n', z', F', Er', En', Ez', EF') => xR [] [] [] [] N z F En Ez EF n' z' F' En' Ez' EF' ∧ kx_At dC dI (va_A (xU cI cB cE o r n z F G (Eo 0 0) ++ eP cI N Eo Er En Ez EF) sz) (xU cI cB cE o r' n' z' F' G (Eo 0 0) ++ eP cI N Eo Er' En' Ez' EF') (xT cI cB cE) t) (va_A (xU cI cB cE o r n z F G (Eo 0 0) ++ eP cI N Eo Er En Ez EF) sz)) 200 60000 (va_A (xU cI cB cE o r n z F G (Eo 0 0) ++ eP cI N Eo Er En Ez EF) sz) := by
  refine vx_ofW (cc := cX5_page) (maxL := 6) (ret := (some .int)) (by decide) rfl ?_
  intro p e s m args below meth c s₁ B hml htab hv
  obtain ⟨rfl, hsz, hP, hK, hD0, hG, hZ⟩ := hv
  have hx := B.exec
  have hb := B.bytes
  have hr := B.returns
  have hts := kx_hts (a := ([.ref (o 15), .int (iz p0), .int (iz p1), .int (iz p2)] : List Value).toArray) hG
  have hown : s.vm.findClass RX5 = some m.cls := findClass_of_methodNamed B.named
  have hlocks := B.notSynchronized
  subst hsz
  have hD := hD0.self (sz := s.heap.size)
  generalize hAe : va_A (xU cI cB cE o r n z F G (Eo 0 0) ++ eP cI N Eo Er En Ez EF) s.heap.size = A at hD hZ ⊢
  have hA : ∀ q : Nat, s.heap.size ≤ q → A q := fun q h => by rw [← hAe]; exact Or.inr h
  have hS : va_S A s.heap s.heap [] := va_S.rf
  have hl := lv_entry ([.ref (o 15), .int (iz p0), .int (iz p1), .int (iz p2)]) (n := 6) (Nat.le_of_ble_eq_true rfl)
  rw [lg_entry_eq]
  generalize (lg_sl ([.ref (o 15), .int (iz p0), .int (iz p1), .int (iz p2)]) ++ List.replicate (6 - (lg_sl ([.ref (o 15), .int (iz p0), .int (iz p1), .int (iz p2)])).length) Slot.unset).toArray = ls at hl ⊢
  obtain ⟨hN1, hN2, hN3, hN4⟩ := hxG
  have hef : eFr [4, 5, 6] [4, 5, 6] En Ez EF En Ez EF := eFr.rf
  have hfr : xFr [16] [] z F z F := xFr.rf
  have hxgl := xg_le n
  have hxpl := xp_le n
  have hl : lv_has ls 6 [(0, .ref (o 15)), (1, .int (iz p0)), (2, .int (iz p1)), (3, .int (iz p2))] := hl
  refine lv_aload_n hx hb dX5_page_0 rfl (lv_at hl 0 rfl) ?_
  refine lv_iload_n hx hb dX5_page_1 rfl (lv_at hl 1 rfl) ?_
  have hxz_1 : -2147483648 ≤ z 12 ∧ z 12 < 2147483648 := hok.2.2.2.1 12
  have hxG9 : xG N (z 12) G Eo := ⟨by omega, by omega, by omega, fun e9 h9 => hN4 e9 (by omega)⟩
  have hP : va_P (dC, dI) kxCl (xU cI cB cE o r n z F G (Eo 0 0) ++ eP cI N Eo Er En Ez EF) s.heap := hP
  have hD : va_D A (xU cI cB cE o r n z F G (Eo 0 0) ++ eP cI N Eo Er En Ez EF) := hD
  have hFc := xw_free hD hS hA
  refine yk_call (vx_runV (As := [.int (iz p0)]) (rest := []) ⟨hx, hb, hml, hown, hts⟩ (y_needEntry l hlf dC dI cI cB cE o r n z F G N Eo Er En Ez EF p0 s.heap.size hok hxG9 hPE (by omega) (by omega)) (cwV 1 hts (kx_gV kq_21_xcalls_10 kq_21_xcalls_11 kq_21_xcalls_12 kq_18_xrows_4 kq_21_xcalls_13 rfl) rfl rfl rfl (by decide +kernel) ⟨Nat.le_of_ble_eq_true rfl, Nat.le_of_ble_eq_true rfl⟩) ⟨kx_blind, va_recv hK hP (ci := 5) (q0 := 0) rfl rfl, kx_give (ws := []) (tys := []) hP hD hK hG hZ hS hFc⟩ rfl rfl hl.1 rfl (lv_room (Nat.le_of_ble_eq_true rfl)) dX5_page_2 ⟨show 0 + 1 ≤ 200 from (by omega), show 0 + 6 ≤ 60000 from (by omega)⟩) hS (fun q _ h => hFc q h) hFc (fun E ce q9 t H1 locs ht hvm hEx hBx hk1 hS hcell hcv hcl => ?_) (fun u dn_4 dm_5 t H locs ht hvm hq_2 hB hk1 hS => ?_)
  · skip
    exact ky_out (fun x hx => (htab x hx).elim) hlocks hcell hcv hcl (by obtain ⟨rfl, h9⟩ := hEx; exact Or.inl ⟨rfl, by first | trivial | omega⟩) (fun t9 ht9 hvm9 => by obtain ⟨⟨r8, n8, z8, F8, Er8, En8, Ez8, EF8⟩, hR8, hP8, hK8, hD8⟩ := hBx; exact ⟨(r8, n8, z8, F8, Er8, En8, Ez8, EF8), hR8, (by rw [ht9, ← ht]; exact hP8), va_K.moved hvm9 hK, hD8.weaken (fun _ q _ h => hFc _ h)⟩) hS hS.2.2 (by omega) (by omega) (by omega) (by omega)
  · skip
    obtain ⟨r_6, n_7, z_8, F_9, Er_10, En_11, Ez_12, EF_13⟩ := u
    obtain ⟨hP, hK1, hD1⟩ := hB
    rw [ht] at hP
    have hD := hD1.weaken (fun _ q _ h => hFc _ h)
    obtain ⟨hR14, hC14, hq_2⟩ := hq_2
    obtain ⟨rfl, rfl, rfl, rfl, rfl, rfl, rfl, hq_2⟩ := hq_2
    obtain ⟨rfl, hq_2⟩ := hq_2
    refine W.eq (g2 := F0 m 5 ls []) rfl ?_
    refine lv_iload_n hx hb dX5_page_5 rfl (lv_at hl 3 rfl) ?_
    refine lv_iconst (v := iz 1) hx hb dX5_page_6 (by decide) ?_
    refine ki_icmp_lt (tgt := 18) hx hb dX5_page_7 (by decide) (by omega) (by omega) (by omega) (by omega) (fun c_15 => ?_) (fun c_15 => ?_)
    · skip
      exact ky_thr_IAE hx hb hlf hown hG hZ hS (hl.1.trans hml.symm) dX5_page_18 dX5_page_21 dX5_page_22 dX5_page_25 htab (Nat.le_of_ble_eq_true rfl) (Nat.le_of_ble_eq_true rfl) (show (0 + dn_4) + 1 ≤ 200 from (by omega)) (show (0 + dm_5) + 6 ≤ 60000 from (by omega)) hlocks (Or.inr (Or.inl ⟨rfl, by first | trivial | omega⟩)) (fun t hvm h1 h2 => ⟨(r, n, z, F, Er, En, Ez, EF), ⟨hok, xFr.rf, hPE, eFr.rf⟩, hP.kept (fun k q hk => h2 q.1 (hP k q hk).lt), va_K.moved hvm hK, hD⟩) hS.2.2 (by omega) (by omega) (by omega) (by omega)
    · skip
      refine lv_iload_n hx hb dX5_page_10 rfl (lv_at hl 3 rfl) ?_
      refine lv_iload_n hx hb dX5_page_11 rfl (lv_at hl 2 rfl) ?_
      have hPc : va_P (dC, dI) kxCl [] H := fun k q h => by simp at h
      refine xk_pure (va_runS (As := [.int (iz p1)]) (rest := [.int (iz p2)]) ⟨hx, hb, hml, hown, hts⟩ (x_lastOf l dC dI cI cB cE p1 H.size (by omega) (by omega)) (va_cwS 1 hts (kx_gS kq_21_xcalls_18 kq_21_xcalls_19 kq_18_xrows_4 kq_21_xcalls_20 rfl) rfl rfl rfl (by decide +kernel) ⟨Nat.le_of_ble_eq_true rfl, Nat.le_of_ble_eq_true rfl⟩) ⟨pPre_blind, pPre_give hPc hK hG⟩ rfl rfl hl.1 rfl (lv_room (Nat.le_of_ble_eq_true rfl)) dX5_page_12 ⟨show (0 + dn_4) + 0 ≤ 200 from (by omega), show (0 + dm_5) + 0 ≤ 60000 from (by omega)⟩) hS (fun z_17 locs hq_16 hS => ?_)
      refine W.eq (g2 := F0 m 15 ls [.int (iz z_17), .int (iz p2)]) rfl ?_
      try dsimp only at hq_16
      refine ki_icmp_le (tgt := 26) hx hb dX5_page_15 (by decide) (by omega) (by omega) (by omega) (by omega) (fun c_18 => ?_) (fun c_18 => ?_)
      · skip
        refine lv_aload_n hx hb dX5_page_26 rfl (lv_at hl 0 rfl) ?_
        refine lv_iload_n hx hb dX5_page_27 rfl (lv_at hl 1 rfl) ?_
        have hxG9 : xG N (z 12) G Eo := ⟨by omega, by omega, by omega, fun e9 h9 => hN4 e9 (by omega)⟩
        have hP : va_P (dC, dI) kxCl (xU cI cB cE o r n z F G (Eo 0 0) ++ eP cI N Eo Er En Ez EF) H := hP
        refine xk_pure (va_runV (As := [.int (iz p0)]) (rest := []) ⟨hx, hb, hml, hown, hts⟩ (y_known l dC dI cI cB cE o r n z F G N Eo Er En Ez EF p0 H.size hok hxG9 hPE (by omega) (by omega)) (cwV 1 hts (kx_gV kq_18_xrows_8 kq_18_xrows_9 kq_18_xrows_10 kq_18_xrows_4 kq_18_xrows_11 rfl) rfl rfl rfl (by decide +kernel) ⟨Nat.le_of_ble_eq_true rfl, Nat.le_of_ble_eq_true rfl⟩) ⟨pPre_blind, va_recv hK hP (ci := 5) (q0 := 0) rfl rfl, pPre_give hP hK hG⟩ rfl rfl hl.1 rfl (lv_room (Nat.le_of_ble_eq_true rfl)) dX5_page_28 ⟨show (0 + dn_4) + 0 ≤ 200 from (by omega), show (0 + dm_5) + 0 ≤ 60000 from (by omega)⟩) hS (fun z_20 locs hq_19 hS => ?_)
        refine W.eq (g2 := F0 m 31 ls [.ref z_20.toNat]) rfl ?_
        try dsimp only at hq_19
        obtain ⟨j21, hj21, ez21, hje21⟩ := hq_19
        subst ez21
        refine W.eq (g2 := F0 m 31 ls [.ref (Eo j21 0)]) rfl ?_
        have ej21 : j21 = (p0 + 1).toNat := by omega
        subst ej21
        have hP := eP_foc hj21 hP
        have hD := eD_foc hj21 hD
        refine va_getN (D := (dC, dI)) (ci := 0) (v := .ref (Eo ((p0 + 1).toNat) 5)) (C := RX0) (T := TX0) (N := 12) hx hb hts kt_X0 hown hK hP 29 rfl rfl 5 (by decide) (va_Nw.use rfl (kx_nf hG kq_19_xouts_22)) (fun _ h9 => h9) rfl dX5_page_31 ?_
        refine lv_astore (lv' := [(4, .ref (Eo ((p0 + 1).toNat) 5)), (0, .ref (o 15)), (1, .int (iz p0)), (2, .int (iz p1)), (3, .int (iz p2))]) hx hb dX5_page_34 hl (by decide) rfl (fun ls hl => ?_)
        refine lv_aload hx hb dX5_page_36 (lv_at hl 0 rfl) ?_
        have he_22 : 0 ≤ Ez ((p0 + 1).toNat) 4 ∧ Ez ((p0 + 1).toNat) 4 ≤ ((En ((p0 + 1).toNat) 4 : Nat) : Int) ∧ ((En ((p0 + 1).toNat) 4 : Nat) : Int) ≤ 20 := (hPE ((p0 + 1).toNat) hj21).1 4 (by decide)
        have he_23 : 0 ≤ Ez ((p0 + 1).toNat) 5 ∧ Ez ((p0 + 1).toNat) 5 ≤ ((En ((p0 + 1).toNat) 5 : Nat) : Int) ∧ ((En ((p0 + 1).toNat) 5 : Nat) : Int) ≤ 20 := (hPE ((p0 + 1).toNat) hj21).1 5 (by decide)
        have he_24 : 0 ≤ Ez ((p0 + 1).toNat) 6 ∧ Ez ((p0 + 1).toNat) 6 ≤ ((En ((p0 + 1).toNat) 6 : Nat) : Int) ∧ ((En ((p0 + 1).toNat) 6 : Nat) : Int) ≤ 20 := (hPE ((p0 + 1).toNat) hj21).1 6 (by decide)
        have hPc := hP.sub (ws' := (sU cI 20 (Eo ((p0 + 1).toNat) 5) (Eo ((p0 + 1).toNat) 6) (Eo ((p0 + 1).toNat) 7) (Eo ((p0 + 1).toNat) 8) (Er ((p0 + 1).toNat) 4) (Er ((p0 + 1).toNat) 5) (Er ((p0 + 1).toNat) 6) (En ((p0 + 1).toNat) 4) (En ((p0 + 1).toNat) 5) (En ((p0 + 1).toNat) 6) (Ez ((p0 + 1).toNat) 4) (Ez ((p0 + 1).toNat) 5) (Ez ((p0 + 1).toNat) 6) (EF ((p0 + 1).toNat) 4) (EF ((p0 + 1).toNat) 5) (EF ((p0 + 1).toNat) 6))) [38, 39, 40, 41, 42, 43, 44] rfl
        refine xk_pure (va_runV (As := []) (rest := []) ⟨hx, hb, hml, hown, hts⟩ (x_sfull l dC dI cI cB cE 20 (Eo ((p0 + 1).toNat) 5) (Eo ((p0 + 1).toNat) 6) (Eo ((p0 + 1).toNat) 7) (Eo ((p0 + 1).toNat) 8) (Er ((p0 + 1).toNat) 4) (Er ((p0 + 1).toNat) 5) (Er ((p0 + 1).toNat) 6) (En ((p0 + 1).toNat) 4) (En ((p0 + 1).toNat) 5) (En ((p0 + 1).toNat) 6) (Ez ((p0 + 1).toNat) 4) (Ez ((p0 + 1).toNat) 5) (Ez ((p0 + 1).toNat) 6) (EF ((p0 + 1).toNat) 4) (EF ((p0 + 1).toNat) 5) (EF ((p0 + 1).toNat) 6)  H.size (by omega) ((hPE ((p0 + 1).toNat) hj21).2.1 4) (by omega) ((hPE ((p0 + 1).toNat) hj21).2.1 5) (by omega) ((hPE ((p0 + 1).toNat) hj21).2.1 6)) (cwV 0 hts (kx_gV kq_21_xcalls_21 kq_21_xcalls_22 kq_21_xcalls_23 kq_15_xspan_53 kq_21_xcalls_24 rfl) rfl rfl rfl (by decide +kernel) ⟨Nat.le_of_ble_eq_true rfl, Nat.le_of_ble_eq_true rfl⟩) ⟨pPre_blind, va_recv hK hPc (ci := 3) (q0 := 0) rfl rfl, pPre_give hPc hK hG⟩ rfl rfl hl.1 rfl (lv_room (Nat.le_of_ble_eq_true rfl)) dX5_page_38 ⟨show (0 + dn_4) + 0 ≤ 200 from (by omega), show (0 + dm_5) + 0 ≤ 60000 from (by omega)⟩) hS (fun z_26 locs hq_25 hS => ?_)
        refine W.eq (g2 := F0 m 41 ls [.int (iz z_26)]) rfl ?_
        try dsimp only at hq_25
        rcases hq_25 with ⟨rfl, hq_25⟩ | ⟨rfl, hq_25⟩
        · skip
          refine ki_if_eq (tgt := 52) hx hb dX5_page_41 (by decide) (by omega) (by omega) (fun c_27 => ?_) (fun c_27 => ?_)
          · omega
          · skip
            have hP := eP_un0 hj21 hP
            have hD := eD_un0 hj21 hD
            exact ky_thr_UOE hx hb hlf hown hG hZ hS (hl.1.trans hml.symm) dX5_page_44 dX5_page_47 dX5_page_48 dX5_page_51 htab (Nat.le_of_ble_eq_true rfl) (Nat.le_of_ble_eq_true rfl) (show (0 + dn_4) + 1 ≤ 200 from (by omega)) (show (0 + dm_5) + 6 ≤ 60000 from (by omega)) hlocks (Or.inr (Or.inr (⟨rfl, by first | trivial | omega⟩))) (fun t hvm h1 h2 => ⟨(r, n, z, F, Er, En, Ez, EF), ⟨hok, xFr.rf, hPE, eFr.rf⟩, hP.kept (fun k q hk => h2 q.1 (hP k q hk).lt), va_K.moved hvm hK, hD⟩) hS.2.2 (by omega) (by omega) (by omega) (by omega)
        · skip
          refine ki_if_eq (tgt := 52) hx hb dX5_page_41 (by decide) (by omega) (by omega) (fun c_28 => ?_) (fun c_28 => ?_)
          · skip
            refine lv_iload_n hx hb dX5_page_52 rfl (lv_at hl 3 rfl) ?_
            refine lv_ldc (v := 100000) hx hb hown (kx_word hG kq_19_xouts_55 rfl) dX5_page_53 ?_
            refine ki_is (show (100000 : Int32) = iz 100000 by decide) ?_
            refine ki_imul hx hb dX5_page_55 ?_
            refine lv_iload_n hx hb dX5_page_56 rfl (lv_at hl 4 rfl) ?_
            refine ki_iadd hx hb dX5_page_57 ?_
            refine lv_istore (lv' := [(5, .int (iz ((p1 * 100000) + p2))), (4, .ref (Eo ((p0 + 1).toNat) 5)), (0, .ref (o 15)), (1, .int (iz p0)), (2, .int (iz p1)), (3, .int (iz p2))]) hx hb dX5_page_58 hl (by decide) rfl (fun ls hl => ?_)
            refine lv_aload hx hb dX5_page_60 (lv_at hl 1 rfl) ?_
            refine lv_iload hx hb dX5_page_62 (lv_at hl 0 rfl) ?_
            refine lv_iload hx hb dX5_page_64 (lv_at hl 0 rfl) ?_
            refine lv_iconst (v := iz 0) hx hb dX5_page_66 (by decide) ?_
            have hPc := hP.sub (ws' := (sU cI 20 (Eo ((p0 + 1).toNat) 5) (Eo ((p0 + 1).toNat) 6) (Eo ((p0 + 1).toNat) 7) (Eo ((p0 + 1).toNat) 8) (Er ((p0 + 1).toNat) 4) (Er ((p0 + 1).toNat) 5) (Er ((p0 + 1).toNat) 6) (En ((p0 + 1).toNat) 4) (En ((p0 + 1).toNat) 5) (En ((p0 + 1).toNat) 6) (Ez ((p0 + 1).toNat) 4) (Ez ((p0 + 1).toNat) 5) (Ez ((p0 + 1).toNat) 6) (EF ((p0 + 1).toNat) 4) (EF ((p0 + 1).toNat) 5) (EF ((p0 + 1).toNat) 6))) [38, 39, 40, 41, 42, 43, 44] rfl
            have hDc := hD.sub (ws' := (sU cI 20 (Eo ((p0 + 1).toNat) 5) (Eo ((p0 + 1).toNat) 6) (Eo ((p0 + 1).toNat) 7) (Eo ((p0 + 1).toNat) 8) (Er ((p0 + 1).toNat) 4) (Er ((p0 + 1).toNat) 5) (Er ((p0 + 1).toNat) 6) (En ((p0 + 1).toNat) 4) (En ((p0 + 1).toNat) 5) (En ((p0 + 1).toNat) 6) (Ez ((p0 + 1).toNat) 4) (Ez ((p0 + 1).toNat) 5) (Ez ((p0 + 1).toNat) 6) (EF ((p0 + 1).toNat) 4) (EF ((p0 + 1).toNat) 5) (EF ((p0 + 1).toNat) 6))) [38, 39, 40, 41, 42, 43, 44] (by decide) rfl
            have hFc := va_free (wc := (sU cI 20 (Eo ((p0 + 1).toNat) 5) (Eo ((p0 + 1).toNat) 6) (Eo ((p0 + 1).toNat) 7) (Eo ((p0 + 1).toNat) 8) (Er ((p0 + 1).toNat) 4) (Er ((p0 + 1).toNat) 5) (Er ((p0 + 1).toNat) 6) (En ((p0 + 1).toNat) 4) (En ((p0 + 1).toNat) 5) (En ((p0 + 1).toNat) 6) (Ez ((p0 + 1).toNat) 4) (Ez ((p0 + 1).toNat) 5) (Ez ((p0 + 1).toNat) 6) (EF ((p0 + 1).toNat) 4) (EF ((p0 + 1).toNat) 5) (EF ((p0 + 1).toNat) 6))) hD hS hA [38, 39, 40, 41, 42, 43, 44] rfl
            refine xk_call (va_runV (As := [.int (iz ((p1 * 100000) + p2)), .int (iz ((p1 * 100000) + p2)), .int (iz 0)]) (rest := []) ⟨hx, hb, hml, hown, hts⟩ (x_sadd l dC dI cI cB cE 20 (Eo ((p0 + 1).toNat) 5) (Eo ((p0 + 1).toNat) 6) (Eo ((p0 + 1).toNat) 7) (Eo ((p0 + 1).toNat) 8) (Er ((p0 + 1).toNat) 4) (Er ((p0 + 1).toNat) 5) (Er ((p0 + 1).toNat) 6) (En ((p0 + 1).toNat) 4) (En ((p0 + 1).toNat) 5) (En ((p0 + 1).toNat) 6) (Ez ((p0 + 1).toNat) 4) (Ez ((p0 + 1).toNat) 5) (Ez ((p0 + 1).toNat) 6) (EF ((p0 + 1).toNat) 4) (EF ((p0 + 1).toNat) 5) (EF ((p0 + 1).toNat) 6) ((p1 * 100000) + p2) ((p1 * 100000) + p2) 0 H.size (by omega) ((hPE ((p0 + 1).toNat) hj21).2.1 4) (by omega) ((hPE ((p0 + 1).toNat) hj21).2.1 5) (by omega) ((hPE ((p0 + 1).toNat) hj21).2.1 6) (by omega) (by omega) (by omega) (by omega) (by omega)) (cwV 3 hts (kx_gV kq_19_xouts_1 kq_15_xspan_72 kq_15_xspan_73 kq_15_xspan_53 kq_15_xspan_74 rfl) rfl rfl rfl (by decide +kernel) ⟨Nat.le_of_ble_eq_true rfl, Nat.le_of_ble_eq_true rfl⟩) ⟨kx_blind, va_recv hK hPc (ci := 3) (q0 := 0) rfl rfl, kx_give (ws := []) (tys := []) hPc hDc hK hG hZ hS hFc⟩ rfl rfl hl.1 rfl (lv_room (Nat.le_of_ble_eq_true rfl)) dX5_page_67 ⟨show (0 + dn_4) + 3 ≤ 200 from (by omega), show (0 + dm_5) + 4800 ≤ 60000 from (by omega)⟩) hS (fun q _ h => hFc q h) hFc (fun u dn_30 dm_31 t H locs ht hvm hq_29 hB hk1 hS => ?_)
            obtain ⟨r1_32, n1_33, z1_34, F1_35, r2_36, n2_37, z2_38, F2_39, r3_40, n3_41, z3_42, F3_43⟩ := u
            obtain ⟨hP1, hK1, hD1⟩ := hB
            rw [ht] at hP1
            obtain ⟨hP, hD⟩ := xj_pool (wr := [(o 15, .inr (5, [.ref (o 16), .ref (Eo 0 0), .int (iz (z 12)), .int (iz (z 13)), .int (iz (z 14)), .ref (o 0), .ref (o 1), .int (iz (z 15)), .ref (o 13), .ref (o 14), .int (iz (z 16)), .ref (o 2), .ref (o 12), .ref (o 3), .ref (o 10), .ref (o 11)])), (o 16, .inl (cE, 80, .inr (.inr (.inr (.inr G))))), (o 0, .inr (1, [.int (iz 80), .ref (r 0), .int (iz (z 0))])), (r 0, .inl (cI, n 0, .inl (iA (F 0)))), (o 1, .inr (1, [.int (iz 80), .ref (r 1), .int (iz (z 1))])), (r 1, .inl (cI, n 1, .inl (iA (F 1)))), (o 2, .inr (1, [.int (iz 80), .ref (r 2), .int (iz (z 2))])), (r 2, .inl (cI, n 2, .inl (iA (F 2)))), (o 3, .inr (1, [.int (iz 80), .ref (r 3), .int (iz (z 3))])), (r 3, .inl (cI, n 3, .inl (iA (F 3)))), (o 13, .inr (3, [.ref (o 4), .ref (o 5), .ref (o 6)])), (o 4, .inr (1, [.int (iz 1600), .ref (r 4), .int (iz (z 4))])), (r 4, .inl (cI, n 4, .inl (iA (F 4)))), (o 5, .inr (1, [.int (iz 1600), .ref (r 5), .int (iz (z 5))])), (r 5, .inl (cI, n 5, .inl (iA (F 5)))), (o 6, .inr (1, [.int (iz 1600), .ref (r 6), .int (iz (z 6))])), (r 6, .inl (cI, n 6, .inl (iA (F 6)))), (o 14, .inr (3, [.ref (o 7), .ref (o 8), .ref (o 9)])), (o 7, .inr (1, [.int (iz 1600), .ref (r 7), .int (iz (z 7))])), (r 7, .inl (cI, n 7, .inl (iA (F 7)))), (o 8, .inr (1, [.int (iz 1600), .ref (r 8), .int (iz (z 8))])), (r 8, .inl (cI, n 8, .inl (iA (F 8)))), (o 9, .inr (1, [.int (iz 1600), .ref (r 9), .int (iz (z 9))])), (r 9, .inl (cI, n 9, .inl (iA (F 9)))), (o 12, .inr (4, [.int (iz (z 17)), .int (iz (z 18)), .int (iz (z 19)), .int (iz (z 20)), .int (iz (z 21))])), (o 10, .inr (2, [.ref (r 10), .int (iz (z 10)), .int (iz (z 22))])), (r 10, .inl (cB, n 10, .inl (iA (F 10)))), (o 11, .inr (2, [.ref (r 11), .int (iz (z 11)), .int (iz (z 23))])), (r 11, .inl (cB, n 11, .inl (iA (F 11)))), (Eo ((p0 + 1).toNat) 0, .inr (0, [.int (iz (Ez ((p0 + 1).toNat) 7)), .int (iz (Ez ((p0 + 1).toNat) 8)), .ref (Eo ((p0 + 1).toNat) 1), .ref (Eo ((p0 + 1).toNat) 2), .ref (Eo ((p0 + 1).toNat) 3), .ref (Eo ((p0 + 1).toNat) 5), .ref (Eo ((p0 + 1).toNat) 4), .int (iz (Ez ((p0 + 1).toNat) 9)), .int (iz (Ez ((p0 + 1).toNat) 10)), .int (iz (Ez ((p0 + 1).toNat) 11)), .int (iz (Ez ((p0 + 1).toNat) 12)), .int (iz (Ez ((p0 + 1).toNat) 13))])), (Eo ((p0 + 1).toNat) 1, .inr (1, [.int (iz 20), .ref (Er ((p0 + 1).toNat) 0), .int (iz (Ez ((p0 + 1).toNat) 0))])), (Er ((p0 + 1).toNat) 0, .inl (cI, En ((p0 + 1).toNat) 0, .inl (iA (EF ((p0 + 1).toNat) 0)))), (Eo ((p0 + 1).toNat) 2, .inr (1, [.int (iz 20), .ref (Er ((p0 + 1).toNat) 1), .int (iz (Ez ((p0 + 1).toNat) 1))])), (Er ((p0 + 1).toNat) 1, .inl (cI, En ((p0 + 1).toNat) 1, .inl (iA (EF ((p0 + 1).toNat) 1)))), (Eo ((p0 + 1).toNat) 3, .inr (1, [.int (iz 40), .ref (Er ((p0 + 1).toNat) 2), .int (iz (Ez ((p0 + 1).toNat) 2))])), (Er ((p0 + 1).toNat) 2, .inl (cI, En ((p0 + 1).toNat) 2, .inl (iA (EF ((p0 + 1).toNat) 2)))), (Eo ((p0 + 1).toNat) 4, .inr (1, [.int (iz 5), .ref (Er ((p0 + 1).toNat) 3), .int (iz (Ez ((p0 + 1).toNat) 3))])), (Er ((p0 + 1).toNat) 3, .inl (cI, En ((p0 + 1).toNat) 3, .inl (iA (EF ((p0 + 1).toNat) 3))))]) (w1 := (sU cI 20 (Eo ((p0 + 1).toNat) 5) (Eo ((p0 + 1).toNat) 6) (Eo ((p0 + 1).toNat) 7) (Eo ((p0 + 1).toNat) 8) r1_32 r2_36 r3_40 n1_33 n2_37 n3_41 z1_34 z2_38 z3_42 F1_35 F2_39 F3_43)) (ws' := ((xU cI cB cE o r n z F G (Eo 0 0)) ++ (eU cI (Eo ((p0 + 1).toNat)) (va_up (va_up (va_up (Er ((p0 + 1).toNat)) 4 r1_32) 5 r2_36) 6 r3_40) (va_up (va_up (va_up (En ((p0 + 1).toNat)) 4 n1_33) 5 n2_37) 6 n3_41) (va_up (va_up (va_up (Ez ((p0 + 1).toNat)) 4 z1_34) 5 z2_38) 6 z3_42) (va_up (va_up (va_up (EF ((p0 + 1).toNat)) 4 F1_35) 5 F2_39) 6 F3_43)))) hP hD [38, 39, 40, 41, 42, 43, 44] [0, 1, 2, 3, 4, 5, 6, 7, 8, 9, 10, 11, 12, 13, 14, 15, 16, 17, 18, 19, 20, 21, 22, 23, 24, 25, 26, 27, 28, 29, 30, 31, 32, 33, 34, 35, 36, 37] [0, 1, 2, 3, 4, 5, 6, 7, 8, 9, 10, 11, 12, 13, 14, 15, 16, 17, 18, 19, 20, 21, 22, 23, 24, 25, 26, 27, 28, 29, 30, 31, 32, 33, 34, 35, 36, 37, 38, 39, 40, 41, 42, 43, 44] rfl rfl (by decide) (by decide) hk1 hFc hP1 hD1 rfl (by decide)
            refine W.eq (g2 := F0 m 70 ls []) rfl ?_
            try dsimp only at hq_29
            obtain ⟨ha44, hb144, hb44, hb244, hc44, hb344, hd44, hA44, hAA44⟩ := hq_29
            have hax44 := hA44.1
            have hpg144 := psg_le 20 (En ((p0 + 1).toNat) 4)
            have hpj144 := psj_le (L := 20) (by omega) (En ((p0 + 1).toNat) 4)
            have hpg244 := psg_le 20 (En ((p0 + 1).toNat) 5)
            have hpj244 := psj_le (L := 20) (by omega) (En ((p0 + 1).toNat) 5)
            have hpg344 := psg_le 20 (En ((p0 + 1).toNat) 6)
            have hpj344 := psj_le (L := 20) (by omega) (En ((p0 + 1).toNat) 6)
            refine lv_aload_n hx hb dX5_page_70 rfl (lv_at hl 2 rfl) ?_
            refine lv_iconst (v := iz (-1)) hx hb dX5_page_71 (by decide) ?_
            refine va_put (D := (dC, dI)) (ci := 5) (v := .int (iz (-1))) (ty := .int) (C := RX5) (T := TX5) (N := 16) hx hb hts kt_X5 tyX5 tyX5_ok nmX5 hown hK hP hD hS 0 rfl rfl 10 (by decide) (kx_word hG kq_18_xrows_26 rfl) (fun _ h9 => h9) rfl (by decide +kernel) rfl rfl (Nat.le_of_ble_eq_true rfl) dX5_page_72 (fun H locs hP hD hS => ?_)
            have hP : va_P (dC, dI) kxCl (((xU cI cB cE o r n (va_up z 16 (-1)) F G (Eo 0 0)) ++ (eU cI (Eo ((p0 + 1).toNat)) (va_up (va_up (va_up (Er ((p0 + 1).toNat)) 4 r1_32) 5 r2_36) 6 r3_40) (va_up (va_up (va_up (En ((p0 + 1).toNat)) 4 n1_33) 5 n2_37) 6 n3_41) (va_up (va_up (va_up (Ez ((p0 + 1).toNat)) 4 z1_34) 5 z2_38) 6 z3_42) (va_up (va_up (va_up (EF ((p0 + 1).toNat)) 4 F1_35) 5 F2_39) 6 F3_43))) ++ (eR cI N ((p0 + 1).toNat) Eo Er En Ez EF)) H := hP
            have hD : va_D A (((xU cI cB cE o r n (va_up z 16 (-1)) F G (Eo 0 0)) ++ (eU cI (Eo ((p0 + 1).toNat)) (va_up (va_up (va_up (Er ((p0 + 1).toNat)) 4 r1_32) 5 r2_36) 6 r3_40) (va_up (va_up (va_up (En ((p0 + 1).toNat)) 4 n1_33) 5 n2_37) 6 n3_41) (va_up (va_up (va_up (Ez ((p0 + 1).toNat)) 4 z1_34) 5 z2_38) 6 z3_42) (va_up (va_up (va_up (EF ((p0 + 1).toNat)) 4 F1_35) 5 F2_39) 6 F3_43))) ++ (eR cI N ((p0 + 1).toNat) Eo Er En Ez EF)) := hD
            refine lv_aload hx hb dX5_page_75 (lv_at hl 1 rfl) ?_
            have hPc := hP.sub (ws' := (sU cI 20 (Eo ((p0 + 1).toNat) 5) (Eo ((p0 + 1).toNat) 6) (Eo ((p0 + 1).toNat) 7) (Eo ((p0 + 1).toNat) 8) r1_32 r2_36 r3_40 n1_33 n2_37 n3_41 z1_34 z2_38 z3_42 F1_35 F2_39 F3_43)) [38, 39, 40, 41, 42, 43, 44] rfl
            refine xk_pure (va_runV (As := []) (rest := []) ⟨hx, hb, hml, hown, hts⟩ (x_ssize l dC dI cI cB cE 20 (Eo ((p0 + 1).toNat) 5) (Eo ((p0 + 1).toNat) 6) (Eo ((p0 + 1).toNat) 7) (Eo ((p0 + 1).toNat) 8) r1_32 r2_36 r3_40 n1_33 n2_37 n3_41 z1_34 z2_38 z3_42 F1_35 F2_39 F3_43  H.size ) (cwV 0 hts (kx_gV kq_19_xouts_3 kq_15_xspan_51 kq_15_xspan_52 kq_15_xspan_53 kq_15_xspan_54 rfl) rfl rfl rfl (by decide +kernel) ⟨Nat.le_of_ble_eq_true rfl, Nat.le_of_ble_eq_true rfl⟩) ⟨pPre_blind, va_recv hK hPc (ci := 3) (q0 := 0) rfl rfl, pPre_give hPc hK hG⟩ rfl rfl hl.1 rfl (lv_room (Nat.le_of_ble_eq_true rfl)) dX5_page_77 ⟨show ((0 + dn_4) + dn_30) + 0 ≤ 200 from (by omega), show ((0 + dm_5) + dm_31) + 0 ≤ 60000 from (by omega)⟩) hS (fun z_46 locs hq_45 hS => ?_)
            refine W.eq (g2 := F0 m 80 ls [.int (iz z_46)]) rfl ?_
            try dsimp only at hq_45
            have hq_45 := hq_45.symm
            subst hq_45
            have hP : va_P (dC, dI) kxCl (((xU cI cB cE o r n (va_up z 16 (-1)) F G (Eo 0 0)) ++ (eU cI (Eo ((p0 + 1).toNat)) (va_up (va_up (va_up (Er ((p0 + 1).toNat)) 4 r1_32) 5 r2_36) 6 r3_40) (va_up (va_up (va_up (En ((p0 + 1).toNat)) 4 n1_33) 5 n2_37) 6 n3_41) (va_up (va_up (va_up (Ez ((p0 + 1).toNat)) 4 z1_34) 5 z2_38) 6 z3_42) (va_up (va_up (va_up (EF ((p0 + 1).toNat)) 4 F1_35) 5 F2_39) 6 F3_43))) ++ (eR cI N ((p0 + 1).toNat) Eo Er En Ez EF)) H := hP
            have hD : va_D A (((xU cI cB cE o r n (va_up z 16 (-1)) F G (Eo 0 0)) ++ (eU cI (Eo ((p0 + 1).toNat)) (va_up (va_up (va_up (Er ((p0 + 1).toNat)) 4 r1_32) 5 r2_36) 6 r3_40) (va_up (va_up (va_up (En ((p0 + 1).toNat)) 4 n1_33) 5 n2_37) 6 n3_41) (va_up (va_up (va_up (Ez ((p0 + 1).toNat)) 4 z1_34) 5 z2_38) 6 z3_42) (va_up (va_up (va_up (EF ((p0 + 1).toNat)) 4 F1_35) 5 F2_39) 6 F3_43))) ++ (eR cI N ((p0 + 1).toNat) Eo Er En Ez EF)) := hD
            have hP := eP_unf hj21 hP
            have hD := eD_unf hj21 hD
            have hPE47 := hPE.up ((p0 + 1).toNat) ((((hPE ((p0 + 1).toNat) hj21).i 4 (by decide) (show 0 ≤ z1_34 ∧ z1_34 ≤ ((n1_33 : Nat) : Int) ∧ ((n1_33 : Nat) : Int) ≤ 20 by omega) hb144 (by omega)).i 5 (by decide) (show 0 ≤ z2_38 ∧ z2_38 ≤ ((n2_37 : Nat) : Int) ∧ ((n2_37 : Nat) : Int) ≤ 20 by omega) hb244 (by omega)).i 6 (by decide) (show 0 ≤ z3_42 ∧ z3_42 ≤ ((n3_41 : Nat) : Int) ∧ ((n3_41 : Nat) : Int) ≤ 20 by omega) hb344 (by omega))
            have hef47 := hef.up ((p0 + 1).toNat) (z := (va_up (va_up (va_up (Ez ((p0 + 1).toNat)) 4 z1_34) 5 z2_38) 6 z3_42)) (n := (va_up (va_up (va_up (En ((p0 + 1).toNat)) 4 n1_33) 5 n2_37) 6 n3_41)) (F := (va_up (va_up (va_up (EF ((p0 + 1).toNat)) 4 F1_35) 5 F2_39) 6 F3_43)) (fun k hk => (vfr hk _ (by decide) (vfr hk _ (by decide) (vfr hk _ (by decide) rfl)))) (fun k hk => ⟨(vfr hk _ (by decide) (vfr hk _ (by decide) (vfr hk _ (by decide) rfl))), (vfr hk _ (by decide) (vfr hk _ (by decide) (vfr hk _ (by decide) rfl)))⟩)
            generalize eEr47 : va_up Er ((p0 + 1).toNat) (va_up (va_up (va_up (Er ((p0 + 1).toNat)) 4 r1_32) 5 r2_36) 6 r3_40) = Er47 at hP hD
            generalize eEn47 : va_up En ((p0 + 1).toNat) (va_up (va_up (va_up (En ((p0 + 1).toNat)) 4 n1_33) 5 n2_37) 6 n3_41) = En47 at hP hD hPE47 hef47
            generalize eEz47 : va_up Ez ((p0 + 1).toNat) (va_up (va_up (va_up (Ez ((p0 + 1).toNat)) 4 z1_34) 5 z2_38) 6 z3_42) = Ez47 at hP hD hPE47 hef47
            generalize eEF47 : va_up EF ((p0 + 1).toNat) (va_up (va_up (va_up (EF ((p0 + 1).toNat)) 4 F1_35) 5 F2_39) 6 F3_43) = EF47 at hP hD hPE47 hef47
            have hcl47_0 : Ez47 ((p0 + 1).toNat) 0 = Ez ((p0 + 1).toNat) 0 := by rw [← eEz47]; simp (decide := true) only [va_ev, ↓reduceIte]
            have hcl47_4 : Ez47 ((p0 + 1).toNat) 4 = z1_34 := by rw [← eEz47]; simp (decide := true) only [va_ev, ↓reduceIte]
            have hcl47_5 : Ez47 ((p0 + 1).toNat) 5 = z2_38 := by rw [← eEz47]; simp (decide := true) only [va_ev, ↓reduceIte]
            have hcl47_6 : Ez47 ((p0 + 1).toNat) 6 = z3_42 := by rw [← eEz47]; simp (decide := true) only [va_ev, ↓reduceIte]
            have hcl47_7 : Ez47 ((p0 + 1).toNat) 7 = Ez ((p0 + 1).toNat) 7 := by rw [← eEz47]; simp (decide := true) only [va_ev, ↓reduceIte]
            have hcl47_9 : Ez47 ((p0 + 1).toNat) 9 = Ez ((p0 + 1).toNat) 9 := by rw [← eEz47]; simp (decide := true) only [va_ev, ↓reduceIte]
            have hcF47_4 : EF47 ((p0 + 1).toNat) 4 = F1_35 := by rw [← eEF47]; simp (decide := true) only [va_ev, ↓reduceIte]
            have hcF47_5 : EF47 ((p0 + 1).toNat) 5 = F2_39 := by rw [← eEF47]; simp (decide := true) only [va_ev, ↓reduceIte]
            have hcF47_6 : EF47 ((p0 + 1).toNat) 6 = F3_43 := by rw [← eEF47]; simp (decide := true) only [va_ev, ↓reduceIte]
            have hxz_48 : -2147483648 ≤ z 16 ∧ z 16 < 2147483648 := hok.2.2.2.1 16
            have hok49 : xOk n (va_up z 16 (-1)) F := (hok.s 16 (by decide) (show -2147483648 ≤ (-1) ∧ (-1) < 2147483648 by omega) (by omega))
            have hfr49 : xFr [16] [] z F (va_up z 16 (-1)) F := (hfr.uz 16 (by decide) _)
            refine vx_ret ?_
            exact xk_iret (ov := (fun u : (Int) × (Nat → Nat) × (Nat → Nat) × (Nat → Int) × (Nat → Int → Int) × (Nat → Nat → Nat) × (Nat → Nat → Nat) × (Nat → Nat → Int) × (Nat → Nat → Int → Int) => match u with | (q, r', n', z', F', Er', En', Ez', EF') => some (.int (iz q)))) (post := (fun (u : (Int) × (Nat → Nat) × (Nat → Nat) × (Nat → Int) × (Nat → Int → Int) × (Nat → Nat → Nat) × (Nat → Nat → Nat) × (Nat → Nat → Int) × (Nat → Nat → Int → Int)) (dn dm : Nat) => match u with | (q, r', n', z', F', Er', En', Ez', EF') => xR [16] [] [4, 5, 6] [4, 5, 6] N z F En Ez EF n' z' F' En' Ez' EF' ∧ (dn + xg n' ≤ xg n + 30 ∧ dm + xp n' ≤ xp n + 200) ∧ (((0 ≤ p0 ∧ p0 < z 12) ∧ (1 ≤ p2 ∧ ((p1 = 0 ∧ p2 ≤ 3999) ∨ (p1 = 1 ∧ p2 ≤ 99999) ∨ (p1 = 2 ∧ p2 ≤ 702))) ∧ Ez ((p0 + 1).toNat) 4 < 20 ∧ q = Ez ((p0 + 1).toNat) 4 + 1 ∧ Ez' ((p0 + 1).toNat) 4 = Ez ((p0 + 1).toNat) 4 + 1 ∧ (∀ i, 0 ≤ i → i < Ez ((p0 + 1).toNat) 4 → EF' ((p0 + 1).toNat) 4 i = EF ((p0 + 1).toNat) 4 i) ∧ (∀ j, j ≠ ((p0 + 1).toNat) → Ez' j = Ez j ∧ EF' j = EF j)) ∧ (iAdd 20 (Ez ((p0 + 1).toNat) 4) (EF ((p0 + 1).toNat) 4) (Ez' ((p0 + 1).toNat) 4) (EF' ((p0 + 1).toNat) 4) (p1 * 100000 + p2) ∧ iAdd 20 (Ez ((p0 + 1).toNat) 5) (EF ((p0 + 1).toNat) 5) (Ez' ((p0 + 1).toNat) 5) (EF' ((p0 + 1).toNat) 5) (p1 * 100000 + p2) ∧ iAdd 20 (Ez ((p0 + 1).toNat) 6) (EF ((p0 + 1).toNat) 6) (Ez' ((p0 + 1).toNat) 6) (EF' ((p0 + 1).toNat) 6) 0) ∧ z' 16 = -1))) (ws := (fun u : (Int) × (Nat → Nat) × (Nat → Nat) × (Nat → Int) × (Nat → Int → Int) × (Nat → Nat → Nat) × (Nat → Nat → Nat) × (Nat → Nat → Int) × (Nat → Nat → Int → Int) => match u with | (q, r', n', z', F', Er', En', Ez', EF') => (xU cI cB cE o r' n' z' F' G (Eo 0 0) ++ eP cI N Eo Er' En' Ez' EF'))) (tys := xT cI cB cE) (z := z1_34) (z1_34, r, n, (va_up z 16 (-1)), F, Er47, En47, Ez47, EF47) hx hb hr rfl hlocks rfl hP hD hK hS dX5_page_80 (fun dn dm hdn hdm => ⟨⟨hok49, hfr49, hPE47, hef47⟩, ⟨by omega, by omega⟩, ⟨⟨by omega, by omega, by omega, by omega, by omega, fun i h1 h2 => by rw [← eEF47]; simp (decide := true) only [va_ev, ↓reduceIte]; exact hA44.2 i h1 h2, fun j hj => ⟨by rw [← eEz47]; exact va_up_ne _ _ hj, by rw [← eEF47]; exact va_up_ne _ _ hj⟩⟩, ⟨(by rw [hcl47_4, hcF47_4]; exact hA44), (by rw [hcl47_5, hcF47_5]; exact hAA44.1), (by rw [hcl47_6, hcF47_6]; exact hAA44.2)⟩, rfl⟩⟩) (by omega) (by omega)
          · omega
      · skip
        exact ky_thr_IAE hx hb hlf hown hG hZ hS (hl.1.trans hml.symm) dX5_page_18 dX5_page_21 dX5_page_22 dX5_page_25 htab (Nat.le_of_ble_eq_true rfl) (Nat.le_of_ble_eq_true rfl) (show (0 + dn_4) + 1 ≤ 200 from (by omega)) (show (0 + dm_5) + 6 ≤ 60000 from (by omega)) hlocks (Or.inr (Or.inl ⟨rfl, by first | trivial | omega⟩)) (fun t hvm h1 h2 => ⟨(r, n, z, F, Er, En, Ez, EF), ⟨hok, xFr.rf, hPE, eFr.rf⟩, hP.kept (fun k q hk => h2 q.1 (hP k q hk).lt), va_K.moved hvm hK, hD⟩) hS.2.2 (by omega) (by omega) (by omega) (by omega)
set_option maxHeartbeats 4000000 in
set_option maxRecDepth 100000 in
theorem y_range5 (l : Launch) (hlf : l.stackTraces = false) (dC : Nat → ClassId) (dI : Nat → Nat → Nat) (cI cB cE : ClassId) (o r n : Nat → Nat) (z : Nat → Int) (F : Nat → Int → Int) (G : Nat → Option Nat) (N : Nat) (Eo Er En : Nat → Nat → Nat) (Ez : Nat → Nat → Int) (EF : Nat → Nat → Int → Int) (p0 : Int) (p1 : Int) (p2 : Int) (sz : Nat) (hok : xOk n z F) (hxG : xG N (z 12) G Eo) (hPE : eA N En Ez EF) (hp01 : -2147483648 ≤ p0) (hp02 : p0 < 2147483648) (hp11 : -2147483648 ≤ p1) (hp12 : p1 < 2147483648) (hp2 : p2 = 0 ∨ p2 = 1) (h9z : (0 ≤ p0 ∧ p0 < z 12) → 0 ≤ Ez ((p0 + 1).toNat) 9 → Ez ((p0 + 1).toNat) 9 < Ez ((p0 + 1).toNat) 5 ∧ Ez ((p0 + 1).toNat) 9 < Ez ((p0 + 1).toNat) 6) : vx_Met l yX5_range [.code yX5_range cX5_range 7 (some .int)] ({ frames := 8, cells := 200, slots := 60000, locals := 147 }) (va_Pc [.ref (o 15), .int (iz p0), .int (iz p1), .int (iz p2)] (kx_Pre dC dI (xU cI cB cE o r n z F G (Eo 0 0) ++ eP cI N Eo Er En Ez EF) (xT cI cB cE) sz)) (xQ (fun u : (Int) × (Nat → Nat) × (Nat → Nat) × (Nat → Int) × (Nat → Int → Int) × (Nat → Nat → Nat) × (Nat → Nat → Nat) × (Nat → Nat → Int) × (Nat → Nat → Int → Int) => match u with | (q, r', n', z', F', Er', En', Ez', EF') => some (.int (iz q))) (fun (u : (Int) × (Nat → Nat) × (Nat → Nat) × (Nat → Int) × (Nat → Int → Int) × (Nat → Nat → Nat) × (Nat → Nat → Nat) × (Nat → Nat → Int) × (Nat → Nat → Int → Int)) (dn dm : Nat) => match u with | (q, r', n', z', F', Er', En', Ez', EF') => xR [16] [] [4, 5, 6, 9] [4, 5, 6] N z F En Ez EF n' z' F' En' Ez' EF' ∧ (dn + xg n' ≤ xg n + 30 ∧ dm + xp n' ≤ xp n + 200) ∧ (((0 ≤ p0 ∧ p0 < z 12) ∧ (1 ≤ p1 ∧ p1 ≤ 99999) ∧ ((p2 = 0 ∧ 0 ≤ Ez ((p0 + 1).toNat) 9 ∧ q = 0 ∧ Ez' ((p0 + 1).toNat) 9 = Ez ((p0 + 1).toNat) 9 ∧ Ez' ((p0 + 1).toNat) 4 = Ez ((p0 + 1).toNat) 4 ∧ EF' ((p0 + 1).toNat) 4 = EF ((p0 + 1).toNat) 4) ∨ (p2 = 0 ∧ Ez ((p0 + 1).toNat) 9 < 0 ∧ Ez ((p0 + 1).toNat) 4 < 20 ∧ q = 1 ∧ Ez' ((p0 + 1).toNat) 9 = Ez ((p0 + 1).toNat) 4 ∧ Ez' ((p0 + 1).toNat) 4 = Ez ((p0 + 1).toNat) 4 + 1 ∧ EF' ((p0 + 1).toNat) 4 (Ez ((p0 + 1).toNat) 4) = 100000 + p1) ∨ (¬ p2 = 0 ∧ q = 0 ∧ Ez' ((p0 + 1).toNat) 9 = Ez ((p0 + 1).toNat) 9 ∧ Ez' ((p0 + 1).toNat) 4 = Ez ((p0 + 1).toNat) 4 ∧ EF' ((p0 + 1).toNat) 4 = EF ((p0 + 1).toNat) 4 ∧ (0 ≤ Ez ((p0 + 1).toNat) 9 → Ez ((p0 + 1).toNat) 9 < Ez ((p0 + 1).toNat) 4 → 100000 + p1 < EF ((p0 + 1).toNat) 4 (Ez ((p0 + 1).toNat) 9))) ∨ (¬ p2 = 0 ∧ q = 1 ∧ 0 ≤ Ez ((p0 + 1).toNat) 9 ∧ (Ez ((p0 + 1).toNat) 9 < Ez ((p0 + 1).toNat) 4 → EF ((p0 + 1).toNat) 4 (Ez ((p0 + 1).toNat) 9) ≤ 100000 + p1) ∧ Ez' ((p0 + 1).toNat) 9 = -1 ∧ Ez' ((p0 + 1).toNat) 4 = Ez ((p0 + 1).toNat) 4 ∧ EF' ((p0 + 1).toNat) 4 = EF ((p0 + 1).toNat) 4)) ∧ (∀ j, j ≠ ((p0 + 1).toNat) → Ez' j = Ez j ∧ EF' j = EF j)) ∧ ((q = 0 ∧ z' 16 = z 16 ∧ Ez' ((p0 + 1).toNat) 4 = Ez ((p0 + 1).toNat) 4 ∧ EF' ((p0 + 1).toNat) 4 = EF ((p0 + 1).toNat) 4 ∧ Ez' ((p0 + 1).toNat) 5 = Ez ((p0 + 1).toNat) 5 ∧ EF' ((p0 + 1).toNat) 5 = EF ((p0 + 1).toNat) 5 ∧ Ez' ((p0 + 1).toNat) 6 = Ez ((p0 + 1).toNat) 6 ∧ EF' ((p0 + 1).toNat) 6 = EF ((p0 + 1).toNat) 6) ∨ (q = 1 ∧ z' 16 = -1 ∧ p2 = 0 ∧ (iAdd 20 (Ez ((p0 + 1).toNat) 4) (EF ((p0 + 1).toNat) 4) (Ez' ((p0 + 1).toNat) 4) (EF' ((p0 + 1).toNat) 4) (100000 + p1) ∧ iAdd 20 (Ez ((p0 + 1).toNat) 5) (EF ((p0 + 1).toNat) 5) (Ez' ((p0 + 1).toNat) 5) (EF' ((p0 + 1).toNat) 5) (100000 + p1) ∧ iAdd 20 (Ez ((p0 + 1).toNat) 6) (EF ((p0 + 1).toNat) 6) (Ez' ((p0 + 1).toNat) 6) (EF' ((p0 + 1).toNat) 6) 0)) ∨ (q = 1 ∧ z' 16 = -1 ∧ ¬ p2 = 0 ∧ (Ez' ((p0 + 1).toNat) 4 = Ez ((p0 + 1).toNat) 4 ∧ Ez' ((p0 + 1).toNat) 5 = Ez ((p0 + 1).toNat) 5 ∧ Ez' ((p0 + 1).toNat) 6 = Ez ((p0 + 1).toNat) 6) ∧ EF' ((p0 + 1).toNat) 4 = EF ((p0 + 1).toNat) 4 ∧ EF' ((p0 + 1).toNat) 5 = upI (EF ((p0 + 1).toNat) 5) (Ez ((p0 + 1).toNat) 9) (100000 + p1) ∧ EF' ((p0 + 1).toNat) 6 = upI (EF ((p0 + 1).toNat) 6) (Ez ((p0 + 1).toNat) 9) 1)))) (fun u t => kx_At dC dI (va_A (xU cI cB cE o r n z F G (Eo 0 0) ++ eP cI N Eo Er En Ez EF) sz) ((fun u : (Int) × (Nat → Nat) × (Nat → Nat) × (Nat → Int) × (Nat → Int → Int) × (Nat → Nat → Nat) × (Nat → Nat → Nat) × (Nat → Nat → Int) × (Nat → Nat → Int → Int) => match u with | (q, r', n', z', F', Er', En', Ez', EF') => (xU cI cB cE o r' n' z' F' G (Eo 0 0) ++ eP cI N Eo Er' En' Ez' EF')) u) (xT cI cB cE) t) (va_A (xU cI cB cE o r n z F G (Eo 0 0) ++ eP cI N Eo Er En Ez EF) sz)) (yX (fun E => (E = "java/util/NoSuchElementException" ∧ (¬ (0 ≤ p0 ∧ p0 < z 12))) ∨ (E = "java/lang/IllegalArgumentException" ∧ ((0 ≤ p0 ∧ p0 < z 12) ∧ ¬ (1 ≤ p1 ∧ p1 ≤ 99999))) ∨ (E = "java/lang/UnsupportedOperationException" ∧ ((0 ≤ p0 ∧ p0 < z 12) ∧ (1 ≤ p1 ∧ p1 ≤ 99999) ∧ p2 = 0 ∧ Ez ((p0 + 1).toNat) 9 < 0 ∧ 20 ≤ Ez ((p0 + 1).toNat) 4))) 2 12 (fun t => ∃ u : (Nat → Nat) × (Nat → Nat) × (Nat → Int) × (Nat → Int → Int) × (Nat → Nat → Nat) × (Nat → Nat → Nat) × (Nat → Nat → Int) × (Nat → Nat → Int → Int), match u with | (r', n', z', F', Er', En', Ez', EF') => xR [] [] [] [] N z F En Ez EF n' z' F' En' Ez' EF' ∧ kx_At dC dI (va_A (xU cI cB cE o r n z F G (Eo 0 0) ++ eP cI N Eo Er En Ez EF) sz) (xU cI cB cE o r' n' z' F' G (Eo 0 0) ++ eP cI N Eo Er' En' Ez' EF') (xT cI cB cE) t) (va_A (xU cI cB cE o r n z F G (Eo 0 0) ++ eP cI N Eo Er En Ez EF) sz)) 200 60000 (va_A (xU cI cB cE o r n z F G (Eo 0 0) ++ eP cI N Eo Er En Ez EF) sz) := by
  refine vx_ofW (cc := cX5_range) (maxL := 7) (ret := (some .int)) (by decide) rfl ?_
  intro p e s m args below meth c s₁ B hml htab hv
  obtain ⟨rfl, hsz, hP, hK, hD0, hG, hZ⟩ := hv
  have hx := B.exec
  have hb := B.bytes
  have hr := B.returns
  have hts := kx_hts (a := ([.ref (o 15), .int (iz p0), .int (iz p1), .int (iz p2)] : List Value).toArray) hG
  have hown : s.vm.findClass RX5 = some m.cls := findClass_of_methodNamed B.named
  have hlocks := B.notSynchronized
  subst hsz
  have hD := hD0.self (sz := s.heap.size)
  generalize hAe : va_A (xU cI cB cE o r n z F G (Eo 0 0) ++ eP cI N Eo Er En Ez EF) s.heap.size = A at hD hZ ⊢
  have hA : ∀ q : Nat, s.heap.size ≤ q → A q := fun q h => by rw [← hAe]; exact Or.inr h
  have hS : va_S A s.heap s.heap [] := va_S.rf
  have hl := lv_entry ([.ref (o 15), .int (iz p0), .int (iz p1), .int (iz p2)]) (n := 7) (Nat.le_of_ble_eq_true rfl)
  rw [lg_entry_eq]
  generalize (lg_sl ([.ref (o 15), .int (iz p0), .int (iz p1), .int (iz p2)]) ++ List.replicate (7 - (lg_sl ([.ref (o 15), .int (iz p0), .int (iz p1), .int (iz p2)])).length) Slot.unset).toArray = ls at hl ⊢
  obtain ⟨hN1, hN2, hN3, hN4⟩ := hxG
  have hef : eFr [4, 5, 6, 9] [4, 5, 6] En Ez EF En Ez EF := eFr.rf
  have hfr : xFr [16] [] z F z F := xFr.rf
  have hxgl := xg_le n
  have hxpl := xp_le n
  have hl : lv_has ls 7 [(0, .ref (o 15)), (1, .int (iz p0)), (2, .int (iz p1)), (3, .int (iz p2))] := hl
  refine lv_aload_n hx hb dX5_range_0 rfl (lv_at hl 0 rfl) ?_
  refine lv_iload_n hx hb dX5_range_1 rfl (lv_at hl 1 rfl) ?_
  have hxz_1 : -2147483648 ≤ z 12 ∧ z 12 < 2147483648 := hok.2.2.2.1 12
  have hxG9 : xG N (z 12) G Eo := ⟨by omega, by omega, by omega, fun e9 h9 => hN4 e9 (by omega)⟩
  have hP : va_P (dC, dI) kxCl (xU cI cB cE o r n z F G (Eo 0 0) ++ eP cI N Eo Er En Ez EF) s.heap := hP
  have hD : va_D A (xU cI cB cE o r n z F G (Eo 0 0) ++ eP cI N Eo Er En Ez EF) := hD
  have hFc := xw_free hD hS hA
  refine yk_call (vx_runV (As := [.int (iz p0)]) (rest := []) ⟨hx, hb, hml, hown, hts⟩ (y_needEntry l hlf dC dI cI cB cE o r n z F G N Eo Er En Ez EF p0 s.heap.size hok hxG9 hPE (by omega) (by omega)) (cwV 1 hts (kx_gV kq_21_xcalls_10 kq_21_xcalls_11 kq_21_xcalls_12 kq_18_xrows_4 kq_21_xcalls_13 rfl) rfl rfl rfl (by decide +kernel) ⟨Nat.le_of_ble_eq_true rfl, Nat.le_of_ble_eq_true rfl⟩) ⟨kx_blind, va_recv hK hP (ci := 5) (q0 := 0) rfl rfl, kx_give (ws := []) (tys := []) hP hD hK hG hZ hS hFc⟩ rfl rfl hl.1 rfl (lv_room (Nat.le_of_ble_eq_true rfl)) dX5_range_2 ⟨show 0 + 1 ≤ 200 from (by omega), show 0 + 6 ≤ 60000 from (by omega)⟩) hS (fun q _ h => hFc q h) hFc (fun E ce q9 t H1 locs ht hvm hEx hBx hk1 hS hcell hcv hcl => ?_) (fun u dn_4 dm_5 t H locs ht hvm hq_2 hB hk1 hS => ?_)
  · skip
    exact ky_out (fun x hx => (htab x hx).elim) hlocks hcell hcv hcl (by obtain ⟨rfl, h9⟩ := hEx; exact Or.inl ⟨rfl, by first | trivial | omega⟩) (fun t9 ht9 hvm9 => by obtain ⟨⟨r8, n8, z8, F8, Er8, En8, Ez8, EF8⟩, hR8, hP8, hK8, hD8⟩ := hBx; exact ⟨(r8, n8, z8, F8, Er8, En8, Ez8, EF8), hR8, (by rw [ht9, ← ht]; exact hP8), va_K.moved hvm9 hK, hD8.weaken (fun _ q _ h => hFc _ h)⟩) hS hS.2.2 (by omega) (by omega) (by omega) (by omega)
  · skip
    obtain ⟨r_6, n_7, z_8, F_9, Er_10, En_11, Ez_12, EF_13⟩ := u
    obtain ⟨hP, hK1, hD1⟩ := hB
    rw [ht] at hP
    have hD := hD1.weaken (fun _ q _ h => hFc _ h)
    obtain ⟨hR14, hC14, hq_2⟩ := hq_2
    obtain ⟨rfl, rfl, rfl, rfl, rfl, rfl, rfl, hq_2⟩ := hq_2
    obtain ⟨rfl, hq_2⟩ := hq_2
    refine W.eq (g2 := F0 m 5 ls []) rfl ?_
    refine lv_iload_n hx hb dX5_range_5 rfl (lv_at hl 2 rfl) ?_
    refine lv_iconst (v := iz 1) hx hb dX5_range_6 (by decide) ?_
    refine ki_icmp_lt (tgt := 18) hx hb dX5_range_7 (by decide) (by omega) (by omega) (by omega) (by omega) (fun c_15 => ?_) (fun c_15 => ?_)
    · skip
      exact ky_thr_IAE hx hb hlf hown hG hZ hS (hl.1.trans hml.symm) dX5_range_18 dX5_range_21 dX5_range_22 dX5_range_25 htab (Nat.le_of_ble_eq_true rfl) (Nat.le_of_ble_eq_true rfl) (show (0 + dn_4) + 1 ≤ 200 from (by omega)) (show (0 + dm_5) + 6 ≤ 60000 from (by omega)) hlocks (Or.inr (Or.inl ⟨rfl, by first | trivial | omega⟩)) (fun t hvm h1 h2 => ⟨(r, n, z, F, Er, En, Ez, EF), ⟨hok, xFr.rf, hPE, eFr.rf⟩, hP.kept (fun k q hk => h2 q.1 (hP k q hk).lt), va_K.moved hvm hK, hD⟩) hS.2.2 (by omega) (by omega) (by omega) (by omega)
    · skip
      refine lv_iload_n hx hb dX5_range_10 rfl (lv_at hl 2 rfl) ?_
      refine lv_iconst (v := iz 1) hx hb dX5_range_11 (by decide) ?_
      have hPc : va_P (dC, dI) kxCl [] H := fun k q h => by simp at h
      refine xk_pure (va_runS (As := [.int (iz 1)]) (rest := [.int (iz p1)]) ⟨hx, hb, hml, hown, hts⟩ (x_lastOf l dC dI cI cB cE 1 H.size (by omega) (by omega)) (va_cwS 1 hts (kx_gS kq_21_xcalls_18 kq_21_xcalls_19 kq_18_xrows_4 kq_21_xcalls_20 rfl) rfl rfl rfl (by decide +kernel) ⟨Nat.le_of_ble_eq_true rfl, Nat.le_of_ble_eq_true rfl⟩) ⟨pPre_blind, pPre_give hPc hK hG⟩ rfl rfl hl.1 rfl (lv_room (Nat.le_of_ble_eq_true rfl)) dX5_range_12 ⟨show (0 + dn_4) + 0 ≤ 200 from (by omega), show (0 + dm_5) + 0 ≤ 60000 from (by omega)⟩) hS (fun z_17 locs hq_16 hS => ?_)
      refine W.eq (g2 := F0 m 15 ls [.int (iz z_17), .int (iz p1)]) rfl ?_
      try dsimp only at hq_16
      refine ki_icmp_le (tgt := 26) hx hb dX5_range_15 (by decide) (by omega) (by omega) (by omega) (by omega) (fun c_18 => ?_) (fun c_18 => ?_)
      · skip
        refine lv_aload_n hx hb dX5_range_26 rfl (lv_at hl 0 rfl) ?_
        refine lv_iload_n hx hb dX5_range_27 rfl (lv_at hl 1 rfl) ?_
        have hxG9 : xG N (z 12) G Eo := ⟨by omega, by omega, by omega, fun e9 h9 => hN4 e9 (by omega)⟩
        have hP : va_P (dC, dI) kxCl (xU cI cB cE o r n z F G (Eo 0 0) ++ eP cI N Eo Er En Ez EF) H := hP
        refine xk_pure (va_runV (As := [.int (iz p0)]) (rest := []) ⟨hx, hb, hml, hown, hts⟩ (y_known l dC dI cI cB cE o r n z F G N Eo Er En Ez EF p0 H.size hok hxG9 hPE (by omega) (by omega)) (cwV 1 hts (kx_gV kq_18_xrows_8 kq_18_xrows_9 kq_18_xrows_10 kq_18_xrows_4 kq_18_xrows_11 rfl) rfl rfl rfl (by decide +kernel) ⟨Nat.le_of_ble_eq_true rfl, Nat.le_of_ble_eq_true rfl⟩) ⟨pPre_blind, va_recv hK hP (ci := 5) (q0 := 0) rfl rfl, pPre_give hP hK hG⟩ rfl rfl hl.1 rfl (lv_room (Nat.le_of_ble_eq_true rfl)) dX5_range_28 ⟨show (0 + dn_4) + 0 ≤ 200 from (by omega), show (0 + dm_5) + 0 ≤ 60000 from (by omega)⟩) hS (fun z_20 locs hq_19 hS => ?_)
        refine W.eq (g2 := F0 m 31 ls [.ref z_20.toNat]) rfl ?_
        try dsimp only at hq_19
        obtain ⟨j21, hj21, ez21, hje21⟩ := hq_19
        subst ez21
        refine W.eq (g2 := F0 m 31 ls [.ref (Eo j21 0)]) rfl ?_
        have ej21 : j21 = (p0 + 1).toNat := by omega
        subst ej21
        refine lv_astore (lv' := [(4, .ref (Eo ((p0 + 1).toNat) 0)), (0, .ref (o 15)), (1, .int (iz p0)), (2, .int (iz p1)), (3, .int (iz p2))]) hx hb dX5_range_31 hl (by decide) rfl (fun ls hl => ?_)
        refine lv_iload_n hx hb dX5_range_33 rfl (lv_at hl 4 rfl) ?_
        refine ki_if_ne (tgt := 64) hx hb dX5_range_34 (by decide) (by omega) (by omega) (fun c_22 => ?_) (fun c_22 => ?_)
        · skip
          refine lv_ldc (v := 100000) hx hb hown (kx_word hG kq_19_xouts_55 rfl) dX5_range_64 ?_
          refine ki_is (show (100000 : Int32) = iz 100000 by decide) ?_
          refine lv_iload_n hx hb dX5_range_66 rfl (lv_at hl 3 rfl) ?_
          refine ki_iadd hx hb dX5_range_67 ?_
          refine lv_istore (lv' := [(5, .int (iz (100000 + p1))), (4, .ref (Eo ((p0 + 1).toNat) 0)), (0, .ref (o 15)), (1, .int (iz p0)), (2, .int (iz p1)), (3, .int (iz p2))]) hx hb dX5_range_68 hl (by decide) rfl (fun ls hl => ?_)
          refine lv_iload_n hx hb dX5_range_70 rfl (lv_at hl 5 rfl) ?_
          refine ki_if_eq (tgt := 84) hx hb dX5_range_71 (by decide) (by omega) (by omega) (fun c_23 => ?_) (fun c_23 => ?_)
          · omega
          · skip
            refine lv_aload hx hb dX5_range_74 (lv_at hl 1 rfl) ?_
            refine lv_iload hx hb dX5_range_76 (lv_at hl 0 rfl) ?_
            have hP := eP_foc hj21 hP
            have hD := eD_foc hj21 hD
            have hPc := hP.sub (ws' := (eU cI (Eo ((p0 + 1).toNat)) (Er ((p0 + 1).toNat)) (En ((p0 + 1).toNat)) (Ez ((p0 + 1).toNat)) (EF ((p0 + 1).toNat)))) [29, 30, 31, 32, 33, 34, 35, 36, 37, 38, 39, 40, 41, 42, 43, 44] rfl
            have hDc := hD.sub (ws' := (eU cI (Eo ((p0 + 1).toNat)) (Er ((p0 + 1).toNat)) (En ((p0 + 1).toNat)) (Ez ((p0 + 1).toNat)) (EF ((p0 + 1).toNat)))) [29, 30, 31, 32, 33, 34, 35, 36, 37, 38, 39, 40, 41, 42, 43, 44] (by decide) rfl
            have hFc := va_free (wc := (eU cI (Eo ((p0 + 1).toNat)) (Er ((p0 + 1).toNat)) (En ((p0 + 1).toNat)) (Ez ((p0 + 1).toNat)) (EF ((p0 + 1).toNat)))) hD hS hA [29, 30, 31, 32, 33, 34, 35, 36, 37, 38, 39, 40, 41, 42, 43, 44] rfl
            refine xk_call (va_runV (As := [.int (iz (100000 + p1))]) (rest := []) ⟨hx, hb, hml, hown, hts⟩ (x_endRange2 l dC dI cI cB cE (Eo ((p0 + 1).toNat)) (Er ((p0 + 1).toNat)) (En ((p0 + 1).toNat)) (Ez ((p0 + 1).toNat)) (EF ((p0 + 1).toNat)) (100000 + p1) H.size (hPE ((p0 + 1).toNat) hj21) (h9z (by omega)) (by omega) (by omega)) (cwV 1 hts (kx_gV kq_21_xcalls_66 kq_21_xcalls_67 kq_21_xcalls_68 kq_16_xentry_2 kq_21_xcalls_69 rfl) rfl rfl rfl (by decide +kernel) ⟨Nat.le_of_ble_eq_true rfl, Nat.le_of_ble_eq_true rfl⟩) ⟨kx_blind, va_recv hK hPc (ci := 0) (q0 := 0) rfl rfl, kx_give (ws := []) (tys := []) hPc hDc hK hG hZ hS hFc⟩ rfl rfl hl.1 rfl (lv_room (Nat.le_of_ble_eq_true rfl)) dX5_range_78 ⟨show (0 + dn_4) + 0 ≤ 200 from (by omega), show (0 + dm_5) + 0 ≤ 60000 from (by omega)⟩) hS (fun q _ h => hFc q h) hFc (fun u dn_25 dm_26 t H locs ht hvm hq_24 hB hk1 hS => ?_)
            obtain ⟨q_27, z9_28, F5_29, F6_30⟩ := u
            obtain ⟨hP1, hK1, hD1⟩ := hB
            rw [ht] at hP1
            obtain ⟨hP, hD⟩ := xj_pool (wr := [(o 15, .inr (5, [.ref (o 16), .ref (Eo 0 0), .int (iz (z 12)), .int (iz (z 13)), .int (iz (z 14)), .ref (o 0), .ref (o 1), .int (iz (z 15)), .ref (o 13), .ref (o 14), .int (iz (z 16)), .ref (o 2), .ref (o 12), .ref (o 3), .ref (o 10), .ref (o 11)])), (o 16, .inl (cE, 80, .inr (.inr (.inr (.inr G))))), (o 0, .inr (1, [.int (iz 80), .ref (r 0), .int (iz (z 0))])), (r 0, .inl (cI, n 0, .inl (iA (F 0)))), (o 1, .inr (1, [.int (iz 80), .ref (r 1), .int (iz (z 1))])), (r 1, .inl (cI, n 1, .inl (iA (F 1)))), (o 2, .inr (1, [.int (iz 80), .ref (r 2), .int (iz (z 2))])), (r 2, .inl (cI, n 2, .inl (iA (F 2)))), (o 3, .inr (1, [.int (iz 80), .ref (r 3), .int (iz (z 3))])), (r 3, .inl (cI, n 3, .inl (iA (F 3)))), (o 13, .inr (3, [.ref (o 4), .ref (o 5), .ref (o 6)])), (o 4, .inr (1, [.int (iz 1600), .ref (r 4), .int (iz (z 4))])), (r 4, .inl (cI, n 4, .inl (iA (F 4)))), (o 5, .inr (1, [.int (iz 1600), .ref (r 5), .int (iz (z 5))])), (r 5, .inl (cI, n 5, .inl (iA (F 5)))), (o 6, .inr (1, [.int (iz 1600), .ref (r 6), .int (iz (z 6))])), (r 6, .inl (cI, n 6, .inl (iA (F 6)))), (o 14, .inr (3, [.ref (o 7), .ref (o 8), .ref (o 9)])), (o 7, .inr (1, [.int (iz 1600), .ref (r 7), .int (iz (z 7))])), (r 7, .inl (cI, n 7, .inl (iA (F 7)))), (o 8, .inr (1, [.int (iz 1600), .ref (r 8), .int (iz (z 8))])), (r 8, .inl (cI, n 8, .inl (iA (F 8)))), (o 9, .inr (1, [.int (iz 1600), .ref (r 9), .int (iz (z 9))])), (r 9, .inl (cI, n 9, .inl (iA (F 9)))), (o 12, .inr (4, [.int (iz (z 17)), .int (iz (z 18)), .int (iz (z 19)), .int (iz (z 20)), .int (iz (z 21))])), (o 10, .inr (2, [.ref (r 10), .int (iz (z 10)), .int (iz (z 22))])), (r 10, .inl (cB, n 10, .inl (iA (F 10)))), (o 11, .inr (2, [.ref (r 11), .int (iz (z 11)), .int (iz (z 23))])), (r 11, .inl (cB, n 11, .inl (iA (F 11))))]) (w1 := (eU cI (Eo ((p0 + 1).toNat)) (Er ((p0 + 1).toNat)) (En ((p0 + 1).toNat)) (va_up (Ez ((p0 + 1).toNat)) 9 z9_28) (va_up (va_up (EF ((p0 + 1).toNat)) 5 F5_29) 6 F6_30))) (ws' := ((xU cI cB cE o r n z F G (Eo 0 0)) ++ (eU cI (Eo ((p0 + 1).toNat)) (Er ((p0 + 1).toNat)) (En ((p0 + 1).toNat)) (va_up (Ez ((p0 + 1).toNat)) 9 z9_28) (va_up (va_up (EF ((p0 + 1).toNat)) 5 F5_29) 6 F6_30)))) hP hD [29, 30, 31, 32, 33, 34, 35, 36, 37, 38, 39, 40, 41, 42, 43, 44] [0, 1, 2, 3, 4, 5, 6, 7, 8, 9, 10, 11, 12, 13, 14, 15, 16, 17, 18, 19, 20, 21, 22, 23, 24, 25, 26, 27, 28] [0, 1, 2, 3, 4, 5, 6, 7, 8, 9, 10, 11, 12, 13, 14, 15, 16, 17, 18, 19, 20, 21, 22, 23, 24, 25, 26, 27, 28, 29, 30, 31, 32, 33, 34, 35, 36, 37, 38, 39, 40, 41, 42, 43, 44] rfl rfl (by decide) (by decide) hk1 hFc hP1 hD1 rfl (by decide)
            refine W.eq (g2 := F0 m 81 ls [.int (iz q_27)]) rfl ?_
            try dsimp only at hq_24
            obtain ⟨hd31, hm31, hb531, hb631, hz31, hr31⟩ := hq_24
            subst hd31
            subst hm31
            refine lv_goto (tgt := 91) hx hb dX5_range_81 (by decide) ?_
            refine lv_istore (lv' := [(6, .int (iz q_27)), (5, .int (iz (100000 + p1))), (4, .ref (Eo ((p0 + 1).toNat) 0)), (0, .ref (o 15)), (1, .int (iz p0)), (2, .int (iz p1)), (3, .int (iz p2))]) hx hb dX5_range_91 hl (by decide) rfl (fun ls hl => ?_)
            refine lv_iload hx hb dX5_range_93 (lv_at hl 0 rfl) ?_
            refine ki_if_eq (tgt := 103) hx hb dX5_range_95 (by decide) (by omega) (by omega) (fun c_32 => ?_) (fun c_32 => ?_)
            · skip
              refine lv_iload hx hb dX5_range_103 (lv_at hl 0 rfl) ?_
              refine ki_if_eq (tgt := 112) hx hb dX5_range_105 (by decide) (by omega) (by omega) (fun c_33 => ?_) (fun c_33 => ?_)
              · skip
                refine lv_iconst (v := iz 0) hx hb dX5_range_112 (by decide) ?_
                have he_34 : 0 ≤ Ez ((p0 + 1).toNat) 5 ∧ Ez ((p0 + 1).toNat) 5 ≤ ((En ((p0 + 1).toNat) 5 : Nat) : Int) ∧ ((En ((p0 + 1).toNat) 5 : Nat) : Int) ≤ 20 := (hPE ((p0 + 1).toNat) hj21).1 5 (by decide)
                have he_35 : 0 ≤ Ez ((p0 + 1).toNat) 6 ∧ Ez ((p0 + 1).toNat) 6 ≤ ((En ((p0 + 1).toNat) 6 : Nat) : Int) ∧ ((En ((p0 + 1).toNat) 6 : Nat) : Int) ≤ 20 := (hPE ((p0 + 1).toNat) hj21).1 6 (by decide)
                have hez_36 : -2147483648 ≤ Ez ((p0 + 1).toNat) 9 ∧ Ez ((p0 + 1).toNat) 9 < 2147483648 := (hPE ((p0 + 1).toNat) hj21).2.2 9
                have hP : va_P (dC, dI) kxCl (((xU cI cB cE o r n z F G (Eo 0 0)) ++ (eU cI (Eo ((p0 + 1).toNat)) (Er ((p0 + 1).toNat)) (va_up (va_up (En ((p0 + 1).toNat)) 5 (En ((p0 + 1).toNat) 5)) 6 (En ((p0 + 1).toNat) 6)) (va_up (va_up (va_up (Ez ((p0 + 1).toNat)) 5 (Ez ((p0 + 1).toNat) 5)) 6 (Ez ((p0 + 1).toNat) 6)) 9 z9_28) (va_up (va_up (EF ((p0 + 1).toNat)) 5 F5_29) 6 F6_30))) ++ (eR cI N ((p0 + 1).toNat) Eo Er En Ez EF)) H := hP
                have hD : va_D A (((xU cI cB cE o r n z F G (Eo 0 0)) ++ (eU cI (Eo ((p0 + 1).toNat)) (Er ((p0 + 1).toNat)) (va_up (va_up (En ((p0 + 1).toNat)) 5 (En ((p0 + 1).toNat) 5)) 6 (En ((p0 + 1).toNat) 6)) (va_up (va_up (va_up (Ez ((p0 + 1).toNat)) 5 (Ez ((p0 + 1).toNat) 5)) 6 (Ez ((p0 + 1).toNat) 6)) 9 z9_28) (va_up (va_up (EF ((p0 + 1).toNat)) 5 F5_29) 6 F6_30))) ++ (eR cI N ((p0 + 1).toNat) Eo Er En Ez EF)) := hD
                have hP := eP_unf hj21 hP
                have hD := eD_unf hj21 hD
                have hPE37 := hPE.up ((p0 + 1).toNat) ((((hPE ((p0 + 1).toNat) hj21).i 5 (by decide) (show 0 ≤ Ez ((p0 + 1).toNat) 5 ∧ Ez ((p0 + 1).toNat) 5 ≤ ((En ((p0 + 1).toNat) 5 : Nat) : Int) ∧ ((En ((p0 + 1).toNat) 5 : Nat) : Int) ≤ 20 by omega) hb531 (by omega)).i 6 (by decide) (show 0 ≤ Ez ((p0 + 1).toNat) 6 ∧ Ez ((p0 + 1).toNat) 6 ≤ ((En ((p0 + 1).toNat) 6 : Nat) : Int) ∧ ((En ((p0 + 1).toNat) 6 : Nat) : Int) ≤ 20 by omega) hb631 (by omega)).sc 9 (by decide) (show -2147483648 ≤ z9_28 by omega) (show z9_28 < 2147483648 by omega))
                have hef37 := hef.up ((p0 + 1).toNat) (z := (va_up (va_up (va_up (Ez ((p0 + 1).toNat)) 5 (Ez ((p0 + 1).toNat) 5)) 6 (Ez ((p0 + 1).toNat) 6)) 9 z9_28)) (n := (va_up (va_up (En ((p0 + 1).toNat)) 5 (En ((p0 + 1).toNat) 5)) 6 (En ((p0 + 1).toNat) 6))) (F := (va_up (va_up (EF ((p0 + 1).toNat)) 5 F5_29) 6 F6_30)) (fun k hk => (vfr hk _ (by decide) (vfr hk _ (by decide) (vfr hk _ (by decide) rfl)))) (fun k hk => ⟨(vfr hk _ (by decide) (vfr hk _ (by decide) rfl)), (vfr hk _ (by decide) (vfr hk _ (by decide) rfl))⟩)
                generalize eEr37 : va_up Er ((p0 + 1).toNat) (Er ((p0 + 1).toNat)) = Er37 at hP hD
                generalize eEn37 : va_up En ((p0 + 1).toNat) (va_up (va_up (En ((p0 + 1).toNat)) 5 (En ((p0 + 1).toNat) 5)) 6 (En ((p0 + 1).toNat) 6)) = En37 at hP hD hPE37 hef37
                generalize eEz37 : va_up Ez ((p0 + 1).toNat) (va_up (va_up (va_up (Ez ((p0 + 1).toNat)) 5 (Ez ((p0 + 1).toNat) 5)) 6 (Ez ((p0 + 1).toNat) 6)) 9 z9_28) = Ez37 at hP hD hPE37 hef37
                generalize eEF37 : va_up EF ((p0 + 1).toNat) (va_up (va_up (EF ((p0 + 1).toNat)) 5 F5_29) 6 F6_30) = EF37 at hP hD hPE37 hef37
                have hcl37_0 : Ez37 ((p0 + 1).toNat) 0 = Ez ((p0 + 1).toNat) 0 := by rw [← eEz37]; simp (decide := true) only [va_ev, ↓reduceIte]
                have hcl37_4 : Ez37 ((p0 + 1).toNat) 4 = Ez ((p0 + 1).toNat) 4 := by rw [← eEz37]; simp (decide := true) only [va_ev, ↓reduceIte]
                have hcl37_5 : Ez37 ((p0 + 1).toNat) 5 = Ez ((p0 + 1).toNat) 5 := by rw [← eEz37]; simp (decide := true) only [va_ev, ↓reduceIte]
                have hcl37_6 : Ez37 ((p0 + 1).toNat) 6 = Ez ((p0 + 1).toNat) 6 := by rw [← eEz37]; simp (decide := true) only [va_ev, ↓reduceIte]
                have hcl37_7 : Ez37 ((p0 + 1).toNat) 7 = Ez ((p0 + 1).toNat) 7 := by rw [← eEz37]; simp (decide := true) only [va_ev, ↓reduceIte]
                have hcl37_9 : Ez37 ((p0 + 1).toNat) 9 = z9_28 := by rw [← eEz37]; simp (decide := true) only [va_ev, ↓reduceIte]
                have hcF37_4 : EF37 ((p0 + 1).toNat) 4 = EF ((p0 + 1).toNat) 4 := by rw [← eEF37]; simp (decide := true) only [va_ev, ↓reduceIte]
                have hcF37_5 : EF37 ((p0 + 1).toNat) 5 = F5_29 := by rw [← eEF37]; simp (decide := true) only [va_ev, ↓reduceIte]
                have hcF37_6 : EF37 ((p0 + 1).toNat) 6 = F6_30 := by rw [← eEF37]; simp (decide := true) only [va_ev, ↓reduceIte]
                have hzo16 : z 16 = z 16 := rfl
                refine vx_ret ?_
                exact xk_iret (ov := (fun u : (Int) × (Nat → Nat) × (Nat → Nat) × (Nat → Int) × (Nat → Int → Int) × (Nat → Nat → Nat) × (Nat → Nat → Nat) × (Nat → Nat → Int) × (Nat → Nat → Int → Int) => match u with | (q, r', n', z', F', Er', En', Ez', EF') => some (.int (iz q)))) (post := (fun (u : (Int) × (Nat → Nat) × (Nat → Nat) × (Nat → Int) × (Nat → Int → Int) × (Nat → Nat → Nat) × (Nat → Nat → Nat) × (Nat → Nat → Int) × (Nat → Nat → Int → Int)) (dn dm : Nat) => match u with | (q, r', n', z', F', Er', En', Ez', EF') => xR [16] [] [4, 5, 6, 9] [4, 5, 6] N z F En Ez EF n' z' F' En' Ez' EF' ∧ (dn + xg n' ≤ xg n + 30 ∧ dm + xp n' ≤ xp n + 200) ∧ (((0 ≤ p0 ∧ p0 < z 12) ∧ (1 ≤ p1 ∧ p1 ≤ 99999) ∧ ((p2 = 0 ∧ 0 ≤ Ez ((p0 + 1).toNat) 9 ∧ q = 0 ∧ Ez' ((p0 + 1).toNat) 9 = Ez ((p0 + 1).toNat) 9 ∧ Ez' ((p0 + 1).toNat) 4 = Ez ((p0 + 1).toNat) 4 ∧ EF' ((p0 + 1).toNat) 4 = EF ((p0 + 1).toNat) 4) ∨ (p2 = 0 ∧ Ez ((p0 + 1).toNat) 9 < 0 ∧ Ez ((p0 + 1).toNat) 4 < 20 ∧ q = 1 ∧ Ez' ((p0 + 1).toNat) 9 = Ez ((p0 + 1).toNat) 4 ∧ Ez' ((p0 + 1).toNat) 4 = Ez ((p0 + 1).toNat) 4 + 1 ∧ EF' ((p0 + 1).toNat) 4 (Ez ((p0 + 1).toNat) 4) = 100000 + p1) ∨ (¬ p2 = 0 ∧ q = 0 ∧ Ez' ((p0 + 1).toNat) 9 = Ez ((p0 + 1).toNat) 9 ∧ Ez' ((p0 + 1).toNat) 4 = Ez ((p0 + 1).toNat) 4 ∧ EF' ((p0 + 1).toNat) 4 = EF ((p0 + 1).toNat) 4 ∧ (0 ≤ Ez ((p0 + 1).toNat) 9 → Ez ((p0 + 1).toNat) 9 < Ez ((p0 + 1).toNat) 4 → 100000 + p1 < EF ((p0 + 1).toNat) 4 (Ez ((p0 + 1).toNat) 9))) ∨ (¬ p2 = 0 ∧ q = 1 ∧ 0 ≤ Ez ((p0 + 1).toNat) 9 ∧ (Ez ((p0 + 1).toNat) 9 < Ez ((p0 + 1).toNat) 4 → EF ((p0 + 1).toNat) 4 (Ez ((p0 + 1).toNat) 9) ≤ 100000 + p1) ∧ Ez' ((p0 + 1).toNat) 9 = -1 ∧ Ez' ((p0 + 1).toNat) 4 = Ez ((p0 + 1).toNat) 4 ∧ EF' ((p0 + 1).toNat) 4 = EF ((p0 + 1).toNat) 4)) ∧ (∀ j, j ≠ ((p0 + 1).toNat) → Ez' j = Ez j ∧ EF' j = EF j)) ∧ ((q = 0 ∧ z' 16 = z 16 ∧ Ez' ((p0 + 1).toNat) 4 = Ez ((p0 + 1).toNat) 4 ∧ EF' ((p0 + 1).toNat) 4 = EF ((p0 + 1).toNat) 4 ∧ Ez' ((p0 + 1).toNat) 5 = Ez ((p0 + 1).toNat) 5 ∧ EF' ((p0 + 1).toNat) 5 = EF ((p0 + 1).toNat) 5 ∧ Ez' ((p0 + 1).toNat) 6 = Ez ((p0 + 1).toNat) 6 ∧ EF' ((p0 + 1).toNat) 6 = EF ((p0 + 1).toNat) 6) ∨ (q = 1 ∧ z' 16 = -1 ∧ p2 = 0 ∧ (iAdd 20 (Ez ((p0 + 1).toNat) 4) (EF ((p0 + 1).toNat) 4) (Ez' ((p0 + 1).toNat) 4) (EF' ((p0 + 1).toNat) 4) (100000 + p1) ∧ iAdd 20 (Ez ((p0 + 1).toNat) 5) (EF ((p0 + 1).toNat) 5) (Ez' ((p0 + 1).toNat) 5) (EF' ((p0 + 1).toNat) 5) (100000 + p1) ∧ iAdd 20 (Ez ((p0 + 1).toNat) 6) (EF ((p0 + 1).toNat) 6) (Ez' ((p0 + 1).toNat) 6) (EF' ((p0 + 1).toNat) 6) 0)) ∨ (q = 1 ∧ z' 16 = -1 ∧ ¬ p2 = 0 ∧ (Ez' ((p0 + 1).toNat) 4 = Ez ((p0 + 1).toNat) 4 ∧ Ez' ((p0 + 1).toNat) 5 = Ez ((p0 + 1).toNat) 5 ∧ Ez' ((p0 + 1).toNat) 6 = Ez ((p0 + 1).toNat) 6) ∧ EF' ((p0 + 1).toNat) 4 = EF ((p0 + 1).toNat) 4 ∧ EF' ((p0 + 1).toNat) 5 = upI (EF ((p0 + 1).toNat) 5) (Ez ((p0 + 1).toNat) 9) (100000 + p1) ∧ EF' ((p0 + 1).toNat) 6 = upI (EF ((p0 + 1).toNat) 6) (Ez ((p0 + 1).toNat) 9) 1))))) (ws := (fun u : (Int) × (Nat → Nat) × (Nat → Nat) × (Nat → Int) × (Nat → Int → Int) × (Nat → Nat → Nat) × (Nat → Nat → Nat) × (Nat → Nat → Int) × (Nat → Nat → Int → Int) => match u with | (q, r', n', z', F', Er', En', Ez', EF') => (xU cI cB cE o r' n' z' F' G (Eo 0 0) ++ eP cI N Eo Er' En' Ez' EF'))) (tys := xT cI cB cE) (z := 0) (0, r, n, z, F, Er37, En37, Ez37, EF37) hx hb hr rfl hlocks rfl hP hD hK hS dX5_range_113 (fun dn dm hdn hdm => ⟨⟨hok, hfr, hPE37, hef37⟩, ⟨by omega, by omega⟩, by rcases hr31 with ⟨h1, h2, h3, h5, h6⟩ | ⟨h1, h2, h3, h5, h6, h7⟩; exact ⟨⟨by omega, by omega, Or.inr (Or.inr (Or.inl ⟨by omega, by omega, by omega, by omega, hcF37_4, h3⟩)), fun j hj => ⟨by rw [← eEz37]; exact va_up_ne _ _ hj, by rw [← eEF37]; exact va_up_ne _ _ hj⟩⟩, Or.inl ⟨by omega, by first | rfl | omega, by omega, hcF37_4, by omega, by rw [hcF37_5, h5], by omega, by rw [hcF37_6, h6]⟩⟩; exact ⟨⟨by omega, by omega, Or.inr (Or.inr (Or.inr ⟨by omega, by omega, h2, h3, by omega, by omega, hcF37_4⟩)), fun j hj => ⟨by rw [← eEz37]; exact va_up_ne _ _ hj, by rw [← eEF37]; exact va_up_ne _ _ hj⟩⟩, Or.inr (Or.inr ⟨by omega, by first | rfl | omega, by omega, ⟨by omega, by omega, by omega⟩, hcF37_4, by rw [hcF37_5, h6], by rw [hcF37_6, h7]⟩)⟩⟩) (by omega) (by omega)
              · omega
            · skip
              refine lv_aload_n hx hb dX5_range_98 rfl (lv_at hl 3 rfl) ?_
              refine lv_iconst (v := iz (-1)) hx hb dX5_range_99 (by decide) ?_
              refine va_put (D := (dC, dI)) (ci := 5) (v := .int (iz (-1))) (ty := .int) (C := RX5) (T := TX5) (N := 16) hx hb hts kt_X5 tyX5 tyX5_ok nmX5 hown hK hP hD hS 0 rfl rfl 10 (by decide) (kx_word hG kq_18_xrows_26 rfl) (fun _ h9 => h9) rfl (by decide +kernel) rfl rfl (Nat.le_of_ble_eq_true rfl) dX5_range_100 (fun H locs hP hD hS => ?_)
              have hP : va_P (dC, dI) kxCl (((xU cI cB cE o r n (va_up z 16 (-1)) F G (Eo 0 0)) ++ (eU cI (Eo ((p0 + 1).toNat)) (Er ((p0 + 1).toNat)) (En ((p0 + 1).toNat)) (va_up (Ez ((p0 + 1).toNat)) 9 z9_28) (va_up (va_up (EF ((p0 + 1).toNat)) 5 F5_29) 6 F6_30))) ++ (eR cI N ((p0 + 1).toNat) Eo Er En Ez EF)) H := hP
              have hD : va_D A (((xU cI cB cE o r n (va_up z 16 (-1)) F G (Eo 0 0)) ++ (eU cI (Eo ((p0 + 1).toNat)) (Er ((p0 + 1).toNat)) (En ((p0 + 1).toNat)) (va_up (Ez ((p0 + 1).toNat)) 9 z9_28) (va_up (va_up (EF ((p0 + 1).toNat)) 5 F5_29) 6 F6_30))) ++ (eR cI N ((p0 + 1).toNat) Eo Er En Ez EF)) := hD
              refine lv_iload hx hb dX5_range_103 (lv_at hl 0 rfl) ?_
              refine ki_if_eq (tgt := 112) hx hb dX5_range_105 (by decide) (by omega) (by omega) (fun c_38 => ?_) (fun c_38 => ?_)
              · omega
              · skip
                refine lv_iconst (v := iz 1) hx hb dX5_range_108 (by decide) ?_
                refine lv_goto (tgt := 113) hx hb dX5_range_109 (by decide) ?_
                have he_39 : 0 ≤ Ez ((p0 + 1).toNat) 5 ∧ Ez ((p0 + 1).toNat) 5 ≤ ((En ((p0 + 1).toNat) 5 : Nat) : Int) ∧ ((En ((p0 + 1).toNat) 5 : Nat) : Int) ≤ 20 := (hPE ((p0 + 1).toNat) hj21).1 5 (by decide)
                have he_40 : 0 ≤ Ez ((p0 + 1).toNat) 6 ∧ Ez ((p0 + 1).toNat) 6 ≤ ((En ((p0 + 1).toNat) 6 : Nat) : Int) ∧ ((En ((p0 + 1).toNat) 6 : Nat) : Int) ≤ 20 := (hPE ((p0 + 1).toNat) hj21).1 6 (by decide)
                have hez_41 : -2147483648 ≤ Ez ((p0 + 1).toNat) 9 ∧ Ez ((p0 + 1).toNat) 9 < 2147483648 := (hPE ((p0 + 1).toNat) hj21).2.2 9
                have hP : va_P (dC, dI) kxCl (((xU cI cB cE o r n (va_up z 16 (-1)) F G (Eo 0 0)) ++ (eU cI (Eo ((p0 + 1).toNat)) (Er ((p0 + 1).toNat)) (va_up (va_up (En ((p0 + 1).toNat)) 5 (En ((p0 + 1).toNat) 5)) 6 (En ((p0 + 1).toNat) 6)) (va_up (va_up (va_up (Ez ((p0 + 1).toNat)) 5 (Ez ((p0 + 1).toNat) 5)) 6 (Ez ((p0 + 1).toNat) 6)) 9 z9_28) (va_up (va_up (EF ((p0 + 1).toNat)) 5 F5_29) 6 F6_30))) ++ (eR cI N ((p0 + 1).toNat) Eo Er En Ez EF)) H := hP
                have hD : va_D A (((xU cI cB cE o r n (va_up z 16 (-1)) F G (Eo 0 0)) ++ (eU cI (Eo ((p0 + 1).toNat)) (Er ((p0 + 1).toNat)) (va_up (va_up (En ((p0 + 1).toNat)) 5 (En ((p0 + 1).toNat) 5)) 6 (En ((p0 + 1).toNat) 6)) (va_up (va_up (va_up (Ez ((p0 + 1).toNat)) 5 (Ez ((p0 + 1).toNat) 5)) 6 (Ez ((p0 + 1).toNat) 6)) 9 z9_28) (va_up (va_up (EF ((p0 + 1).toNat)) 5 F5_29) 6 F6_30))) ++ (eR cI N ((p0 + 1).toNat) Eo Er En Ez EF)) := hD
                have hP := eP_unf hj21 hP
                have hD := eD_unf hj21 hD
                have hPE42 := hPE.up ((p0 + 1).toNat) ((((hPE ((p0 + 1).toNat) hj21).i 5 (by decide) (show 0 ≤ Ez ((p0 + 1).toNat) 5 ∧ Ez ((p0 + 1).toNat) 5 ≤ ((En ((p0 + 1).toNat) 5 : Nat) : Int) ∧ ((En ((p0 + 1).toNat) 5 : Nat) : Int) ≤ 20 by omega) hb531 (by omega)).i 6 (by decide) (show 0 ≤ Ez ((p0 + 1).toNat) 6 ∧ Ez ((p0 + 1).toNat) 6 ≤ ((En ((p0 + 1).toNat) 6 : Nat) : Int) ∧ ((En ((p0 + 1).toNat) 6 : Nat) : Int) ≤ 20 by omega) hb631 (by omega)).sc 9 (by decide) (show -2147483648 ≤ z9_28 by omega) (show z9_28 < 2147483648 by omega))
                have hef42 := hef.up ((p0 + 1).toNat) (z := (va_up (va_up (va_up (Ez ((p0 + 1).toNat)) 5 (Ez ((p0 + 1).toNat) 5)) 6 (Ez ((p0 + 1).toNat) 6)) 9 z9_28)) (n := (va_up (va_up (En ((p0 + 1).toNat)) 5 (En ((p0 + 1).toNat) 5)) 6 (En ((p0 + 1).toNat) 6))) (F := (va_up (va_up (EF ((p0 + 1).toNat)) 5 F5_29) 6 F6_30)) (fun k hk => (vfr hk _ (by decide) (vfr hk _ (by decide) (vfr hk _ (by decide) rfl)))) (fun k hk => ⟨(vfr hk _ (by decide) (vfr hk _ (by decide) rfl)), (vfr hk _ (by decide) (vfr hk _ (by decide) rfl))⟩)
                generalize eEr42 : va_up Er ((p0 + 1).toNat) (Er ((p0 + 1).toNat)) = Er42 at hP hD
                generalize eEn42 : va_up En ((p0 + 1).toNat) (va_up (va_up (En ((p0 + 1).toNat)) 5 (En ((p0 + 1).toNat) 5)) 6 (En ((p0 + 1).toNat) 6)) = En42 at hP hD hPE42 hef42
                generalize eEz42 : va_up Ez ((p0 + 1).toNat) (va_up (va_up (va_up (Ez ((p0 + 1).toNat)) 5 (Ez ((p0 + 1).toNat) 5)) 6 (Ez ((p0 + 1).toNat) 6)) 9 z9_28) = Ez42 at hP hD hPE42 hef42
                generalize eEF42 : va_up EF ((p0 + 1).toNat) (va_up (va_up (EF ((p0 + 1).toNat)) 5 F5_29) 6 F6_30) = EF42 at hP hD hPE42 hef42
                have hcl42_0 : Ez42 ((p0 + 1).toNat) 0 = Ez ((p0 + 1).toNat) 0 := by rw [← eEz42]; simp (decide := true) only [va_ev, ↓reduceIte]
                have hcl42_4 : Ez42 ((p0 + 1).toNat) 4 = Ez ((p0 + 1).toNat) 4 := by rw [← eEz42]; simp (decide := true) only [va_ev, ↓reduceIte]
                have hcl42_5 : Ez42 ((p0 + 1).toNat) 5 = Ez ((p0 + 1).toNat) 5 := by rw [← eEz42]; simp (decide := true) only [va_ev, ↓reduceIte]
                have hcl42_6 : Ez42 ((p0 + 1).toNat) 6 = Ez ((p0 + 1).toNat) 6 := by rw [← eEz42]; simp (decide := true) only [va_ev, ↓reduceIte]
                have hcl42_7 : Ez42 ((p0 + 1).toNat) 7 = Ez ((p0 + 1).toNat) 7 := by rw [← eEz42]; simp (decide := true) only [va_ev, ↓reduceIte]
                have hcl42_9 : Ez42 ((p0 + 1).toNat) 9 = z9_28 := by rw [← eEz42]; simp (decide := true) only [va_ev, ↓reduceIte]
                have hcF42_4 : EF42 ((p0 + 1).toNat) 4 = EF ((p0 + 1).toNat) 4 := by rw [← eEF42]; simp (decide := true) only [va_ev, ↓reduceIte]
                have hcF42_5 : EF42 ((p0 + 1).toNat) 5 = F5_29 := by rw [← eEF42]; simp (decide := true) only [va_ev, ↓reduceIte]
                have hcF42_6 : EF42 ((p0 + 1).toNat) 6 = F6_30 := by rw [← eEF42]; simp (decide := true) only [va_ev, ↓reduceIte]
                have hxz_43 : -2147483648 ≤ z 16 ∧ z 16 < 2147483648 := hok.2.2.2.1 16
                have hok44 : xOk n (va_up z 16 (-1)) F := (hok.s 16 (by decide) (show -2147483648 ≤ (-1) ∧ (-1) < 2147483648 by omega) (by omega))
                have hfr44 : xFr [16] [] z F (va_up z 16 (-1)) F := (hfr.uz 16 (by decide) _)
                have hzo16 : (va_up z 16 (-1)) 16 = (-1) := rfl
                refine vx_ret ?_
                exact xk_iret (ov := (fun u : (Int) × (Nat → Nat) × (Nat → Nat) × (Nat → Int) × (Nat → Int → Int) × (Nat → Nat → Nat) × (Nat → Nat → Nat) × (Nat → Nat → Int) × (Nat → Nat → Int → Int) => match u with | (q, r', n', z', F', Er', En', Ez', EF') => some (.int (iz q)))) (post := (fun (u : (Int) × (Nat → Nat) × (Nat → Nat) × (Nat → Int) × (Nat → Int → Int) × (Nat → Nat → Nat) × (Nat → Nat → Nat) × (Nat → Nat → Int) × (Nat → Nat → Int → Int)) (dn dm : Nat) => match u with | (q, r', n', z', F', Er', En', Ez', EF') => xR [16] [] [4, 5, 6, 9] [4, 5, 6] N z F En Ez EF n' z' F' En' Ez' EF' ∧ (dn + xg n' ≤ xg n + 30 ∧ dm + xp n' ≤ xp n + 200) ∧ (((0 ≤ p0 ∧ p0 < z 12) ∧ (1 ≤ p1 ∧ p1 ≤ 99999) ∧ ((p2 = 0 ∧ 0 ≤ Ez ((p0 + 1).toNat) 9 ∧ q = 0 ∧ Ez' ((p0 + 1).toNat) 9 = Ez ((p0 + 1).toNat) 9 ∧ Ez' ((p0 + 1).toNat) 4 = Ez ((p0 + 1).toNat) 4 ∧ EF' ((p0 + 1).toNat) 4 = EF ((p0 + 1).toNat) 4) ∨ (p2 = 0 ∧ Ez ((p0 + 1).toNat) 9 < 0 ∧ Ez ((p0 + 1).toNat) 4 < 20 ∧ q = 1 ∧ Ez' ((p0 + 1).toNat) 9 = Ez ((p0 + 1).toNat) 4 ∧ Ez' ((p0 + 1).toNat) 4 = Ez ((p0 + 1).toNat) 4 + 1 ∧ EF' ((p0 + 1).toNat) 4 (Ez ((p0 + 1).toNat) 4) = 100000 + p1) ∨ (¬ p2 = 0 ∧ q = 0 ∧ Ez' ((p0 + 1).toNat) 9 = Ez ((p0 + 1).toNat) 9 ∧ Ez' ((p0 + 1).toNat) 4 = Ez ((p0 + 1).toNat) 4 ∧ EF' ((p0 + 1).toNat) 4 = EF ((p0 + 1).toNat) 4 ∧ (0 ≤ Ez ((p0 + 1).toNat) 9 → Ez ((p0 + 1).toNat) 9 < Ez ((p0 + 1).toNat) 4 → 100000 + p1 < EF ((p0 + 1).toNat) 4 (Ez ((p0 + 1).toNat) 9))) ∨ (¬ p2 = 0 ∧ q = 1 ∧ 0 ≤ Ez ((p0 + 1).toNat) 9 ∧ (Ez ((p0 + 1).toNat) 9 < Ez ((p0 + 1).toNat) 4 → EF ((p0 + 1).toNat) 4 (Ez ((p0 + 1).toNat) 9) ≤ 100000 + p1) ∧ Ez' ((p0 + 1).toNat) 9 = -1 ∧ Ez' ((p0 + 1).toNat) 4 = Ez ((p0 + 1).toNat) 4 ∧ EF' ((p0 + 1).toNat) 4 = EF ((p0 + 1).toNat) 4)) ∧ (∀ j, j ≠ ((p0 + 1).toNat) → Ez' j = Ez j ∧ EF' j = EF j)) ∧ ((q = 0 ∧ z' 16 = z 16 ∧ Ez' ((p0 + 1).toNat) 4 = Ez ((p0 + 1).toNat) 4 ∧ EF' ((p0 + 1).toNat) 4 = EF ((p0 + 1).toNat) 4 ∧ Ez' ((p0 + 1).toNat) 5 = Ez ((p0 + 1).toNat) 5 ∧ EF' ((p0 + 1).toNat) 5 = EF ((p0 + 1).toNat) 5 ∧ Ez' ((p0 + 1).toNat) 6 = Ez ((p0 + 1).toNat) 6 ∧ EF' ((p0 + 1).toNat) 6 = EF ((p0 + 1).toNat) 6) ∨ (q = 1 ∧ z' 16 = -1 ∧ p2 = 0 ∧ (iAdd 20 (Ez ((p0 + 1).toNat) 4) (EF ((p0 + 1).toNat) 4) (Ez' ((p0 + 1).toNat) 4) (EF' ((p0 + 1).toNat) 4) (100000 + p1) ∧ iAdd 20 (Ez ((p0 + 1).toNat) 5) (EF ((p0 + 1).toNat) 5) (Ez' ((p0 + 1).toNat) 5) (EF' ((p0 + 1).toNat) 5) (100000 + p1) ∧ iAdd 20 (Ez ((p0 + 1).toNat) 6) (EF ((p0 + 1).toNat) 6) (Ez' ((p0 + 1).toNat) 6) (EF' ((p0 + 1).toNat) 6) 0)) ∨ (q = 1 ∧ z' 16 = -1 ∧ ¬ p2 = 0 ∧ (Ez' ((p0 + 1).toNat) 4 = Ez ((p0 + 1).toNat) 4 ∧ Ez' ((p0 + 1).toNat) 5 = Ez ((p0 + 1).toNat) 5 ∧ Ez' ((p0 + 1).toNat) 6 = Ez ((p0 + 1).toNat) 6) ∧ EF' ((p0 + 1).toNat) 4 = EF ((p0 + 1).toNat) 4 ∧ EF' ((p0 + 1).toNat) 5 = upI (EF ((p0 + 1).toNat) 5) (Ez ((p0 + 1).toNat) 9) (100000 + p1) ∧ EF' ((p0 + 1).toNat) 6 = upI (EF ((p0 + 1).toNat) 6) (Ez ((p0 + 1).toNat) 9) 1))))) (ws := (fun u : (Int) × (Nat → Nat) × (Nat → Nat) × (Nat → Int) × (Nat → Int → Int) × (Nat → Nat → Nat) × (Nat → Nat → Nat) × (Nat → Nat → Int) × (Nat → Nat → Int → Int) => match u with | (q, r', n', z', F', Er', En', Ez', EF') => (xU cI cB cE o r' n' z' F' G (Eo 0 0) ++ eP cI N Eo Er' En' Ez' EF'))) (tys := xT cI cB cE) (z := 1) (1, r, n, (va_up z 16 (-1)), F, Er42, En42, Ez42, EF42) hx hb hr rfl hlocks rfl hP hD hK hS dX5_range_113 (fun dn dm hdn hdm => ⟨⟨hok44, hfr44, hPE42, hef42⟩, ⟨by omega, by omega⟩, by rcases hr31 with ⟨h1, h2, h3, h5, h6⟩ | ⟨h1, h2, h3, h5, h6, h7⟩; exact ⟨⟨by omega, by omega, Or.inr (Or.inr (Or.inl ⟨by omega, by omega, by omega, by omega, hcF42_4, h3⟩)), fun j hj => ⟨by rw [← eEz42]; exact va_up_ne _ _ hj, by rw [← eEF42]; exact va_up_ne _ _ hj⟩⟩, Or.inl ⟨by omega, by first | rfl | omega, by omega, hcF42_4, by omega, by rw [hcF42_5, h5], by omega, by rw [hcF42_6, h6]⟩⟩; exact ⟨⟨by omega, by omega, Or.inr (Or.inr (Or.inr ⟨by omega, by omega, h2, h3, by omega, by omega, hcF42_4⟩)), fun j hj => ⟨by rw [← eEz42]; exact va_up_ne _ _ hj, by rw [← eEF42]; exact va_up_ne _ _ hj⟩⟩, Or.inr (Or.inr ⟨by omega, by first | rfl | omega, by omega, ⟨by omega, by omega, by omega⟩, hcF42_4, by rw [hcF42_5, h6], by rw [hcF42_6, h7]⟩)⟩⟩) (by omega) (by omega)
        · skip
          refine lv_aload hx hb dX5_range_37 (lv_at hl 0 rfl) ?_
          have hP := eP_foc hj21 hP
          have hD := eD_foc hj21 hD
          have hez_45 : -2147483648 ≤ Ez ((p0 + 1).toNat) 9 ∧ Ez ((p0 + 1).toNat) 9 < 2147483648 := (hPE ((p0 + 1).toNat) hj21).2.2 9
          refine va_getN (D := (dC, dI)) (ci := 0) (v := .int (iz (Ez ((p0 + 1).toNat) 9))) (C := RX0) (T := TX0) (N := 12) hx hb hts kt_X0 hown hK hP 29 rfl rfl 7 (by decide) (va_Nw.use rfl (kx_nf hG kq_19_xouts_44)) (fun _ h9 => h9) rfl dX5_range_39 ?_
          refine ki_if_ge (tgt := 64) hx hb dX5_range_42 (by decide) (by omega) (by omega) (fun c_46 => ?_) (fun c_46 => ?_)
          · skip
            refine lv_ldc (v := 100000) hx hb hown (kx_word hG kq_19_xouts_55 rfl) dX5_range_64 ?_
            refine ki_is (show (100000 : Int32) = iz 100000 by decide) ?_
            refine lv_iload_n hx hb dX5_range_66 rfl (lv_at hl 3 rfl) ?_
            refine ki_iadd hx hb dX5_range_67 ?_
            refine lv_istore (lv' := [(5, .int (iz (100000 + p1))), (4, .ref (Eo ((p0 + 1).toNat) 0)), (0, .ref (o 15)), (1, .int (iz p0)), (2, .int (iz p1)), (3, .int (iz p2))]) hx hb dX5_range_68 hl (by decide) rfl (fun ls hl => ?_)
            refine lv_iload_n hx hb dX5_range_70 rfl (lv_at hl 5 rfl) ?_
            refine ki_if_eq (tgt := 84) hx hb dX5_range_71 (by decide) (by omega) (by omega) (fun c_47 => ?_) (fun c_47 => ?_)
            · skip
              refine lv_aload hx hb dX5_range_84 (lv_at hl 1 rfl) ?_
              refine lv_iload hx hb dX5_range_86 (lv_at hl 0 rfl) ?_
              have hPc := hP.sub (ws' := (eU cI (Eo ((p0 + 1).toNat)) (Er ((p0 + 1).toNat)) (En ((p0 + 1).toNat)) (Ez ((p0 + 1).toNat)) (EF ((p0 + 1).toNat)))) [29, 30, 31, 32, 33, 34, 35, 36, 37, 38, 39, 40, 41, 42, 43, 44] rfl
              have hDc := hD.sub (ws' := (eU cI (Eo ((p0 + 1).toNat)) (Er ((p0 + 1).toNat)) (En ((p0 + 1).toNat)) (Ez ((p0 + 1).toNat)) (EF ((p0 + 1).toNat)))) [29, 30, 31, 32, 33, 34, 35, 36, 37, 38, 39, 40, 41, 42, 43, 44] (by decide) rfl
              have hFc := va_free (wc := (eU cI (Eo ((p0 + 1).toNat)) (Er ((p0 + 1).toNat)) (En ((p0 + 1).toNat)) (Ez ((p0 + 1).toNat)) (EF ((p0 + 1).toNat)))) hD hS hA [29, 30, 31, 32, 33, 34, 35, 36, 37, 38, 39, 40, 41, 42, 43, 44] rfl
              refine xk_call (va_runV (As := [.int (iz (100000 + p1))]) (rest := []) ⟨hx, hb, hml, hown, hts⟩ (x_beginRange2 l dC dI cI cB cE (Eo ((p0 + 1).toNat)) (Er ((p0 + 1).toNat)) (En ((p0 + 1).toNat)) (Ez ((p0 + 1).toNat)) (EF ((p0 + 1).toNat)) (100000 + p1) H.size (hPE ((p0 + 1).toNat) hj21) (by omega) (by omega)) (cwV 1 hts (kx_gV kq_21_xcalls_70 kq_21_xcalls_71 kq_21_xcalls_72 kq_16_xentry_2 kq_21_xcalls_73 rfl) rfl rfl rfl (by decide +kernel) ⟨Nat.le_of_ble_eq_true rfl, Nat.le_of_ble_eq_true rfl⟩) ⟨kx_blind, va_recv hK hPc (ci := 0) (q0 := 0) rfl rfl, kx_give (ws := []) (tys := []) hPc hDc hK hG hZ hS hFc⟩ rfl rfl hl.1 rfl (lv_room (Nat.le_of_ble_eq_true rfl)) dX5_range_88 ⟨show (0 + dn_4) + 30 ≤ 200 from (by omega), show (0 + dm_5) + 9600 ≤ 60000 from (by omega)⟩) hS (fun q _ h => hFc q h) hFc (fun u dn_49 dm_50 t H locs ht hvm hq_48 hB hk1 hS => ?_)
              obtain ⟨q_51, z9_52, r4_53, n4_54, z4_55, F4_56, r5_57, n5_58, z5_59, F5_60, r6_61, n6_62, z6_63, F6_64⟩ := u
              obtain ⟨hP1, hK1, hD1⟩ := hB
              rw [ht] at hP1
              obtain ⟨hP, hD⟩ := xj_pool (wr := [(o 15, .inr (5, [.ref (o 16), .ref (Eo 0 0), .int (iz (z 12)), .int (iz (z 13)), .int (iz (z 14)), .ref (o 0), .ref (o 1), .int (iz (z 15)), .ref (o 13), .ref (o 14), .int (iz (z 16)), .ref (o 2), .ref (o 12), .ref (o 3), .ref (o 10), .ref (o 11)])), (o 16, .inl (cE, 80, .inr (.inr (.inr (.inr G))))), (o 0, .inr (1, [.int (iz 80), .ref (r 0), .int (iz (z 0))])), (r 0, .inl (cI, n 0, .inl (iA (F 0)))), (o 1, .inr (1, [.int (iz 80), .ref (r 1), .int (iz (z 1))])), (r 1, .inl (cI, n 1, .inl (iA (F 1)))), (o 2, .inr (1, [.int (iz 80), .ref (r 2), .int (iz (z 2))])), (r 2, .inl (cI, n 2, .inl (iA (F 2)))), (o 3, .inr (1, [.int (iz 80), .ref (r 3), .int (iz (z 3))])), (r 3, .inl (cI, n 3, .inl (iA (F 3)))), (o 13, .inr (3, [.ref (o 4), .ref (o 5), .ref (o 6)])), (o 4, .inr (1, [.int (iz 1600), .ref (r 4), .int (iz (z 4))])), (r 4, .inl (cI, n 4, .inl (iA (F 4)))), (o 5, .inr (1, [.int (iz 1600), .ref (r 5), .int (iz (z 5))])), (r 5, .inl (cI, n 5, .inl (iA (F 5)))), (o 6, .inr (1, [.int (iz 1600), .ref (r 6), .int (iz (z 6))])), (r 6, .inl (cI, n 6, .inl (iA (F 6)))), (o 14, .inr (3, [.ref (o 7), .ref (o 8), .ref (o 9)])), (o 7, .inr (1, [.int (iz 1600), .ref (r 7), .int (iz (z 7))])), (r 7, .inl (cI, n 7, .inl (iA (F 7)))), (o 8, .inr (1, [.int (iz 1600), .ref (r 8), .int (iz (z 8))])), (r 8, .inl (cI, n 8, .inl (iA (F 8)))), (o 9, .inr (1, [.int (iz 1600), .ref (r 9), .int (iz (z 9))])), (r 9, .inl (cI, n 9, .inl (iA (F 9)))), (o 12, .inr (4, [.int (iz (z 17)), .int (iz (z 18)), .int (iz (z 19)), .int (iz (z 20)), .int (iz (z 21))])), (o 10, .inr (2, [.ref (r 10), .int (iz (z 10)), .int (iz (z 22))])), (r 10, .inl (cB, n 10, .inl (iA (F 10)))), (o 11, .inr (2, [.ref (r 11), .int (iz (z 11)), .int (iz (z 23))])), (r 11, .inl (cB, n 11, .inl (iA (F 11))))]) (w1 := (eU cI (Eo ((p0 + 1).toNat)) (va_up (va_up (va_up (Er ((p0 + 1).toNat)) 4 r4_53) 5 r5_57) 6 r6_61) (va_up (va_up (va_up (En ((p0 + 1).toNat)) 4 n4_54) 5 n5_58) 6 n6_62) (va_up (va_up (va_up (va_up (Ez ((p0 + 1).toNat)) 4 z4_55) 5 z5_59) 6 z6_63) 9 z9_52) (va_up (va_up (va_up (EF ((p0 + 1).toNat)) 4 F4_56) 5 F5_60) 6 F6_64))) (ws' := ((xU cI cB cE o r n z F G (Eo 0 0)) ++ (eU cI (Eo ((p0 + 1).toNat)) (va_up (va_up (va_up (Er ((p0 + 1).toNat)) 4 r4_53) 5 r5_57) 6 r6_61) (va_up (va_up (va_up (En ((p0 + 1).toNat)) 4 n4_54) 5 n5_58) 6 n6_62) (va_up (va_up (va_up (va_up (Ez ((p0 + 1).toNat)) 4 z4_55) 5 z5_59) 6 z6_63) 9 z9_52) (va_up (va_up (va_up (EF ((p0 + 1).toNat)) 4 F4_56) 5 F5_60) 6 F6_64)))) hP hD [29, 30, 31, 32, 33, 34, 35, 36, 37, 38, 39, 40, 41, 42, 43, 44] [0, 1, 2, 3, 4, 5, 6, 7, 8, 9, 10, 11, 12, 13, 14, 15, 16, 17, 18, 19, 20, 21, 22, 23, 24, 25, 26, 27, 28] [0, 1, 2, 3, 4, 5, 6, 7, 8, 9, 10, 11, 12, 13, 14, 15, 16, 17, 18, 19, 20, 21, 22, 23, 24, 25, 26, 27, 28, 29, 30, 31, 32, 33, 34, 35, 36, 37, 38, 39, 40, 41, 42, 43, 44] rfl rfl (by decide) (by decide) hk1 hFc hP1 hD1 rfl (by decide)
              refine W.eq (g2 := F0 m 91 ls [.int (iz q_51)]) rfl ?_
              try dsimp only at hq_48
              obtain ⟨⟨ha65, hb465⟩, ⟨hb65, hb565⟩, ⟨hc65, hb665⟩, hd65, hr65⟩ := hq_48
              refine lv_istore (lv' := [(6, .int (iz q_51)), (5, .int (iz (100000 + p1))), (4, .ref (Eo ((p0 + 1).toNat) 0)), (0, .ref (o 15)), (1, .int (iz p0)), (2, .int (iz p1)), (3, .int (iz p2))]) hx hb dX5_range_91 hl (by decide) rfl (fun ls hl => ?_)
              refine lv_iload hx hb dX5_range_93 (lv_at hl 0 rfl) ?_
              refine ki_if_eq (tgt := 103) hx hb dX5_range_95 (by decide) (by omega) (by omega) (fun c_66 => ?_) (fun c_66 => ?_)
              · skip
                refine lv_iload hx hb dX5_range_103 (lv_at hl 0 rfl) ?_
                refine ki_if_eq (tgt := 112) hx hb dX5_range_105 (by decide) (by omega) (by omega) (fun c_67 => ?_) (fun c_67 => ?_)
                · skip
                  refine lv_iconst (v := iz 0) hx hb dX5_range_112 (by decide) ?_
                  have he_68 : 0 ≤ Ez ((p0 + 1).toNat) 4 ∧ Ez ((p0 + 1).toNat) 4 ≤ ((En ((p0 + 1).toNat) 4 : Nat) : Int) ∧ ((En ((p0 + 1).toNat) 4 : Nat) : Int) ≤ 20 := (hPE ((p0 + 1).toNat) hj21).1 4 (by decide)
                  have he_69 : 0 ≤ Ez ((p0 + 1).toNat) 5 ∧ Ez ((p0 + 1).toNat) 5 ≤ ((En ((p0 + 1).toNat) 5 : Nat) : Int) ∧ ((En ((p0 + 1).toNat) 5 : Nat) : Int) ≤ 20 := (hPE ((p0 + 1).toNat) hj21).1 5 (by decide)
                  have he_70 : 0 ≤ Ez ((p0 + 1).toNat) 6 ∧ Ez ((p0 + 1).toNat) 6 ≤ ((En ((p0 + 1).toNat) 6 : Nat) : Int) ∧ ((En ((p0 + 1).toNat) 6 : Nat) : Int) ≤ 20 := (hPE ((p0 + 1).toNat) hj21).1 6 (by decide)
                  have hP : va_P (dC, dI) kxCl (((xU cI cB cE o r n z F G (Eo 0 0)) ++ (eU cI (Eo ((p0 + 1).toNat)) (va_up (va_up (va_up (Er ((p0 + 1).toNat)) 4 r4_53) 5 r5_57) 6 r6_61) (va_up (va_up (va_up (En ((p0 + 1).toNat)) 4 n4_54) 5 n5_58) 6 n6_62) (va_up (va_up (va_up (va_up (Ez ((p0 + 1).toNat)) 4 z4_55) 5 z5_59) 6 z6_63) 9 z9_52) (va_up (va_up (va_up (EF ((p0 + 1).toNat)) 4 F4_56) 5 F5_60) 6 F6_64))) ++ (eR cI N ((p0 + 1).toNat) Eo Er En Ez EF)) H := hP
                  have hD : va_D A (((xU cI cB cE o r n z F G (Eo 0 0)) ++ (eU cI (Eo ((p0 + 1).toNat)) (va_up (va_up (va_up (Er ((p0 + 1).toNat)) 4 r4_53) 5 r5_57) 6 r6_61) (va_up (va_up (va_up (En ((p0 + 1).toNat)) 4 n4_54) 5 n5_58) 6 n6_62) (va_up (va_up (va_up (va_up (Ez ((p0 + 1).toNat)) 4 z4_55) 5 z5_59) 6 z6_63) 9 z9_52) (va_up (va_up (va_up (EF ((p0 + 1).toNat)) 4 F4_56) 5 F5_60) 6 F6_64))) ++ (eR cI N ((p0 + 1).toNat) Eo Er En Ez EF)) := hD
                  have hP := eP_unf hj21 hP
                  have hD := eD_unf hj21 hD
                  have hPE71 := hPE.up ((p0 + 1).toNat) (((((hPE ((p0 + 1).toNat) hj21).i 4 (by decide) (show 0 ≤ z4_55 ∧ z4_55 ≤ ((n4_54 : Nat) : Int) ∧ ((n4_54 : Nat) : Int) ≤ 20 by omega) hb465 (by omega)).i 5 (by decide) (show 0 ≤ z5_59 ∧ z5_59 ≤ ((n5_58 : Nat) : Int) ∧ ((n5_58 : Nat) : Int) ≤ 20 by omega) hb565 (by omega)).i 6 (by decide) (show 0 ≤ z6_63 ∧ z6_63 ≤ ((n6_62 : Nat) : Int) ∧ ((n6_62 : Nat) : Int) ≤ 20 by omega) hb665 (by omega)).sc 9 (by decide) (show -2147483648 ≤ z9_52 by omega) (show z9_52 < 2147483648 by omega))
                  have hef71 := hef.up ((p0 + 1).toNat) (z := (va_up (va_up (va_up (va_up (Ez ((p0 + 1).toNat)) 4 z4_55) 5 z5_59) 6 z6_63) 9 z9_52)) (n := (va_up (va_up (va_up (En ((p0 + 1).toNat)) 4 n4_54) 5 n5_58) 6 n6_62)) (F := (va_up (va_up (va_up (EF ((p0 + 1).toNat)) 4 F4_56) 5 F5_60) 6 F6_64)) (fun k hk => (vfr hk _ (by decide) (vfr hk _ (by decide) (vfr hk _ (by decide) (vfr hk _ (by decide) rfl))))) (fun k hk => ⟨(vfr hk _ (by decide) (vfr hk _ (by decide) (vfr hk _ (by decide) rfl))), (vfr hk _ (by decide) (vfr hk _ (by decide) (vfr hk _ (by decide) rfl)))⟩)
                  generalize eEr71 : va_up Er ((p0 + 1).toNat) (va_up (va_up (va_up (Er ((p0 + 1).toNat)) 4 r4_53) 5 r5_57) 6 r6_61) = Er71 at hP hD
                  generalize eEn71 : va_up En ((p0 + 1).toNat) (va_up (va_up (va_up (En ((p0 + 1).toNat)) 4 n4_54) 5 n5_58) 6 n6_62) = En71 at hP hD hPE71 hef71
                  generalize eEz71 : va_up Ez ((p0 + 1).toNat) (va_up (va_up (va_up (va_up (Ez ((p0 + 1).toNat)) 4 z4_55) 5 z5_59) 6 z6_63) 9 z9_52) = Ez71 at hP hD hPE71 hef71
                  generalize eEF71 : va_up EF ((p0 + 1).toNat) (va_up (va_up (va_up (EF ((p0 + 1).toNat)) 4 F4_56) 5 F5_60) 6 F6_64) = EF71 at hP hD hPE71 hef71
                  have hcl71_0 : Ez71 ((p0 + 1).toNat) 0 = Ez ((p0 + 1).toNat) 0 := by rw [← eEz71]; simp (decide := true) only [va_ev, ↓reduceIte]
                  have hcl71_4 : Ez71 ((p0 + 1).toNat) 4 = z4_55 := by rw [← eEz71]; simp (decide := true) only [va_ev, ↓reduceIte]
                  have hcl71_5 : Ez71 ((p0 + 1).toNat) 5 = z5_59 := by rw [← eEz71]; simp (decide := true) only [va_ev, ↓reduceIte]
                  have hcl71_6 : Ez71 ((p0 + 1).toNat) 6 = z6_63 := by rw [← eEz71]; simp (decide := true) only [va_ev, ↓reduceIte]
                  have hcl71_7 : Ez71 ((p0 + 1).toNat) 7 = Ez ((p0 + 1).toNat) 7 := by rw [← eEz71]; simp (decide := true) only [va_ev, ↓reduceIte]
                  have hcl71_9 : Ez71 ((p0 + 1).toNat) 9 = z9_52 := by rw [← eEz71]; simp (decide := true) only [va_ev, ↓reduceIte]
                  have hcF71_4 : EF71 ((p0 + 1).toNat) 4 = F4_56 := by rw [← eEF71]; simp (decide := true) only [va_ev, ↓reduceIte]
                  have hcF71_5 : EF71 ((p0 + 1).toNat) 5 = F5_60 := by rw [← eEF71]; simp (decide := true) only [va_ev, ↓reduceIte]
                  have hcF71_6 : EF71 ((p0 + 1).toNat) 6 = F6_64 := by rw [← eEF71]; simp (decide := true) only [va_ev, ↓reduceIte]
                  have hzo16 : z 16 = z 16 := rfl
                  refine vx_ret ?_
                  exact xk_iret (ov := (fun u : (Int) × (Nat → Nat) × (Nat → Nat) × (Nat → Int) × (Nat → Int → Int) × (Nat → Nat → Nat) × (Nat → Nat → Nat) × (Nat → Nat → Int) × (Nat → Nat → Int → Int) => match u with | (q, r', n', z', F', Er', En', Ez', EF') => some (.int (iz q)))) (post := (fun (u : (Int) × (Nat → Nat) × (Nat → Nat) × (Nat → Int) × (Nat → Int → Int) × (Nat → Nat → Nat) × (Nat → Nat → Nat) × (Nat → Nat → Int) × (Nat → Nat → Int → Int)) (dn dm : Nat) => match u with | (q, r', n', z', F', Er', En', Ez', EF') => xR [16] [] [4, 5, 6, 9] [4, 5, 6] N z F En Ez EF n' z' F' En' Ez' EF' ∧ (dn + xg n' ≤ xg n + 30 ∧ dm + xp n' ≤ xp n + 200) ∧ (((0 ≤ p0 ∧ p0 < z 12) ∧ (1 ≤ p1 ∧ p1 ≤ 99999) ∧ ((p2 = 0 ∧ 0 ≤ Ez ((p0 + 1).toNat) 9 ∧ q = 0 ∧ Ez' ((p0 + 1).toNat) 9 = Ez ((p0 + 1).toNat) 9 ∧ Ez' ((p0 + 1).toNat) 4 = Ez ((p0 + 1).toNat) 4 ∧ EF' ((p0 + 1).toNat) 4 = EF ((p0 + 1).toNat) 4) ∨ (p2 = 0 ∧ Ez ((p0 + 1).toNat) 9 < 0 ∧ Ez ((p0 + 1).toNat) 4 < 20 ∧ q = 1 ∧ Ez' ((p0 + 1).toNat) 9 = Ez ((p0 + 1).toNat) 4 ∧ Ez' ((p0 + 1).toNat) 4 = Ez ((p0 + 1).toNat) 4 + 1 ∧ EF' ((p0 + 1).toNat) 4 (Ez ((p0 + 1).toNat) 4) = 100000 + p1) ∨ (¬ p2 = 0 ∧ q = 0 ∧ Ez' ((p0 + 1).toNat) 9 = Ez ((p0 + 1).toNat) 9 ∧ Ez' ((p0 + 1).toNat) 4 = Ez ((p0 + 1).toNat) 4 ∧ EF' ((p0 + 1).toNat) 4 = EF ((p0 + 1).toNat) 4 ∧ (0 ≤ Ez ((p0 + 1).toNat) 9 → Ez ((p0 + 1).toNat) 9 < Ez ((p0 + 1).toNat) 4 → 100000 + p1 < EF ((p0 + 1).toNat) 4 (Ez ((p0 + 1).toNat) 9))) ∨ (¬ p2 = 0 ∧ q = 1 ∧ 0 ≤ Ez ((p0 + 1).toNat) 9 ∧ (Ez ((p0 + 1).toNat) 9 < Ez ((p0 + 1).toNat) 4 → EF ((p0 + 1).toNat) 4 (Ez ((p0 + 1).toNat) 9) ≤ 100000 + p1) ∧ Ez' ((p0 + 1).toNat) 9 = -1 ∧ Ez' ((p0 + 1).toNat) 4 = Ez ((p0 + 1).toNat) 4 ∧ EF' ((p0 + 1).toNat) 4 = EF ((p0 + 1).toNat) 4)) ∧ (∀ j, j ≠ ((p0 + 1).toNat) → Ez' j = Ez j ∧ EF' j = EF j)) ∧ ((q = 0 ∧ z' 16 = z 16 ∧ Ez' ((p0 + 1).toNat) 4 = Ez ((p0 + 1).toNat) 4 ∧ EF' ((p0 + 1).toNat) 4 = EF ((p0 + 1).toNat) 4 ∧ Ez' ((p0 + 1).toNat) 5 = Ez ((p0 + 1).toNat) 5 ∧ EF' ((p0 + 1).toNat) 5 = EF ((p0 + 1).toNat) 5 ∧ Ez' ((p0 + 1).toNat) 6 = Ez ((p0 + 1).toNat) 6 ∧ EF' ((p0 + 1).toNat) 6 = EF ((p0 + 1).toNat) 6) ∨ (q = 1 ∧ z' 16 = -1 ∧ p2 = 0 ∧ (iAdd 20 (Ez ((p0 + 1).toNat) 4) (EF ((p0 + 1).toNat) 4) (Ez' ((p0 + 1).toNat) 4) (EF' ((p0 + 1).toNat) 4) (100000 + p1) ∧ iAdd 20 (Ez ((p0 + 1).toNat) 5) (EF ((p0 + 1).toNat) 5) (Ez' ((p0 + 1).toNat) 5) (EF' ((p0 + 1).toNat) 5) (100000 + p1) ∧ iAdd 20 (Ez ((p0 + 1).toNat) 6) (EF ((p0 + 1).toNat) 6) (Ez' ((p0 + 1).toNat) 6) (EF' ((p0 + 1).toNat) 6) 0)) ∨ (q = 1 ∧ z' 16 = -1 ∧ ¬ p2 = 0 ∧ (Ez' ((p0 + 1).toNat) 4 = Ez ((p0 + 1).toNat) 4 ∧ Ez' ((p0 + 1).toNat) 5 = Ez ((p0 + 1).toNat) 5 ∧ Ez' ((p0 + 1).toNat) 6 = Ez ((p0 + 1).toNat) 6) ∧ EF' ((p0 + 1).toNat) 4 = EF ((p0 + 1).toNat) 4 ∧ EF' ((p0 + 1).toNat) 5 = upI (EF ((p0 + 1).toNat) 5) (Ez ((p0 + 1).toNat) 9) (100000 + p1) ∧ EF' ((p0 + 1).toNat) 6 = upI (EF ((p0 + 1).toNat) 6) (Ez ((p0 + 1).toNat) 9) 1))))) (ws := (fun u : (Int) × (Nat → Nat) × (Nat → Nat) × (Nat → Int) × (Nat → Int → Int) × (Nat → Nat → Nat) × (Nat → Nat → Nat) × (Nat → Nat → Int) × (Nat → Nat → Int → Int) => match u with | (q, r', n', z', F', Er', En', Ez', EF') => (xU cI cB cE o r' n' z' F' G (Eo 0 0) ++ eP cI N Eo Er' En' Ez' EF'))) (tys := xT cI cB cE) (z := 0) (0, r, n, z, F, Er71, En71, Ez71, EF71) hx hb hr rfl hlocks rfl hP hD hK hS dX5_range_113 (fun dn dm hdn hdm => ⟨⟨hok, hfr, hPE71, hef71⟩, ⟨by omega, by omega⟩, by rcases hr65 with ⟨h1, h2, h3, h5, h6, h7, h8, h10, h11⟩ | ⟨h1, h2, h3, h5, h6, h7⟩; exact ⟨⟨by omega, by omega, Or.inl ⟨by omega, by omega, by omega, by omega, by omega, by rw [hcF71_4, h6]⟩, fun j hj => ⟨by rw [← eEz71]; exact va_up_ne _ _ hj, by rw [← eEF71]; exact va_up_ne _ _ hj⟩⟩, Or.inl ⟨by omega, by first | rfl | omega, by omega, by rw [hcF71_4, h6], by omega, by rw [hcF71_5, h8], by omega, by rw [hcF71_6, h11]⟩⟩; rcases h5.1 with ⟨x1, x2⟩ | ⟨x1, x2, x3⟩; (exfalso; omega); exact ⟨⟨by omega, by omega, Or.inr (Or.inl ⟨by omega, by omega, by omega, by omega, by omega, by omega, by rw [hcF71_4]; exact x3⟩), fun j hj => ⟨by rw [← eEz71]; exact va_up_ne _ _ hj, by rw [← eEF71]; exact va_up_ne _ _ hj⟩⟩, Or.inr (Or.inl ⟨by omega, by first | rfl | omega, by omega, ⟨(by rw [hcl71_4, hcF71_4]; exact h5), (by rw [hcl71_5, hcF71_5]; exact h6), (by rw [hcl71_6, hcF71_6]; exact h7)⟩⟩)⟩⟩) (by omega) (by omega)
                · omega
              · skip
                refine lv_aload_n hx hb dX5_range_98 rfl (lv_at hl 3 rfl) ?_
                refine lv_iconst (v := iz (-1)) hx hb dX5_range_99 (by decide) ?_
                refine va_put (D := (dC, dI)) (ci := 5) (v := .int (iz (-1))) (ty := .int) (C := RX5) (T := TX5) (N := 16) hx hb hts kt_X5 tyX5 tyX5_ok nmX5 hown hK hP hD hS 0 rfl rfl 10 (by decide) (kx_word hG kq_18_xrows_26 rfl) (fun _ h9 => h9) rfl (by decide +kernel) rfl rfl (Nat.le_of_ble_eq_true rfl) dX5_range_100 (fun H locs hP hD hS => ?_)
                have hP : va_P (dC, dI) kxCl (((xU cI cB cE o r n (va_up z 16 (-1)) F G (Eo 0 0)) ++ (eU cI (Eo ((p0 + 1).toNat)) (va_up (va_up (va_up (Er ((p0 + 1).toNat)) 4 r4_53) 5 r5_57) 6 r6_61) (va_up (va_up (va_up (En ((p0 + 1).toNat)) 4 n4_54) 5 n5_58) 6 n6_62) (va_up (va_up (va_up (va_up (Ez ((p0 + 1).toNat)) 4 z4_55) 5 z5_59) 6 z6_63) 9 z9_52) (va_up (va_up (va_up (EF ((p0 + 1).toNat)) 4 F4_56) 5 F5_60) 6 F6_64))) ++ (eR cI N ((p0 + 1).toNat) Eo Er En Ez EF)) H := hP
                have hD : va_D A (((xU cI cB cE o r n (va_up z 16 (-1)) F G (Eo 0 0)) ++ (eU cI (Eo ((p0 + 1).toNat)) (va_up (va_up (va_up (Er ((p0 + 1).toNat)) 4 r4_53) 5 r5_57) 6 r6_61) (va_up (va_up (va_up (En ((p0 + 1).toNat)) 4 n4_54) 5 n5_58) 6 n6_62) (va_up (va_up (va_up (va_up (Ez ((p0 + 1).toNat)) 4 z4_55) 5 z5_59) 6 z6_63) 9 z9_52) (va_up (va_up (va_up (EF ((p0 + 1).toNat)) 4 F4_56) 5 F5_60) 6 F6_64))) ++ (eR cI N ((p0 + 1).toNat) Eo Er En Ez EF)) := hD
                refine lv_iload hx hb dX5_range_103 (lv_at hl 0 rfl) ?_
                refine ki_if_eq (tgt := 112) hx hb dX5_range_105 (by decide) (by omega) (by omega) (fun c_72 => ?_) (fun c_72 => ?_)
                · omega
                · skip
                  refine lv_iconst (v := iz 1) hx hb dX5_range_108 (by decide) ?_
                  refine lv_goto (tgt := 113) hx hb dX5_range_109 (by decide) ?_
                  have he_73 : 0 ≤ Ez ((p0 + 1).toNat) 4 ∧ Ez ((p0 + 1).toNat) 4 ≤ ((En ((p0 + 1).toNat) 4 : Nat) : Int) ∧ ((En ((p0 + 1).toNat) 4 : Nat) : Int) ≤ 20 := (hPE ((p0 + 1).toNat) hj21).1 4 (by decide)
                  have he_74 : 0 ≤ Ez ((p0 + 1).toNat) 5 ∧ Ez ((p0 + 1).toNat) 5 ≤ ((En ((p0 + 1).toNat) 5 : Nat) : Int) ∧ ((En ((p0 + 1).toNat) 5 : Nat) : Int) ≤ 20 := (hPE ((p0 + 1).toNat) hj21).1 5 (by decide)
                  have he_75 : 0 ≤ Ez ((p0 + 1).toNat) 6 ∧ Ez ((p0 + 1).toNat) 6 ≤ ((En ((p0 + 1).toNat) 6 : Nat) : Int) ∧ ((En ((p0 + 1).toNat) 6 : Nat) : Int) ≤ 20 := (hPE ((p0 + 1).toNat) hj21).1 6 (by decide)
                  have hP : va_P (dC, dI) kxCl (((xU cI cB cE o r n (va_up z 16 (-1)) F G (Eo 0 0)) ++ (eU cI (Eo ((p0 + 1).toNat)) (va_up (va_up (va_up (Er ((p0 + 1).toNat)) 4 r4_53) 5 r5_57) 6 r6_61) (va_up (va_up (va_up (En ((p0 + 1).toNat)) 4 n4_54) 5 n5_58) 6 n6_62) (va_up (va_up (va_up (va_up (Ez ((p0 + 1).toNat)) 4 z4_55) 5 z5_59) 6 z6_63) 9 z9_52) (va_up (va_up (va_up (EF ((p0 + 1).toNat)) 4 F4_56) 5 F5_60) 6 F6_64))) ++ (eR cI N ((p0 + 1).toNat) Eo Er En Ez EF)) H := hP
                  have hD : va_D A (((xU cI cB cE o r n (va_up z 16 (-1)) F G (Eo 0 0)) ++ (eU cI (Eo ((p0 + 1).toNat)) (va_up (va_up (va_up (Er ((p0 + 1).toNat)) 4 r4_53) 5 r5_57) 6 r6_61) (va_up (va_up (va_up (En ((p0 + 1).toNat)) 4 n4_54) 5 n5_58) 6 n6_62) (va_up (va_up (va_up (va_up (Ez ((p0 + 1).toNat)) 4 z4_55) 5 z5_59) 6 z6_63) 9 z9_52) (va_up (va_up (va_up (EF ((p0 + 1).toNat)) 4 F4_56) 5 F5_60) 6 F6_64))) ++ (eR cI N ((p0 + 1).toNat) Eo Er En Ez EF)) := hD
                  have hP := eP_unf hj21 hP
                  have hD := eD_unf hj21 hD
                  have hPE76 := hPE.up ((p0 + 1).toNat) (((((hPE ((p0 + 1).toNat) hj21).i 4 (by decide) (show 0 ≤ z4_55 ∧ z4_55 ≤ ((n4_54 : Nat) : Int) ∧ ((n4_54 : Nat) : Int) ≤ 20 by omega) hb465 (by omega)).i 5 (by decide) (show 0 ≤ z5_59 ∧ z5_59 ≤ ((n5_58 : Nat) : Int) ∧ ((n5_58 : Nat) : Int) ≤ 20 by omega) hb565 (by omega)).i 6 (by decide) (show 0 ≤ z6_63 ∧ z6_63 ≤ ((n6_62 : Nat) : Int) ∧ ((n6_62 : Nat) : Int) ≤ 20 by omega) hb665 (by omega)).sc 9 (by decide) (show -2147483648 ≤ z9_52 by omega) (show z9_52 < 2147483648 by omega))
                  have hef76 := hef.up ((p0 + 1).toNat) (z := (va_up (va_up (va_up (va_up (Ez ((p0 + 1).toNat)) 4 z4_55) 5 z5_59) 6 z6_63) 9 z9_52)) (n := (va_up (va_up (va_up (En ((p0 + 1).toNat)) 4 n4_54) 5 n5_58) 6 n6_62)) (F := (va_up (va_up (va_up (EF ((p0 + 1).toNat)) 4 F4_56) 5 F5_60) 6 F6_64)) (fun k hk => (vfr hk _ (by decide) (vfr hk _ (by decide) (vfr hk _ (by decide) (vfr hk _ (by decide) rfl))))) (fun k hk => ⟨(vfr hk _ (by decide) (vfr hk _ (by decide) (vfr hk _ (by decide) rfl))), (vfr hk _ (by decide) (vfr hk _ (by decide) (vfr hk _ (by decide) rfl)))⟩)
                  generalize eEr76 : va_up Er ((p0 + 1).toNat) (va_up (va_up (va_up (Er ((p0 + 1).toNat)) 4 r4_53) 5 r5_57) 6 r6_61) = Er76 at hP hD
                  generalize eEn76 : va_up En ((p0 + 1).toNat) (va_up (va_up (va_up (En ((p0 + 1).toNat)) 4 n4_54) 5 n5_58) 6 n6_62) = En76 at hP hD hPE76 hef76
                  generalize eEz76 : va_up Ez ((p0 + 1).toNat) (va_up (va_up (va_up (va_up (Ez ((p0 + 1).toNat)) 4 z4_55) 5 z5_59) 6 z6_63) 9 z9_52) = Ez76 at hP hD hPE76 hef76
                  generalize eEF76 : va_up EF ((p0 + 1).toNat) (va_up (va_up (va_up (EF ((p0 + 1).toNat)) 4 F4_56) 5 F5_60) 6 F6_64) = EF76 at hP hD hPE76 hef76
                  have hcl76_0 : Ez76 ((p0 + 1).toNat) 0 = Ez ((p0 + 1).toNat) 0 := by rw [← eEz76]; simp (decide := true) only [va_ev, ↓reduceIte]
                  have hcl76_4 : Ez76 ((p0 + 1).toNat) 4 = z4_55 := by rw [← eEz76]; simp (decide := true) only [va_ev, ↓reduceIte]
                  have hcl76_5 : Ez76 ((p0 + 1).toNat) 5 = z5_59 := by rw [← eEz76]; simp (decide := true) only [va_ev, ↓reduceIte]
                  have hcl76_6 : Ez76 ((p0 + 1).toNat) 6 = z6_63 := by rw [← eEz76]; simp (decide := true) only [va_ev, ↓reduceIte]
                  have hcl76_7 : Ez76 ((p0 + 1).toNat) 7 = Ez ((p0 + 1).toNat) 7 := by rw [← eEz76]; simp (decide := true) only [va_ev, ↓reduceIte]
                  have hcl76_9 : Ez76 ((p0 + 1).toNat) 9 = z9_52 := by rw [← eEz76]; simp (decide := true) only [va_ev, ↓reduceIte]
                  have hcF76_4 : EF76 ((p0 + 1).toNat) 4 = F4_56 := by rw [← eEF76]; simp (decide := true) only [va_ev, ↓reduceIte]
                  have hcF76_5 : EF76 ((p0 + 1).toNat) 5 = F5_60 := by rw [← eEF76]; simp (decide := true) only [va_ev, ↓reduceIte]
                  have hcF76_6 : EF76 ((p0 + 1).toNat) 6 = F6_64 := by rw [← eEF76]; simp (decide := true) only [va_ev, ↓reduceIte]
                  have hxz_77 : -2147483648 ≤ z 16 ∧ z 16 < 2147483648 := hok.2.2.2.1 16
                  have hok78 : xOk n (va_up z 16 (-1)) F := (hok.s 16 (by decide) (show -2147483648 ≤ (-1) ∧ (-1) < 2147483648 by omega) (by omega))
                  have hfr78 : xFr [16] [] z F (va_up z 16 (-1)) F := (hfr.uz 16 (by decide) _)
                  have hzo16 : (va_up z 16 (-1)) 16 = (-1) := rfl
                  refine vx_ret ?_
                  exact xk_iret (ov := (fun u : (Int) × (Nat → Nat) × (Nat → Nat) × (Nat → Int) × (Nat → Int → Int) × (Nat → Nat → Nat) × (Nat → Nat → Nat) × (Nat → Nat → Int) × (Nat → Nat → Int → Int) => match u with | (q, r', n', z', F', Er', En', Ez', EF') => some (.int (iz q)))) (post := (fun (u : (Int) × (Nat → Nat) × (Nat → Nat) × (Nat → Int) × (Nat → Int → Int) × (Nat → Nat → Nat) × (Nat → Nat → Nat) × (Nat → Nat → Int) × (Nat → Nat → Int → Int)) (dn dm : Nat) => match u with | (q, r', n', z', F', Er', En', Ez', EF') => xR [16] [] [4, 5, 6, 9] [4, 5, 6] N z F En Ez EF n' z' F' En' Ez' EF' ∧ (dn + xg n' ≤ xg n + 30 ∧ dm + xp n' ≤ xp n + 200) ∧ (((0 ≤ p0 ∧ p0 < z 12) ∧ (1 ≤ p1 ∧ p1 ≤ 99999) ∧ ((p2 = 0 ∧ 0 ≤ Ez ((p0 + 1).toNat) 9 ∧ q = 0 ∧ Ez' ((p0 + 1).toNat) 9 = Ez ((p0 + 1).toNat) 9 ∧ Ez' ((p0 + 1).toNat) 4 = Ez ((p0 + 1).toNat) 4 ∧ EF' ((p0 + 1).toNat) 4 = EF ((p0 + 1).toNat) 4) ∨ (p2 = 0 ∧ Ez ((p0 + 1).toNat) 9 < 0 ∧ Ez ((p0 + 1).toNat) 4 < 20 ∧ q = 1 ∧ Ez' ((p0 + 1).toNat) 9 = Ez ((p0 + 1).toNat) 4 ∧ Ez' ((p0 + 1).toNat) 4 = Ez ((p0 + 1).toNat) 4 + 1 ∧ EF' ((p0 + 1).toNat) 4 (Ez ((p0 + 1).toNat) 4) = 100000 + p1) ∨ (¬ p2 = 0 ∧ q = 0 ∧ Ez' ((p0 + 1).toNat) 9 = Ez ((p0 + 1).toNat) 9 ∧ Ez' ((p0 + 1).toNat) 4 = Ez ((p0 + 1).toNat) 4 ∧ EF' ((p0 + 1).toNat) 4 = EF ((p0 + 1).toNat) 4 ∧ (0 ≤ Ez ((p0 + 1).toNat) 9 → Ez ((p0 + 1).toNat) 9 < Ez ((p0 + 1).toNat) 4 → 100000 + p1 < EF ((p0 + 1).toNat) 4 (Ez ((p0 + 1).toNat) 9))) ∨ (¬ p2 = 0 ∧ q = 1 ∧ 0 ≤ Ez ((p0 + 1).toNat) 9 ∧ (Ez ((p0 + 1).toNat) 9 < Ez ((p0 + 1).toNat) 4 → EF ((p0 + 1).toNat) 4 (Ez ((p0 + 1).toNat) 9) ≤ 100000 + p1) ∧ Ez' ((p0 + 1).toNat) 9 = -1 ∧ Ez' ((p0 + 1).toNat) 4 = Ez ((p0 + 1).toNat) 4 ∧ EF' ((p0 + 1).toNat) 4 = EF ((p0 + 1).toNat) 4)) ∧ (∀ j, j ≠ ((p0 + 1).toNat) → Ez' j = Ez j ∧ EF' j = EF j)) ∧ ((q = 0 ∧ z' 16 = z 16 ∧ Ez' ((p0 + 1).toNat) 4 = Ez ((p0 + 1).toNat) 4 ∧ EF' ((p0 + 1).toNat) 4 = EF ((p0 + 1).toNat) 4 ∧ Ez' ((p0 + 1).toNat) 5 = Ez ((p0 + 1).toNat) 5 ∧ EF' ((p0 + 1).toNat) 5 = EF ((p0 + 1).toNat) 5 ∧ Ez' ((p0 + 1).toNat) 6 = Ez ((p0 + 1).toNat) 6 ∧ EF' ((p0 + 1).toNat) 6 = EF ((p0 + 1).toNat) 6) ∨ (q = 1 ∧ z' 16 = -1 ∧ p2 = 0 ∧ (iAdd 20 (Ez ((p0 + 1).toNat) 4) (EF ((p0 + 1).toNat) 4) (Ez' ((p0 + 1).toNat) 4) (EF' ((p0 + 1).toNat) 4) (100000 + p1) ∧ iAdd 20 (Ez ((p0 + 1).toNat) 5) (EF ((p0 + 1).toNat) 5) (Ez' ((p0 + 1).toNat) 5) (EF' ((p0 + 1).toNat) 5) (100000 + p1) ∧ iAdd 20 (Ez ((p0 + 1).toNat) 6) (EF ((p0 + 1).toNat) 6) (Ez' ((p0 + 1).toNat) 6) (EF' ((p0 + 1).toNat) 6) 0)) ∨ (q = 1 ∧ z' 16 = -1 ∧ ¬ p2 = 0 ∧ (Ez' ((p0 + 1).toNat) 4 = Ez ((p0 + 1).toNat) 4 ∧ Ez' ((p0 + 1).toNat) 5 = Ez ((p0 + 1).toNat) 5 ∧ Ez' ((p0 + 1).toNat) 6 = Ez ((p0 + 1).toNat) 6) ∧ EF' ((p0 + 1).toNat) 4 = EF ((p0 + 1).toNat) 4 ∧ EF' ((p0 + 1).toNat) 5 = upI (EF ((p0 + 1).toNat) 5) (Ez ((p0 + 1).toNat) 9) (100000 + p1) ∧ EF' ((p0 + 1).toNat) 6 = upI (EF ((p0 + 1).toNat) 6) (Ez ((p0 + 1).toNat) 9) 1))))) (ws := (fun u : (Int) × (Nat → Nat) × (Nat → Nat) × (Nat → Int) × (Nat → Int → Int) × (Nat → Nat → Nat) × (Nat → Nat → Nat) × (Nat → Nat → Int) × (Nat → Nat → Int → Int) => match u with | (q, r', n', z', F', Er', En', Ez', EF') => (xU cI cB cE o r' n' z' F' G (Eo 0 0) ++ eP cI N Eo Er' En' Ez' EF'))) (tys := xT cI cB cE) (z := 1) (1, r, n, (va_up z 16 (-1)), F, Er76, En76, Ez76, EF76) hx hb hr rfl hlocks rfl hP hD hK hS dX5_range_113 (fun dn dm hdn hdm => ⟨⟨hok78, hfr78, hPE76, hef76⟩, ⟨by omega, by omega⟩, by rcases hr65 with ⟨h1, h2, h3, h5, h6, h7, h8, h10, h11⟩ | ⟨h1, h2, h3, h5, h6, h7⟩; exact ⟨⟨by omega, by omega, Or.inl ⟨by omega, by omega, by omega, by omega, by omega, by rw [hcF76_4, h6]⟩, fun j hj => ⟨by rw [← eEz76]; exact va_up_ne _ _ hj, by rw [← eEF76]; exact va_up_ne _ _ hj⟩⟩, Or.inl ⟨by omega, by first | rfl | omega, by omega, by rw [hcF76_4, h6], by omega, by rw [hcF76_5, h8], by omega, by rw [hcF76_6, h11]⟩⟩; rcases h5.1 with ⟨x1, x2⟩ | ⟨x1, x2, x3⟩; (exfalso; omega); exact ⟨⟨by omega, by omega, Or.inr (Or.inl ⟨by omega, by omega, by omega, by omega, by omega, by omega, by rw [hcF76_4]; exact x3⟩), fun j hj => ⟨by rw [← eEz76]; exact va_up_ne _ _ hj, by rw [← eEF76]; exact va_up_ne _ _ hj⟩⟩, Or.inr (Or.inl ⟨by omega, by first | rfl | omega, by omega, ⟨(by rw [hcl76_4, hcF76_4]; exact h5), (by rw [hcl76_5, hcF76_5]; exact h6), (by rw [hcl76_6, hcF76_6]; exact h7)⟩⟩)⟩⟩) (by omega) (by omega)
            · omega
          · skip
            refine lv_aload hx hb dX5_range_45 (lv_at hl 0 rfl) ?_
            refine va_getN (D := (dC, dI)) (ci := 0) (v := .ref (Eo ((p0 + 1).toNat) 5)) (C := RX0) (T := TX0) (N := 12) hx hb hts kt_X0 hown hK hP 29 rfl rfl 5 (by decide) (va_Nw.use rfl (kx_nf hG kq_19_xouts_22)) (fun _ h9 => h9) rfl dX5_range_47 ?_
            have he_79 : 0 ≤ Ez ((p0 + 1).toNat) 4 ∧ Ez ((p0 + 1).toNat) 4 ≤ ((En ((p0 + 1).toNat) 4 : Nat) : Int) ∧ ((En ((p0 + 1).toNat) 4 : Nat) : Int) ≤ 20 := (hPE ((p0 + 1).toNat) hj21).1 4 (by decide)
            have he_80 : 0 ≤ Ez ((p0 + 1).toNat) 5 ∧ Ez ((p0 + 1).toNat) 5 ≤ ((En ((p0 + 1).toNat) 5 : Nat) : Int) ∧ ((En ((p0 + 1).toNat) 5 : Nat) : Int) ≤ 20 := (hPE ((p0 + 1).toNat) hj21).1 5 (by decide)
            have he_81 : 0 ≤ Ez ((p0 + 1).toNat) 6 ∧ Ez ((p0 + 1).toNat) 6 ≤ ((En ((p0 + 1).toNat) 6 : Nat) : Int) ∧ ((En ((p0 + 1).toNat) 6 : Nat) : Int) ≤ 20 := (hPE ((p0 + 1).toNat) hj21).1 6 (by decide)
            have hPc := hP.sub (ws' := (sU cI 20 (Eo ((p0 + 1).toNat) 5) (Eo ((p0 + 1).toNat) 6) (Eo ((p0 + 1).toNat) 7) (Eo ((p0 + 1).toNat) 8) (Er ((p0 + 1).toNat) 4) (Er ((p0 + 1).toNat) 5) (Er ((p0 + 1).toNat) 6) (En ((p0 + 1).toNat) 4) (En ((p0 + 1).toNat) 5) (En ((p0 + 1).toNat) 6) (Ez ((p0 + 1).toNat) 4) (Ez ((p0 + 1).toNat) 5) (Ez ((p0 + 1).toNat) 6) (EF ((p0 + 1).toNat) 4) (EF ((p0 + 1).toNat) 5) (EF ((p0 + 1).toNat) 6))) [38, 39, 40, 41, 42, 43, 44] rfl
            refine xk_pure (va_runV (As := []) (rest := []) ⟨hx, hb, hml, hown, hts⟩ (x_sfull l dC dI cI cB cE 20 (Eo ((p0 + 1).toNat) 5) (Eo ((p0 + 1).toNat) 6) (Eo ((p0 + 1).toNat) 7) (Eo ((p0 + 1).toNat) 8) (Er ((p0 + 1).toNat) 4) (Er ((p0 + 1).toNat) 5) (Er ((p0 + 1).toNat) 6) (En ((p0 + 1).toNat) 4) (En ((p0 + 1).toNat) 5) (En ((p0 + 1).toNat) 6) (Ez ((p0 + 1).toNat) 4) (Ez ((p0 + 1).toNat) 5) (Ez ((p0 + 1).toNat) 6) (EF ((p0 + 1).toNat) 4) (EF ((p0 + 1).toNat) 5) (EF ((p0 + 1).toNat) 6)  H.size (by omega) ((hPE ((p0 + 1).toNat) hj21).2.1 4) (by omega) ((hPE ((p0 + 1).toNat) hj21).2.1 5) (by omega) ((hPE ((p0 + 1).toNat) hj21).2.1 6)) (cwV 0 hts (kx_gV kq_21_xcalls_21 kq_21_xcalls_22 kq_21_xcalls_23 kq_15_xspan_53 kq_21_xcalls_24 rfl) rfl rfl rfl (by decide +kernel) ⟨Nat.le_of_ble_eq_true rfl, Nat.le_of_ble_eq_true rfl⟩) ⟨pPre_blind, va_recv hK hPc (ci := 3) (q0 := 0) rfl rfl, pPre_give hPc hK hG⟩ rfl rfl hl.1 rfl (lv_room (Nat.le_of_ble_eq_true rfl)) dX5_range_50 ⟨show (0 + dn_4) + 0 ≤ 200 from (by omega), show (0 + dm_5) + 0 ≤ 60000 from (by omega)⟩) hS (fun z_83 locs hq_82 hS => ?_)
            refine W.eq (g2 := F0 m 53 ls [.int (iz z_83)]) rfl ?_
            try dsimp only at hq_82
            rcases hq_82 with ⟨rfl, hq_82⟩ | ⟨rfl, hq_82⟩
            · skip
              refine ki_if_eq (tgt := 64) hx hb dX5_range_53 (by decide) (by omega) (by omega) (fun c_84 => ?_) (fun c_84 => ?_)
              · omega
              · skip
                have hP := eP_un0 hj21 hP
                have hD := eD_un0 hj21 hD
                exact ky_thr_UOE hx hb hlf hown hG hZ hS (hl.1.trans hml.symm) dX5_range_56 dX5_range_59 dX5_range_60 dX5_range_63 htab (Nat.le_of_ble_eq_true rfl) (Nat.le_of_ble_eq_true rfl) (show (0 + dn_4) + 1 ≤ 200 from (by omega)) (show (0 + dm_5) + 6 ≤ 60000 from (by omega)) hlocks (Or.inr (Or.inr (⟨rfl, by first | trivial | omega⟩))) (fun t hvm h1 h2 => ⟨(r, n, z, F, Er, En, Ez, EF), ⟨hok, xFr.rf, hPE, eFr.rf⟩, hP.kept (fun k q hk => h2 q.1 (hP k q hk).lt), va_K.moved hvm hK, hD⟩) hS.2.2 (by omega) (by omega) (by omega) (by omega)
            · skip
              refine ki_if_eq (tgt := 64) hx hb dX5_range_53 (by decide) (by omega) (by omega) (fun c_85 => ?_) (fun c_85 => ?_)
              · skip
                refine lv_ldc (v := 100000) hx hb hown (kx_word hG kq_19_xouts_55 rfl) dX5_range_64 ?_
                refine ki_is (show (100000 : Int32) = iz 100000 by decide) ?_
                refine lv_iload_n hx hb dX5_range_66 rfl (lv_at hl 3 rfl) ?_
                refine ki_iadd hx hb dX5_range_67 ?_
                refine lv_istore (lv' := [(5, .int (iz (100000 + p1))), (4, .ref (Eo ((p0 + 1).toNat) 0)), (0, .ref (o 15)), (1, .int (iz p0)), (2, .int (iz p1)), (3, .int (iz p2))]) hx hb dX5_range_68 hl (by decide) rfl (fun ls hl => ?_)
                refine lv_iload_n hx hb dX5_range_70 rfl (lv_at hl 5 rfl) ?_
                refine ki_if_eq (tgt := 84) hx hb dX5_range_71 (by decide) (by omega) (by omega) (fun c_86 => ?_) (fun c_86 => ?_)
                · skip
                  refine lv_aload hx hb dX5_range_84 (lv_at hl 1 rfl) ?_
                  refine lv_iload hx hb dX5_range_86 (lv_at hl 0 rfl) ?_
                  have hPc := hP.sub (ws' := (eU cI (Eo ((p0 + 1).toNat)) (Er ((p0 + 1).toNat)) (En ((p0 + 1).toNat)) (Ez ((p0 + 1).toNat)) (EF ((p0 + 1).toNat)))) [29, 30, 31, 32, 33, 34, 35, 36, 37, 38, 39, 40, 41, 42, 43, 44] rfl
                  have hDc := hD.sub (ws' := (eU cI (Eo ((p0 + 1).toNat)) (Er ((p0 + 1).toNat)) (En ((p0 + 1).toNat)) (Ez ((p0 + 1).toNat)) (EF ((p0 + 1).toNat)))) [29, 30, 31, 32, 33, 34, 35, 36, 37, 38, 39, 40, 41, 42, 43, 44] (by decide) rfl
                  have hFc := va_free (wc := (eU cI (Eo ((p0 + 1).toNat)) (Er ((p0 + 1).toNat)) (En ((p0 + 1).toNat)) (Ez ((p0 + 1).toNat)) (EF ((p0 + 1).toNat)))) hD hS hA [29, 30, 31, 32, 33, 34, 35, 36, 37, 38, 39, 40, 41, 42, 43, 44] rfl
                  refine xk_call (va_runV (As := [.int (iz (100000 + p1))]) (rest := []) ⟨hx, hb, hml, hown, hts⟩ (x_beginRange2 l dC dI cI cB cE (Eo ((p0 + 1).toNat)) (Er ((p0 + 1).toNat)) (En ((p0 + 1).toNat)) (Ez ((p0 + 1).toNat)) (EF ((p0 + 1).toNat)) (100000 + p1) H.size (hPE ((p0 + 1).toNat) hj21) (by omega) (by omega)) (cwV 1 hts (kx_gV kq_21_xcalls_70 kq_21_xcalls_71 kq_21_xcalls_72 kq_16_xentry_2 kq_21_xcalls_73 rfl) rfl rfl rfl (by decide +kernel) ⟨Nat.le_of_ble_eq_true rfl, Nat.le_of_ble_eq_true rfl⟩) ⟨kx_blind, va_recv hK hPc (ci := 0) (q0 := 0) rfl rfl, kx_give (ws := []) (tys := []) hPc hDc hK hG hZ hS hFc⟩ rfl rfl hl.1 rfl (lv_room (Nat.le_of_ble_eq_true rfl)) dX5_range_88 ⟨show (0 + dn_4) + 30 ≤ 200 from (by omega), show (0 + dm_5) + 9600 ≤ 60000 from (by omega)⟩) hS (fun q _ h => hFc q h) hFc (fun u dn_88 dm_89 t H locs ht hvm hq_87 hB hk1 hS => ?_)
                  obtain ⟨q_90, z9_91, r4_92, n4_93, z4_94, F4_95, r5_96, n5_97, z5_98, F5_99, r6_100, n6_101, z6_102, F6_103⟩ := u
                  obtain ⟨hP1, hK1, hD1⟩ := hB
                  rw [ht] at hP1
                  obtain ⟨hP, hD⟩ := xj_pool (wr := [(o 15, .inr (5, [.ref (o 16), .ref (Eo 0 0), .int (iz (z 12)), .int (iz (z 13)), .int (iz (z 14)), .ref (o 0), .ref (o 1), .int (iz (z 15)), .ref (o 13), .ref (o 14), .int (iz (z 16)), .ref (o 2), .ref (o 12), .ref (o 3), .ref (o 10), .ref (o 11)])), (o 16, .inl (cE, 80, .inr (.inr (.inr (.inr G))))), (o 0, .inr (1, [.int (iz 80), .ref (r 0), .int (iz (z 0))])), (r 0, .inl (cI, n 0, .inl (iA (F 0)))), (o 1, .inr (1, [.int (iz 80), .ref (r 1), .int (iz (z 1))])), (r 1, .inl (cI, n 1, .inl (iA (F 1)))), (o 2, .inr (1, [.int (iz 80), .ref (r 2), .int (iz (z 2))])), (r 2, .inl (cI, n 2, .inl (iA (F 2)))), (o 3, .inr (1, [.int (iz 80), .ref (r 3), .int (iz (z 3))])), (r 3, .inl (cI, n 3, .inl (iA (F 3)))), (o 13, .inr (3, [.ref (o 4), .ref (o 5), .ref (o 6)])), (o 4, .inr (1, [.int (iz 1600), .ref (r 4), .int (iz (z 4))])), (r 4, .inl (cI, n 4, .inl (iA (F 4)))), (o 5, .inr (1, [.int (iz 1600), .ref (r 5), .int (iz (z 5))])), (r 5, .inl (cI, n 5, .inl (iA (F 5)))), (o 6, .inr (1, [.int (iz 1600), .ref (r 6), .int (iz (z 6))])), (r 6, .inl (cI, n 6, .inl (iA (F 6)))), (o 14, .inr (3, [.ref (o 7), .ref (o 8), .ref (o 9)])), (o 7, .inr (1, [.int (iz 1600), .ref (r 7), .int (iz (z 7))])), (r 7, .inl (cI, n 7, .inl (iA (F 7)))), (o 8, .inr (1, [.int (iz 1600), .ref (r 8), .int (iz (z 8))])), (r 8, .inl (cI, n 8, .inl (iA (F 8)))), (o 9, .inr (1, [.int (iz 1600), .ref (r 9), .int (iz (z 9))])), (r 9, .inl (cI, n 9, .inl (iA (F 9)))), (o 12, .inr (4, [.int (iz (z 17)), .int (iz (z 18)), .int (iz (z 19)), .int (iz (z 20)), .int (iz (z 21))])), (o 10, .inr (2, [.ref (r 10), .int (iz (z 10)), .int (iz (z 22))])), (r 10, .inl (cB, n 10, .inl (iA (F 10)))), (o 11, .inr (2, [.ref (r 11), .int (iz (z 11)), .int (iz (z 23))])), (r 11, .inl (cB, n 11, .inl (iA (F 11))))]) (w1 := (eU cI (Eo ((p0 + 1).toNat)) (va_up (va_up (va_up (Er ((p0 + 1).toNat)) 4 r4_92) 5 r5_96) 6 r6_100) (va_up (va_up (va_up (En ((p0 + 1).toNat)) 4 n4_93) 5 n5_97) 6 n6_101) (va_up (va_up (va_up (va_up (Ez ((p0 + 1).toNat)) 4 z4_94) 5 z5_98) 6 z6_102) 9 z9_91) (va_up (va_up (va_up (EF ((p0 + 1).toNat)) 4 F4_95) 5 F5_99) 6 F6_103))) (ws' := ((xU cI cB cE o r n z F G (Eo 0 0)) ++ (eU cI (Eo ((p0 + 1).toNat)) (va_up (va_up (va_up (Er ((p0 + 1).toNat)) 4 r4_92) 5 r5_96) 6 r6_100) (va_up (va_up (va_up (En ((p0 + 1).toNat)) 4 n4_93) 5 n5_97) 6 n6_101) (va_up (va_up (va_up (va_up (Ez ((p0 + 1).toNat)) 4 z4_94) 5 z5_98) 6 z6_102) 9 z9_91) (va_up (va_up (va_up (EF ((p0 + 1).toNat)) 4 F4_95) 5 F5_99) 6 F6_103)))) hP hD [29, 30, 31, 32, 33, 34, 35, 36, 37, 38, 39, 40, 41, 42, 43, 44] [0, 1, 2, 3, 4, 5, 6, 7, 8, 9, 10, 11, 12, 13, 14, 15, 16, 17, 18, 19, 20, 21, 22, 23, 24, 25, 26, 27, 28] [0, 1, 2, 3, 4, 5, 6, 7, 8, 9, 10, 11, 12, 13, 14, 15, 16, 17, 18, 19, 20, 21, 22, 23, 24, 25, 26, 27, 28, 29, 30, 31, 32, 33, 34, 35, 36, 37, 38, 39, 40, 41, 42, 43, 44] rfl rfl (by decide) (by decide) hk1 hFc hP1 hD1 rfl (by decide)
                  refine W.eq (g2 := F0 m 91 ls [.int (iz q_90)]) rfl ?_
                  try dsimp only at hq_87
                  obtain ⟨⟨ha104, hb4104⟩, ⟨hb104, hb5104⟩, ⟨hc104, hb6104⟩, hd104, hr104⟩ := hq_87
                  refine lv_istore (lv' := [(6, .int (iz q_90)), (5, .int (iz (100000 + p1))), (4, .ref (Eo ((p0 + 1).toNat) 0)), (0, .ref (o 15)), (1, .int (iz p0)), (2, .int (iz p1)), (3, .int (iz p2))]) hx hb dX5_range_91 hl (by decide) rfl (fun ls hl => ?_)
                  refine lv_iload hx hb dX5_range_93 (lv_at hl 0 rfl) ?_
                  refine ki_if_eq (tgt := 103) hx hb dX5_range_95 (by decide) (by omega) (by omega) (fun c_105 => ?_) (fun c_105 => ?_)
                  · skip
                    refine lv_iload hx hb dX5_range_103 (lv_at hl 0 rfl) ?_
                    refine ki_if_eq (tgt := 112) hx hb dX5_range_105 (by decide) (by omega) (by omega) (fun c_106 => ?_) (fun c_106 => ?_)
                    · skip
                      refine lv_iconst (v := iz 0) hx hb dX5_range_112 (by decide) ?_
                      have hP : va_P (dC, dI) kxCl (((xU cI cB cE o r n z F G (Eo 0 0)) ++ (eU cI (Eo ((p0 + 1).toNat)) (va_up (va_up (va_up (Er ((p0 + 1).toNat)) 4 r4_92) 5 r5_96) 6 r6_100) (va_up (va_up (va_up (En ((p0 + 1).toNat)) 4 n4_93) 5 n5_97) 6 n6_101) (va_up (va_up (va_up (va_up (Ez ((p0 + 1).toNat)) 4 z4_94) 5 z5_98) 6 z6_102) 9 z9_91) (va_up (va_up (va_up (EF ((p0 + 1).toNat)) 4 F4_95) 5 F5_99) 6 F6_103))) ++ (eR cI N ((p0 + 1).toNat) Eo Er En Ez EF)) H := hP
                      have hD : va_D A (((xU cI cB cE o r n z F G (Eo 0 0)) ++ (eU cI (Eo ((p0 + 1).toNat)) (va_up (va_up (va_up (Er ((p0 + 1).toNat)) 4 r4_92) 5 r5_96) 6 r6_100) (va_up (va_up (va_up (En ((p0 + 1).toNat)) 4 n4_93) 5 n5_97) 6 n6_101) (va_up (va_up (va_up (va_up (Ez ((p0 + 1).toNat)) 4 z4_94) 5 z5_98) 6 z6_102) 9 z9_91) (va_up (va_up (va_up (EF ((p0 + 1).toNat)) 4 F4_95) 5 F5_99) 6 F6_103))) ++ (eR cI N ((p0 + 1).toNat) Eo Er En Ez EF)) := hD
                      have hP := eP_unf hj21 hP
                      have hD := eD_unf hj21 hD
                      have hPE107 := hPE.up ((p0 + 1).toNat) (((((hPE ((p0 + 1).toNat) hj21).i 4 (by decide) (show 0 ≤ z4_94 ∧ z4_94 ≤ ((n4_93 : Nat) : Int) ∧ ((n4_93 : Nat) : Int) ≤ 20 by omega) hb4104 (by omega)).i 5 (by decide) (show 0 ≤ z5_98 ∧ z5_98 ≤ ((n5_97 : Nat) : Int) ∧ ((n5_97 : Nat) : Int) ≤ 20 by omega) hb5104 (by omega)).i 6 (by decide) (show 0 ≤ z6_102 ∧ z6_102 ≤ ((n6_101 : Nat) : Int) ∧ ((n6_101 : Nat) : Int) ≤ 20 by omega) hb6104 (by omega)).sc 9 (by decide) (show -2147483648 ≤ z9_91 by omega) (show z9_91 < 2147483648 by omega))
                      have hef107 := hef.up ((p0 + 1).toNat) (z := (va_up (va_up (va_up (va_up (Ez ((p0 + 1).toNat)) 4 z4_94) 5 z5_98) 6 z6_102) 9 z9_91)) (n := (va_up (va_up (va_up (En ((p0 + 1).toNat)) 4 n4_93) 5 n5_97) 6 n6_101)) (F := (va_up (va_up (va_up (EF ((p0 + 1).toNat)) 4 F4_95) 5 F5_99) 6 F6_103)) (fun k hk => (vfr hk _ (by decide) (vfr hk _ (by decide) (vfr hk _ (by decide) (vfr hk _ (by decide) rfl))))) (fun k hk => ⟨(vfr hk _ (by decide) (vfr hk _ (by decide) (vfr hk _ (by decide) rfl))), (vfr hk _ (by decide) (vfr hk _ (by decide) (vfr hk _ (by decide) rfl)))⟩)
                      generalize eEr107 : va_up Er ((p0 + 1).toNat) (va_up (va_up (va_up (Er ((p0 + 1).toNat)) 4 r4_92) 5 r5_96) 6 r6_100) = Er107 at hP hD
                      generalize eEn107 : va_up En ((p0 + 1).toNat) (va_up (va_up (va_up (En ((p0 + 1).toNat)) 4 n4_93) 5 n5_97) 6 n6_101) = En107 at hP hD hPE107 hef107
                      generalize eEz107 : va_up Ez ((p0 + 1).toNat) (va_up (va_up (va_up (va_up (Ez ((p0 + 1).toNat)) 4 z4_94) 5 z5_98) 6 z6_102) 9 z9_91) = Ez107 at hP hD hPE107 hef107
                      generalize eEF107 : va_up EF ((p0 + 1).toNat) (va_up (va_up (va_up (EF ((p0 + 1).toNat)) 4 F4_95) 5 F5_99) 6 F6_103) = EF107 at hP hD hPE107 hef107
                      have hcl107_0 : Ez107 ((p0 + 1).toNat) 0 = Ez ((p0 + 1).toNat) 0 := by rw [← eEz107]; simp (decide := true) only [va_ev, ↓reduceIte]
                      have hcl107_4 : Ez107 ((p0 + 1).toNat) 4 = z4_94 := by rw [← eEz107]; simp (decide := true) only [va_ev, ↓reduceIte]
                      have hcl107_5 : Ez107 ((p0 + 1).toNat) 5 = z5_98 := by rw [← eEz107]; simp (decide := true) only [va_ev, ↓reduceIte]
                      have hcl107_6 : Ez107 ((p0 + 1).toNat) 6 = z6_102 := by rw [← eEz107]; simp (decide := true) only [va_ev, ↓reduceIte]
                      have hcl107_7 : Ez107 ((p0 + 1).toNat) 7 = Ez ((p0 + 1).toNat) 7 := by rw [← eEz107]; simp (decide := true) only [va_ev, ↓reduceIte]
                      have hcl107_9 : Ez107 ((p0 + 1).toNat) 9 = z9_91 := by rw [← eEz107]; simp (decide := true) only [va_ev, ↓reduceIte]
                      have hcF107_4 : EF107 ((p0 + 1).toNat) 4 = F4_95 := by rw [← eEF107]; simp (decide := true) only [va_ev, ↓reduceIte]
                      have hcF107_5 : EF107 ((p0 + 1).toNat) 5 = F5_99 := by rw [← eEF107]; simp (decide := true) only [va_ev, ↓reduceIte]
                      have hcF107_6 : EF107 ((p0 + 1).toNat) 6 = F6_103 := by rw [← eEF107]; simp (decide := true) only [va_ev, ↓reduceIte]
                      have hzo16 : z 16 = z 16 := rfl
                      refine vx_ret ?_
                      exact xk_iret (ov := (fun u : (Int) × (Nat → Nat) × (Nat → Nat) × (Nat → Int) × (Nat → Int → Int) × (Nat → Nat → Nat) × (Nat → Nat → Nat) × (Nat → Nat → Int) × (Nat → Nat → Int → Int) => match u with | (q, r', n', z', F', Er', En', Ez', EF') => some (.int (iz q)))) (post := (fun (u : (Int) × (Nat → Nat) × (Nat → Nat) × (Nat → Int) × (Nat → Int → Int) × (Nat → Nat → Nat) × (Nat → Nat → Nat) × (Nat → Nat → Int) × (Nat → Nat → Int → Int)) (dn dm : Nat) => match u with | (q, r', n', z', F', Er', En', Ez', EF') => xR [16] [] [4, 5, 6, 9] [4, 5, 6] N z F En Ez EF n' z' F' En' Ez' EF' ∧ (dn + xg n' ≤ xg n + 30 ∧ dm + xp n' ≤ xp n + 200) ∧ (((0 ≤ p0 ∧ p0 < z 12) ∧ (1 ≤ p1 ∧ p1 ≤ 99999) ∧ ((p2 = 0 ∧ 0 ≤ Ez ((p0 + 1).toNat) 9 ∧ q = 0 ∧ Ez' ((p0 + 1).toNat) 9 = Ez ((p0 + 1).toNat) 9 ∧ Ez' ((p0 + 1).toNat) 4 = Ez ((p0 + 1).toNat) 4 ∧ EF' ((p0 + 1).toNat) 4 = EF ((p0 + 1).toNat) 4) ∨ (p2 = 0 ∧ Ez ((p0 + 1).toNat) 9 < 0 ∧ Ez ((p0 + 1).toNat) 4 < 20 ∧ q = 1 ∧ Ez' ((p0 + 1).toNat) 9 = Ez ((p0 + 1).toNat) 4 ∧ Ez' ((p0 + 1).toNat) 4 = Ez ((p0 + 1).toNat) 4 + 1 ∧ EF' ((p0 + 1).toNat) 4 (Ez ((p0 + 1).toNat) 4) = 100000 + p1) ∨ (¬ p2 = 0 ∧ q = 0 ∧ Ez' ((p0 + 1).toNat) 9 = Ez ((p0 + 1).toNat) 9 ∧ Ez' ((p0 + 1).toNat) 4 = Ez ((p0 + 1).toNat) 4 ∧ EF' ((p0 + 1).toNat) 4 = EF ((p0 + 1).toNat) 4 ∧ (0 ≤ Ez ((p0 + 1).toNat) 9 → Ez ((p0 + 1).toNat) 9 < Ez ((p0 + 1).toNat) 4 → 100000 + p1 < EF ((p0 + 1).toNat) 4 (Ez ((p0 + 1).toNat) 9))) ∨ (¬ p2 = 0 ∧ q = 1 ∧ 0 ≤ Ez ((p0 + 1).toNat) 9 ∧ (Ez ((p0 + 1).toNat) 9 < Ez ((p0 + 1).toNat) 4 → EF ((p0 + 1).toNat) 4 (Ez ((p0 + 1).toNat) 9) ≤ 100000 + p1) ∧ Ez' ((p0 + 1).toNat) 9 = -1 ∧ Ez' ((p0 + 1).toNat) 4 = Ez ((p0 + 1).toNat) 4 ∧ EF' ((p0 + 1).toNat) 4 = EF ((p0 + 1).toNat) 4)) ∧ (∀ j, j ≠ ((p0 + 1).toNat) → Ez' j = Ez j ∧ EF' j = EF j)) ∧ ((q = 0 ∧ z' 16 = z 16 ∧ Ez' ((p0 + 1).toNat) 4 = Ez ((p0 + 1).toNat) 4 ∧ EF' ((p0 + 1).toNat) 4 = EF ((p0 + 1).toNat) 4 ∧ Ez' ((p0 + 1).toNat) 5 = Ez ((p0 + 1).toNat) 5 ∧ EF' ((p0 + 1).toNat) 5 = EF ((p0 + 1).toNat) 5 ∧ Ez' ((p0 + 1).toNat) 6 = Ez ((p0 + 1).toNat) 6 ∧ EF' ((p0 + 1).toNat) 6 = EF ((p0 + 1).toNat) 6) ∨ (q = 1 ∧ z' 16 = -1 ∧ p2 = 0 ∧ (iAdd 20 (Ez ((p0 + 1).toNat) 4) (EF ((p0 + 1).toNat) 4) (Ez' ((p0 + 1).toNat) 4) (EF' ((p0 + 1).toNat) 4) (100000 + p1) ∧ iAdd 20 (Ez ((p0 + 1).toNat) 5) (EF ((p0 + 1).toNat) 5) (Ez' ((p0 + 1).toNat) 5) (EF' ((p0 + 1).toNat) 5) (100000 + p1) ∧ iAdd 20 (Ez ((p0 + 1).toNat) 6) (EF ((p0 + 1).toNat) 6) (Ez' ((p0 + 1).toNat) 6) (EF' ((p0 + 1).toNat) 6) 0)) ∨ (q = 1 ∧ z' 16 = -1 ∧ ¬ p2 = 0 ∧ (Ez' ((p0 + 1).toNat) 4 = Ez ((p0 + 1).toNat) 4 ∧ Ez' ((p0 + 1).toNat) 5 = Ez ((p0 + 1).toNat) 5 ∧ Ez' ((p0 + 1).toNat) 6 = Ez ((p0 + 1).toNat) 6) ∧ EF' ((p0 + 1).toNat) 4 = EF ((p0 + 1).toNat) 4 ∧ EF' ((p0 + 1).toNat) 5 = upI (EF ((p0 + 1).toNat) 5) (Ez ((p0 + 1).toNat) 9) (100000 + p1) ∧ EF' ((p0 + 1).toNat) 6 = upI (EF ((p0 + 1).toNat) 6) (Ez ((p0 + 1).toNat) 9) 1))))) (ws := (fun u : (Int) × (Nat → Nat) × (Nat → Nat) × (Nat → Int) × (Nat → Int → Int) × (Nat → Nat → Nat) × (Nat → Nat → Nat) × (Nat → Nat → Int) × (Nat → Nat → Int → Int) => match u with | (q, r', n', z', F', Er', En', Ez', EF') => (xU cI cB cE o r' n' z' F' G (Eo 0 0) ++ eP cI N Eo Er' En' Ez' EF'))) (tys := xT cI cB cE) (z := 0) (0, r, n, z, F, Er107, En107, Ez107, EF107) hx hb hr rfl hlocks rfl hP hD hK hS dX5_range_113 (fun dn dm hdn hdm => ⟨⟨hok, hfr, hPE107, hef107⟩, ⟨by omega, by omega⟩, by rcases hr104 with ⟨h1, h2, h3, h5, h6, h7, h8, h10, h11⟩ | ⟨h1, h2, h3, h5, h6, h7⟩; exact ⟨⟨by omega, by omega, Or.inl ⟨by omega, by omega, by omega, by omega, by omega, by rw [hcF107_4, h6]⟩, fun j hj => ⟨by rw [← eEz107]; exact va_up_ne _ _ hj, by rw [← eEF107]; exact va_up_ne _ _ hj⟩⟩, Or.inl ⟨by omega, by first | rfl | omega, by omega, by rw [hcF107_4, h6], by omega, by rw [hcF107_5, h8], by omega, by rw [hcF107_6, h11]⟩⟩; rcases h5.1 with ⟨x1, x2⟩ | ⟨x1, x2, x3⟩; (exfalso; omega); exact ⟨⟨by omega, by omega, Or.inr (Or.inl ⟨by omega, by omega, by omega, by omega, by omega, by omega, by rw [hcF107_4]; exact x3⟩), fun j hj => ⟨by rw [← eEz107]; exact va_up_ne _ _ hj, by rw [← eEF107]; exact va_up_ne _ _ hj⟩⟩, Or.inr (Or.inl ⟨by omega, by first | rfl | omega, by omega, ⟨(by rw [hcl107_4, hcF107_4]; exact h5), (by rw [hcl107_5, hcF107_5]; exact h6), (by rw [hcl107_6, hcF107_6]; exact h7)⟩⟩)⟩⟩) (by omega) (by omega)
                    · omega
                  · skip
                    refine lv_aload_n hx hb dX5_range_98 rfl (lv_at hl 3 rfl) ?_
                    refine lv_iconst (v := iz (-1)) hx hb dX5_range_99 (by decide) ?_
                    refine va_put (D := (dC, dI)) (ci := 5) (v := .int (iz (-1))) (ty := .int) (C := RX5) (T := TX5) (N := 16) hx hb hts kt_X5 tyX5 tyX5_ok nmX5 hown hK hP hD hS 0 rfl rfl 10 (by decide) (kx_word hG kq_18_xrows_26 rfl) (fun _ h9 => h9) rfl (by decide +kernel) rfl rfl (Nat.le_of_ble_eq_true rfl) dX5_range_100 (fun H locs hP hD hS => ?_)
                    have hP : va_P (dC, dI) kxCl (((xU cI cB cE o r n (va_up z 16 (-1)) F G (Eo 0 0)) ++ (eU cI (Eo ((p0 + 1).toNat)) (va_up (va_up (va_up (Er ((p0 + 1).toNat)) 4 r4_92) 5 r5_96) 6 r6_100) (va_up (va_up (va_up (En ((p0 + 1).toNat)) 4 n4_93) 5 n5_97) 6 n6_101) (va_up (va_up (va_up (va_up (Ez ((p0 + 1).toNat)) 4 z4_94) 5 z5_98) 6 z6_102) 9 z9_91) (va_up (va_up (va_up (EF ((p0 + 1).toNat)) 4 F4_95) 5 F5_99) 6 F6_103))) ++ (eR cI N ((p0 + 1).toNat) Eo Er En Ez EF)) H := hP
                    have hD : va_D A (((xU cI cB cE o r n (va_up z 16 (-1)) F G (Eo 0 0)) ++ (eU cI (Eo ((p0 + 1).toNat)) (va_up (va_up (va_up (Er ((p0 + 1).toNat)) 4 r4_92) 5 r5_96) 6 r6_100) (va_up (va_up (va_up (En ((p0 + 1).toNat)) 4 n4_93) 5 n5_97) 6 n6_101) (va_up (va_up (va_up (va_up (Ez ((p0 + 1).toNat)) 4 z4_94) 5 z5_98) 6 z6_102) 9 z9_91) (va_up (va_up (va_up (EF ((p0 + 1).toNat)) 4 F4_95) 5 F5_99) 6 F6_103))) ++ (eR cI N ((p0 + 1).toNat) Eo Er En Ez EF)) := hD
                    refine lv_iload hx hb dX5_range_103 (lv_at hl 0 rfl) ?_
                    refine ki_if_eq (tgt := 112) hx hb dX5_range_105 (by decide) (by omega) (by omega) (fun c_108 => ?_) (fun c_108 => ?_)
                    · omega
                    · skip
                      refine lv_iconst (v := iz 1) hx hb dX5_range_108 (by decide) ?_
                      refine lv_goto (tgt := 113) hx hb dX5_range_109 (by decide) ?_
                      have hP : va_P (dC, dI) kxCl (((xU cI cB cE o r n (va_up z 16 (-1)) F G (Eo 0 0)) ++ (eU cI (Eo ((p0 + 1).toNat)) (va_up (va_up (va_up (Er ((p0 + 1).toNat)) 4 r4_92) 5 r5_96) 6 r6_100) (va_up (va_up (va_up (En ((p0 + 1).toNat)) 4 n4_93) 5 n5_97) 6 n6_101) (va_up (va_up (va_up (va_up (Ez ((p0 + 1).toNat)) 4 z4_94) 5 z5_98) 6 z6_102) 9 z9_91) (va_up (va_up (va_up (EF ((p0 + 1).toNat)) 4 F4_95) 5 F5_99) 6 F6_103))) ++ (eR cI N ((p0 + 1).toNat) Eo Er En Ez EF)) H := hP
                      have hD : va_D A (((xU cI cB cE o r n (va_up z 16 (-1)) F G (Eo 0 0)) ++ (eU cI (Eo ((p0 + 1).toNat)) (va_up (va_up (va_up (Er ((p0 + 1).toNat)) 4 r4_92) 5 r5_96) 6 r6_100) (va_up (va_up (va_up (En ((p0 + 1).toNat)) 4 n4_93) 5 n5_97) 6 n6_101) (va_up (va_up (va_up (va_up (Ez ((p0 + 1).toNat)) 4 z4_94) 5 z5_98) 6 z6_102) 9 z9_91) (va_up (va_up (va_up (EF ((p0 + 1).toNat)) 4 F4_95) 5 F5_99) 6 F6_103))) ++ (eR cI N ((p0 + 1).toNat) Eo Er En Ez EF)) := hD
                      have hP := eP_unf hj21 hP
                      have hD := eD_unf hj21 hD
                      have hPE109 := hPE.up ((p0 + 1).toNat) (((((hPE ((p0 + 1).toNat) hj21).i 4 (by decide) (show 0 ≤ z4_94 ∧ z4_94 ≤ ((n4_93 : Nat) : Int) ∧ ((n4_93 : Nat) : Int) ≤ 20 by omega) hb4104 (by omega)).i 5 (by decide) (show 0 ≤ z5_98 ∧ z5_98 ≤ ((n5_97 : Nat) : Int) ∧ ((n5_97 : Nat) : Int) ≤ 20 by omega) hb5104 (by omega)).i 6 (by decide) (show 0 ≤ z6_102 ∧ z6_102 ≤ ((n6_101 : Nat) : Int) ∧ ((n6_101 : Nat) : Int) ≤ 20 by omega) hb6104 (by omega)).sc 9 (by decide) (show -2147483648 ≤ z9_91 by omega) (show z9_91 < 2147483648 by omega))
                      have hef109 := hef.up ((p0 + 1).toNat) (z := (va_up (va_up (va_up (va_up (Ez ((p0 + 1).toNat)) 4 z4_94) 5 z5_98) 6 z6_102) 9 z9_91)) (n := (va_up (va_up (va_up (En ((p0 + 1).toNat)) 4 n4_93) 5 n5_97) 6 n6_101)) (F := (va_up (va_up (va_up (EF ((p0 + 1).toNat)) 4 F4_95) 5 F5_99) 6 F6_103)) (fun k hk => (vfr hk _ (by decide) (vfr hk _ (by decide) (vfr hk _ (by decide) (vfr hk _ (by decide) rfl))))) (fun k hk => ⟨(vfr hk _ (by decide) (vfr hk _ (by decide) (vfr hk _ (by decide) rfl))), (vfr hk _ (by decide) (vfr hk _ (by decide) (vfr hk _ (by decide) rfl)))⟩)
                      generalize eEr109 : va_up Er ((p0 + 1).toNat) (va_up (va_up (va_up (Er ((p0 + 1).toNat)) 4 r4_92) 5 r5_96) 6 r6_100) = Er109 at hP hD
                      generalize eEn109 : va_up En ((p0 + 1).toNat) (va_up (va_up (va_up (En ((p0 + 1).toNat)) 4 n4_93) 5 n5_97) 6 n6_101) = En109 at hP hD hPE109 hef109
                      generalize eEz109 : va_up Ez ((p0 + 1).toNat) (va_up (va_up (va_up (va_up (Ez ((p0 + 1).toNat)) 4 z4_94) 5 z5_98) 6 z6_102) 9 z9_91) = Ez109 at hP hD hPE109 hef109
                      generalize eEF109 : va_up EF ((p0 + 1).toNat) (va_up (va_up (va_up (EF ((p0 + 1).toNat)) 4 F4_95) 5 F5_99) 6 F6_103) = EF109 at hP hD hPE109 hef109
                      have hcl109_0 : Ez109 ((p0 + 1).toNat) 0 = Ez ((p0 + 1).toNat) 0 := by rw [← eEz109]; simp (decide := true) only [va_ev, ↓reduceIte]
                      have hcl109_4 : Ez109 ((p0 + 1).toNat) 4 = z4_94 := by rw [← eEz109]; simp (decide := true) only [va_ev, ↓reduceIte]
                      have hcl109_5 : Ez109 ((p0 + 1).toNat) 5 = z5_98 := by rw [← eEz109]; simp (decide := true) only [va_ev, ↓reduceIte]
                      have hcl109_6 : Ez109 ((p0 + 1).toNat) 6 = z6_102 := by rw [← eEz109]; simp (decide := true) only [va_ev, ↓reduceIte]
                      have hcl109_7 : Ez109 ((p0 + 1).toNat) 7 = Ez ((p0 + 1).toNat) 7 := by rw [← eEz109]; simp (decide := true) only [va_ev, ↓reduceIte]
                      have hcl109_9 : Ez109 ((p0 + 1).toNat) 9 = z9_91 := by rw [← eEz109]; simp (decide := true) only [va_ev, ↓reduceIte]
                      have hcF109_4 : EF109 ((p0 + 1).toNat) 4 = F4_95 := by rw [← eEF109]; simp (decide := true) only [va_ev, ↓reduceIte]
                      have hcF109_5 : EF109 ((p0 + 1).toNat) 5 = F5_99 := by rw [← eEF109]; simp (decide := true) only [va_ev, ↓reduceIte]
                      have hcF109_6 : EF109 ((p0 + 1).toNat) 6 = F6_103 := by rw [← eEF109]; simp (decide := true) only [va_ev, ↓reduceIte]
                      have hxz_110 : -2147483648 ≤ z 16 ∧ z 16 < 2147483648 := hok.2.2.2.1 16
                      have hok111 : xOk n (va_up z 16 (-1)) F := (hok.s 16 (by decide) (show -2147483648 ≤ (-1) ∧ (-1) < 2147483648 by omega) (by omega))
                      have hfr111 : xFr [16] [] z F (va_up z 16 (-1)) F := (hfr.uz 16 (by decide) _)
                      have hzo16 : (va_up z 16 (-1)) 16 = (-1) := rfl
                      refine vx_ret ?_
                      exact xk_iret (ov := (fun u : (Int) × (Nat → Nat) × (Nat → Nat) × (Nat → Int) × (Nat → Int → Int) × (Nat → Nat → Nat) × (Nat → Nat → Nat) × (Nat → Nat → Int) × (Nat → Nat → Int → Int) => match u with | (q, r', n', z', F', Er', En', Ez', EF') => some (.int (iz q)))) (post := (fun (u : (Int) × (Nat → Nat) × (Nat → Nat) × (Nat → Int) × (Nat → Int → Int) × (Nat → Nat → Nat) × (Nat → Nat → Nat) × (Nat → Nat → Int) × (Nat → Nat → Int → Int)) (dn dm : Nat) => match u with | (q, r', n', z', F', Er', En', Ez', EF') => xR [16] [] [4, 5, 6, 9] [4, 5, 6] N z F En Ez EF n' z' F' En' Ez' EF' ∧ (dn + xg n' ≤ xg n + 30 ∧ dm + xp n' ≤ xp n + 200) ∧ (((0 ≤ p0 ∧ p0 < z 12) ∧ (1 ≤ p1 ∧ p1 ≤ 99999) ∧ ((p2 = 0 ∧ 0 ≤ Ez ((p0 + 1).toNat) 9 ∧ q = 0 ∧ Ez' ((p0 + 1).toNat) 9 = Ez ((p0 + 1).toNat) 9 ∧ Ez' ((p0 + 1).toNat) 4 = Ez ((p0 + 1).toNat) 4 ∧ EF' ((p0 + 1).toNat) 4 = EF ((p0 + 1).toNat) 4) ∨ (p2 = 0 ∧ Ez ((p0 + 1).toNat) 9 < 0 ∧ Ez ((p0 + 1).toNat) 4 < 20 ∧ q = 1 ∧ Ez' ((p0 + 1).toNat) 9 = Ez ((p0 + 1).toNat) 4 ∧ Ez' ((p0 + 1).toNat) 4 = Ez ((p0 + 1).toNat) 4 + 1 ∧ EF' ((p0 + 1).toNat) 4 (Ez ((p0 + 1).toNat) 4) = 100000 + p1) ∨ (¬ p2 = 0 ∧ q = 0 ∧ Ez' ((p0 + 1).toNat) 9 = Ez ((p0 + 1).toNat) 9 ∧ Ez' ((p0 + 1).toNat) 4 = Ez ((p0 + 1).toNat) 4 ∧ EF' ((p0 + 1).toNat) 4 = EF ((p0 + 1).toNat) 4 ∧ (0 ≤ Ez ((p0 + 1).toNat) 9 → Ez ((p0 + 1).toNat) 9 < Ez ((p0 + 1).toNat) 4 → 100000 + p1 < EF ((p0 + 1).toNat) 4 (Ez ((p0 + 1).toNat) 9))) ∨ (¬ p2 = 0 ∧ q = 1 ∧ 0 ≤ Ez ((p0 + 1).toNat) 9 ∧ (Ez ((p0 + 1).toNat) 9 < Ez ((p0 + 1).toNat) 4 → EF ((p0 + 1).toNat) 4 (Ez ((p0 + 1).toNat) 9) ≤ 100000 + p1) ∧ Ez' ((p0 + 1).toNat) 9 = -1 ∧ Ez' ((p0 + 1).toNat) 4 = Ez ((p0 + 1).toNat) 4 ∧ EF' ((p0 + 1).toNat) 4 = EF ((p0 + 1).toNat) 4)) ∧ (∀ j, j ≠ ((p0 + 1).toNat) → Ez' j = Ez j ∧ EF' j = EF j)) ∧ ((q = 0 ∧ z' 16 = z 16 ∧ Ez' ((p0 + 1).toNat) 4 = Ez ((p0 + 1).toNat) 4 ∧ EF' ((p0 + 1).toNat) 4 = EF ((p0 + 1).toNat) 4 ∧ Ez' ((p0 + 1).toNat) 5 = Ez ((p0 + 1).toNat) 5 ∧ EF' ((p0 + 1).toNat) 5 = EF ((p0 + 1).toNat) 5 ∧ Ez' ((p0 + 1).toNat) 6 = Ez ((p0 + 1).toNat) 6 ∧ EF' ((p0 + 1).toNat) 6 = EF ((p0 + 1).toNat) 6) ∨ (q = 1 ∧ z' 16 = -1 ∧ p2 = 0 ∧ (iAdd 20 (Ez ((p0 + 1).toNat) 4) (EF ((p0 + 1).toNat) 4) (Ez' ((p0 + 1).toNat) 4) (EF' ((p0 + 1).toNat) 4) (100000 + p1) ∧ iAdd 20 (Ez ((p0 + 1).toNat) 5) (EF ((p0 + 1).toNat) 5) (Ez' ((p0 + 1).toNat) 5) (EF' ((p0 + 1).toNat) 5) (100000 + p1) ∧ iAdd 20 (Ez ((p0 + 1).toNat) 6) (EF ((p0 + 1).toNat) 6) (Ez' ((p0 + 1).toNat) 6) (EF' ((p0 + 1).toNat) 6) 0)) ∨ (q = 1 ∧ z' 16 = -1 ∧ ¬ p2 = 0 ∧ (Ez' ((p0 + 1).toNat) 4 = Ez ((p0 + 1).toNat) 4 ∧ Ez' ((p0 + 1).toNat) 5 = Ez ((p0 + 1).toNat) 5 ∧ Ez' ((p0 + 1).toNat) 6 = Ez ((p0 + 1).toNat) 6) ∧ EF' ((p0 + 1).toNat) 4 = EF ((p0 + 1).toNat) 4 ∧ EF' ((p0 + 1).toNat) 5 = upI (EF ((p0 + 1).toNat) 5) (Ez ((p0 + 1).toNat) 9) (100000 + p1) ∧ EF' ((p0 + 1).toNat) 6 = upI (EF ((p0 + 1).toNat) 6) (Ez ((p0 + 1).toNat) 9) 1))))) (ws := (fun u : (Int) × (Nat → Nat) × (Nat → Nat) × (Nat → Int) × (Nat → Int → Int) × (Nat → Nat → Nat) × (Nat → Nat → Nat) × (Nat → Nat → Int) × (Nat → Nat → Int → Int) => match u with | (q, r', n', z', F', Er', En', Ez', EF') => (xU cI cB cE o r' n' z' F' G (Eo 0 0) ++ eP cI N Eo Er' En' Ez' EF'))) (tys := xT cI cB cE) (z := 1) (1, r, n, (va_up z 16 (-1)), F, Er109, En109, Ez109, EF109) hx hb hr rfl hlocks rfl hP hD hK hS dX5_range_113 (fun dn dm hdn hdm => ⟨⟨hok111, hfr111, hPE109, hef109⟩, ⟨by omega, by omega⟩, by rcases hr104 with ⟨h1, h2, h3, h5, h6, h7, h8, h10, h11⟩ | ⟨h1, h2, h3, h5, h6, h7⟩; exact ⟨⟨by omega, by omega, Or.inl ⟨by omega, by omega, by omega, by omega, by omega, by rw [hcF109_4, h6]⟩, fun j hj => ⟨by rw [← eEz109]; exact va_up_ne _ _ hj, by rw [← eEF109]; exact va_up_ne _ _ hj⟩⟩, Or.inl ⟨by omega, by first | rfl | omega, by omega, by rw [hcF109_4, h6], by omega, by rw [hcF109_5, h8], by omega, by rw [hcF109_6, h11]⟩⟩; rcases h5.1 with ⟨x1, x2⟩ | ⟨x1, x2, x3⟩; (exfalso; omega); exact ⟨⟨by omega, by omega, Or.inr (Or.inl ⟨by omega, by omega, by omega, by omega, by omega, by omega, by rw [hcF109_4]; exact x3⟩), fun j hj => ⟨by rw [← eEz109]; exact va_up_ne _ _ hj, by rw [← eEF109]; exact va_up_ne _ _ hj⟩⟩, Or.inr (Or.inl ⟨by omega, by first | rfl | omega, by omega, ⟨(by rw [hcl109_4, hcF109_4]; exact h5), (by rw [hcl109_5, hcF109_5]; exact h6), (by rw [hcl109_6, hcF109_6]; exact h7)⟩⟩)⟩⟩) (by omega) (by omega)
                · omega
              · omega
      · skip
        exact ky_thr_IAE hx hb hlf hown hG hZ hS (hl.1.trans hml.symm) dX5_range_18 dX5_range_21 dX5_range_22 dX5_range_25 htab (Nat.le_of_ble_eq_true rfl) (Nat.le_of_ble_eq_true rfl) (show (0 + dn_4) + 1 ≤ 200 from (by omega)) (show (0 + dm_5) + 6 ≤ 60000 from (by omega)) hlocks (Or.inr (Or.inl ⟨rfl, by first | trivial | omega⟩)) (fun t hvm h1 h2 => ⟨(r, n, z, F, Er, En, Ez, EF), ⟨hok, xFr.rf, hPE, eFr.rf⟩, hP.kept (fun k q hk => h2 q.1 (hP k q hk).lt), va_K.moved hvm hK, hD⟩) hS.2.2 (by omega) (by omega) (by omega) (by omega)
set_option maxHeartbeats 4000000 in
set_option maxRecDepth 100000 in
theorem y_sign5 (l : Launch) (hlf : l.stackTraces = false) (dC : Nat → ClassId) (dI : Nat → Nat → Nat) (cI cB cE : ClassId) (o r n : Nat → Nat) (z : Nat → Int) (F : Nat → Int → Int) (G : Nat → Option Nat) (N : Nat) (Eo Er En : Nat → Nat → Nat) (Ez : Nat → Nat → Int) (EF : Nat → Nat → Int → Int) (p0 : Int) (p1 : Int) (sz : Nat) (hok : xOk n z F) (hxG : xG N (z 12) G Eo) (hPE : eA N En Ez EF) (hp01 : -2147483648 ≤ p0) (hp02 : p0 < 2147483648) (hp11 : -2147483648 ≤ p1) (hp12 : p1 < 2147483648) (hsgE : (0 ≤ p0 ∧ p0 < z 12) → ∀ i, 0 ≤ i → i < Ez ((p0 + 1).toNat) 0 → 0 ≤ EF ((p0 + 1).toNat) 0 i ∧ EF ((p0 + 1).toNat) 0 i ≤ 255) : vx_Met l yX5_sign [.code yX5_sign cX5_sign 4 (some .int)] ({ frames := 8, cells := 200, slots := 60000, locals := 152 }) (va_Pc [.ref (o 15), .int (iz p0), .int (iz p1)] (kx_Pre dC dI (xU cI cB cE o r n z F G (Eo 0 0) ++ eP cI N Eo Er En Ez EF) (xT cI cB cE) sz)) (xQ (fun u : (Int) × (Nat → Nat) × (Nat → Nat) × (Nat → Int) × (Nat → Int → Int) × (Nat → Nat → Nat) × (Nat → Nat → Nat) × (Nat → Nat → Int) × (Nat → Nat → Int → Int) => match u with | (q, r', n', z', F', Er', En', Ez', EF') => some (.int (iz q))) (fun (u : (Int) × (Nat → Nat) × (Nat → Nat) × (Nat → Int) × (Nat → Int → Int) × (Nat → Nat → Nat) × (Nat → Nat → Nat) × (Nat → Nat → Int) × (Nat → Nat → Int → Int)) (dn dm : Nat) => match u with | (q, r', n', z', F', Er', En', Ez', EF') => xR [15, 16] [] [0, 1, 2] [0, 1, 2] N z F En Ez EF n' z' F' En' Ez' EF' ∧ (dn + xg n' ≤ xg n + 50 ∧ dm + xp n' ≤ xp n + 400) ∧ (((((0 ≤ p0 ∧ p0 < z 12) ∧ (0 ≤ p1 ∧ p1 ≤ 255) ∧ Ez ((p0 + 1).toNat) 0 < 20 ∧ q = Ez ((p0 + 1).toNat) 0 + 1 ∧ Ez' ((p0 + 1).toNat) 0 = Ez ((p0 + 1).toNat) 0 + 1 ∧ (∀ j, j ≠ ((p0 + 1).toNat) → Ez' j = Ez j ∧ EF' j = EF j)) ∧ (iAdd 20 (Ez ((p0 + 1).toNat) 0) (EF ((p0 + 1).toNat) 0) (Ez' ((p0 + 1).toNat) 0) (EF' ((p0 + 1).toNat) 0) p1 ∧ iAdd 20 (Ez ((p0 + 1).toNat) 1) (EF ((p0 + 1).toNat) 1) (Ez' ((p0 + 1).toNat) 1) (EF' ((p0 + 1).toNat) 1) (kf_rk p1) ∧ kf_ls (EF' ((p0 + 1).toNat) 2) 0 (Ez' ((p0 + 1).toNat) 2).toNat = kf_kI (EF' ((p0 + 1).toNat) 0) (Ez' ((p0 + 1).toNat) 0) (z 13) (z 14) 0 0 0)) ∧ z' 15 = 0) ∧ z' 16 = -1)) (fun u t => kx_At dC dI (va_A (xU cI cB cE o r n z F G (Eo 0 0) ++ eP cI N Eo Er En Ez EF) sz) ((fun u : (Int) × (Nat → Nat) × (Nat → Nat) × (Nat → Int) × (Nat → Int → Int) × (Nat → Nat → Nat) × (Nat → Nat → Nat) × (Nat → Nat → Int) × (Nat → Nat → Int → Int) => match u with | (q, r', n', z', F', Er', En', Ez', EF') => (xU cI cB cE o r' n' z' F' G (Eo 0 0) ++ eP cI N Eo Er' En' Ez' EF')) u) (xT cI cB cE) t) (va_A (xU cI cB cE o r n z F G (Eo 0 0) ++ eP cI N Eo Er En Ez EF) sz)) (yX (fun E => (E = "java/util/NoSuchElementException" ∧ (¬ (0 ≤ p0 ∧ p0 < z 12))) ∨ (E = "java/lang/IllegalArgumentException" ∧ ((0 ≤ p0 ∧ p0 < z 12) ∧ (p1 < 0 ∨ 255 < p1))) ∨ (E = "java/lang/UnsupportedOperationException" ∧ ((0 ≤ p0 ∧ p0 < z 12) ∧ (0 ≤ p1 ∧ p1 ≤ 255) ∧ 20 ≤ Ez ((p0 + 1).toNat) 0))) 2 12 (fun t => ∃ u : (Nat → Nat) × (Nat → Nat) × (Nat → Int) × (Nat → Int → Int) × (Nat → Nat → Nat) × (Nat → Nat → Nat) × (Nat → Nat → Int) × (Nat → Nat → Int → Int), match u with | (r', n', z', F', Er', En', Ez', EF') => xR [] [] [] [] N z F En Ez EF n' z' F' En' Ez' EF' ∧ kx_At dC dI (va_A (xU cI cB cE o r n z F G (Eo 0 0) ++ eP cI N Eo Er En Ez EF) sz) (xU cI cB cE o r' n' z' F' G (Eo 0 0) ++ eP cI N Eo Er' En' Ez' EF') (xT cI cB cE) t) (va_A (xU cI cB cE o r n z F G (Eo 0 0) ++ eP cI N Eo Er En Ez EF) sz)) 200 60000 (va_A (xU cI cB cE o r n z F G (Eo 0 0) ++ eP cI N Eo Er En Ez EF) sz) := by
  refine vx_ofW (cc := cX5_sign) (maxL := 4) (ret := (some .int)) (by decide) rfl ?_
  intro p e s m args below meth c s₁ B hml htab hv
  obtain ⟨rfl, hsz, hP, hK, hD0, hG, hZ⟩ := hv
  have hx := B.exec
  have hb := B.bytes
  have hr := B.returns
  have hts := kx_hts (a := ([.ref (o 15), .int (iz p0), .int (iz p1)] : List Value).toArray) hG
  have hown : s.vm.findClass RX5 = some m.cls := findClass_of_methodNamed B.named
  have hlocks := B.notSynchronized
  subst hsz
  have hD := hD0.self (sz := s.heap.size)
  generalize hAe : va_A (xU cI cB cE o r n z F G (Eo 0 0) ++ eP cI N Eo Er En Ez EF) s.heap.size = A at hD hZ ⊢
  have hA : ∀ q : Nat, s.heap.size ≤ q → A q := fun q h => by rw [← hAe]; exact Or.inr h
  have hS : va_S A s.heap s.heap [] := va_S.rf
  have hl := lv_entry ([.ref (o 15), .int (iz p0), .int (iz p1)]) (n := 4) (Nat.le_of_ble_eq_true rfl)
  rw [lg_entry_eq]
  generalize (lg_sl ([.ref (o 15), .int (iz p0), .int (iz p1)]) ++ List.replicate (4 - (lg_sl ([.ref (o 15), .int (iz p0), .int (iz p1)])).length) Slot.unset).toArray = ls at hl ⊢
  obtain ⟨hN1, hN2, hN3, hN4⟩ := hxG
  have hef : eFr [0, 1, 2] [0, 1, 2] En Ez EF En Ez EF := eFr.rf
  have hfr : xFr [15, 16] [] z F z F := xFr.rf
  have hxgl := xg_le n
  have hxpl := xp_le n
  have hl : lv_has ls 4 [(0, .ref (o 15)), (1, .int (iz p0)), (2, .int (iz p1))] := hl
  refine lv_aload_n hx hb dX5_sign_0 rfl (lv_at hl 0 rfl) ?_
  refine lv_iload_n hx hb dX5_sign_1 rfl (lv_at hl 1 rfl) ?_
  have hxz_1 : -2147483648 ≤ z 12 ∧ z 12 < 2147483648 := hok.2.2.2.1 12
  have hxG9 : xG N (z 12) G Eo := ⟨by omega, by omega, by omega, fun e9 h9 => hN4 e9 (by omega)⟩
  have hP : va_P (dC, dI) kxCl (xU cI cB cE o r n z F G (Eo 0 0) ++ eP cI N Eo Er En Ez EF) s.heap := hP
  have hD : va_D A (xU cI cB cE o r n z F G (Eo 0 0) ++ eP cI N Eo Er En Ez EF) := hD
  have hFc := xw_free hD hS hA
  refine yk_call (vx_runV (As := [.int (iz p0)]) (rest := []) ⟨hx, hb, hml, hown, hts⟩ (y_needEntry l hlf dC dI cI cB cE o r n z F G N Eo Er En Ez EF p0 s.heap.size hok hxG9 hPE (by omega) (by omega)) (cwV 1 hts (kx_gV kq_21_xcalls_10 kq_21_xcalls_11 kq_21_xcalls_12 kq_18_xrows_4 kq_21_xcalls_13 rfl) rfl rfl rfl (by decide +kernel) ⟨Nat.le_of_ble_eq_true rfl, Nat.le_of_ble_eq_true rfl⟩) ⟨kx_blind, va_recv hK hP (ci := 5) (q0 := 0) rfl rfl, kx_give (ws := []) (tys := []) hP hD hK hG hZ hS hFc⟩ rfl rfl hl.1 rfl (lv_room (Nat.le_of_ble_eq_true rfl)) dX5_sign_2 ⟨show 0 + 1 ≤ 200 from (by omega), show 0 + 6 ≤ 60000 from (by omega)⟩) hS (fun q _ h => hFc q h) hFc (fun E ce q9 t H1 locs ht hvm hEx hBx hk1 hS hcell hcv hcl => ?_) (fun u dn_4 dm_5 t H locs ht hvm hq_2 hB hk1 hS => ?_)
  · skip
    exact ky_out (fun x hx => (htab x hx).elim) hlocks hcell hcv hcl (by obtain ⟨rfl, h9⟩ := hEx; exact Or.inl ⟨rfl, by first | trivial | omega⟩) (fun t9 ht9 hvm9 => by obtain ⟨⟨r8, n8, z8, F8, Er8, En8, Ez8, EF8⟩, hR8, hP8, hK8, hD8⟩ := hBx; exact ⟨(r8, n8, z8, F8, Er8, En8, Ez8, EF8), hR8, (by rw [ht9, ← ht]; exact hP8), va_K.moved hvm9 hK, hD8.weaken (fun _ q _ h => hFc _ h)⟩) hS hS.2.2 (by omega) (by omega) (by omega) (by omega)
  · skip
    obtain ⟨r_6, n_7, z_8, F_9, Er_10, En_11, Ez_12, EF_13⟩ := u
    obtain ⟨hP, hK1, hD1⟩ := hB
    rw [ht] at hP
    have hD := hD1.weaken (fun _ q _ h => hFc _ h)
    obtain ⟨hR14, hC14, hq_2⟩ := hq_2
    obtain ⟨rfl, rfl, rfl, rfl, rfl, rfl, rfl, hq_2⟩ := hq_2
    obtain ⟨rfl, hq_2⟩ := hq_2
    refine W.eq (g2 := F0 m 5 ls []) rfl ?_
    refine lv_iload_n hx hb dX5_sign_5 rfl (lv_at hl 2 rfl) ?_
    refine ki_if_lt (tgt := 16) hx hb dX5_sign_6 (by decide) (by omega) (by omega) (fun c_15 => ?_) (fun c_15 => ?_)
    · skip
      exact ky_thr_IAE hx hb hlf hown hG hZ hS (hl.1.trans hml.symm) dX5_sign_16 dX5_sign_19 dX5_sign_20 dX5_sign_23 htab (Nat.le_of_ble_eq_true rfl) (Nat.le_of_ble_eq_true rfl) (show (0 + dn_4) + 1 ≤ 200 from (by omega)) (show (0 + dm_5) + 6 ≤ 60000 from (by omega)) hlocks (Or.inr (Or.inl ⟨rfl, by first | trivial | omega⟩)) (fun t hvm h1 h2 => ⟨(r, n, z, F, Er, En, Ez, EF), ⟨hok, xFr.rf, hPE, eFr.rf⟩, hP.kept (fun k q hk => h2 q.1 (hP k q hk).lt), va_K.moved hvm hK, hD⟩) hS.2.2 (by omega) (by omega) (by omega) (by omega)
    · skip
      refine lv_iload_n hx hb dX5_sign_9 rfl (lv_at hl 2 rfl) ?_
      refine lv_sipush (v := iz 255) hx hb dX5_sign_10 (by decide) ?_
      refine ki_icmp_le (tgt := 24) hx hb dX5_sign_13 (by decide) (by omega) (by omega) (by omega) (by omega) (fun c_16 => ?_) (fun c_16 => ?_)
      · skip
        refine lv_aload_n hx hb dX5_sign_24 rfl (lv_at hl 0 rfl) ?_
        refine lv_iload_n hx hb dX5_sign_25 rfl (lv_at hl 1 rfl) ?_
        have hxG9 : xG N (z 12) G Eo := ⟨by omega, by omega, by omega, fun e9 h9 => hN4 e9 (by omega)⟩
        have hP : va_P (dC, dI) kxCl (xU cI cB cE o r n z F G (Eo 0 0) ++ eP cI N Eo Er En Ez EF) H := hP
        refine xk_pure (va_runV (As := [.int (iz p0)]) (rest := []) ⟨hx, hb, hml, hown, hts⟩ (y_known l dC dI cI cB cE o r n z F G N Eo Er En Ez EF p0 H.size hok hxG9 hPE (by omega) (by omega)) (cwV 1 hts (kx_gV kq_18_xrows_8 kq_18_xrows_9 kq_18_xrows_10 kq_18_xrows_4 kq_18_xrows_11 rfl) rfl rfl rfl (by decide +kernel) ⟨Nat.le_of_ble_eq_true rfl, Nat.le_of_ble_eq_true rfl⟩) ⟨pPre_blind, va_recv hK hP (ci := 5) (q0 := 0) rfl rfl, pPre_give hP hK hG⟩ rfl rfl hl.1 rfl (lv_room (Nat.le_of_ble_eq_true rfl)) dX5_sign_26 ⟨show (0 + dn_4) + 0 ≤ 200 from (by omega), show (0 + dm_5) + 0 ≤ 60000 from (by omega)⟩) hS (fun z_18 locs hq_17 hS => ?_)
        refine W.eq (g2 := F0 m 29 ls [.ref z_18.toNat]) rfl ?_
        try dsimp only at hq_17
        obtain ⟨j19, hj19, ez19, hje19⟩ := hq_17
        subst ez19
        refine W.eq (g2 := F0 m 29 ls [.ref (Eo j19 0)]) rfl ?_
        have ej19 : j19 = (p0 + 1).toNat := by omega
        subst ej19
        refine lv_astore_n (lv' := [(3, .ref (Eo ((p0 + 1).toNat) 0)), (0, .ref (o 15)), (1, .int (iz p0)), (2, .int (iz p1))]) hx hb dX5_sign_29 rfl hl (by decide) rfl (fun ls hl => ?_)
        refine lv_aload_n hx hb dX5_sign_30 rfl (lv_at hl 0 rfl) ?_
        have hP := eP_foc hj19 hP
        have hD := eD_foc hj19 hD
        refine va_getN (D := (dC, dI)) (ci := 0) (v := .ref (Eo ((p0 + 1).toNat) 1)) (C := RX0) (T := TX0) (N := 12) hx hb hts kt_X0 hown hK hP 29 rfl rfl 2 (by decide) (va_Nw.use rfl (kx_nf hG kq_19_xouts_70)) (fun _ h9 => h9) rfl dX5_sign_31 ?_
        have he_20 : 0 ≤ Ez ((p0 + 1).toNat) 0 ∧ Ez ((p0 + 1).toNat) 0 ≤ ((En ((p0 + 1).toNat) 0 : Nat) : Int) ∧ ((En ((p0 + 1).toNat) 0 : Nat) : Int) ≤ 20 := (hPE ((p0 + 1).toNat) hj19).1 0 (by decide)
        have hPc := hP.sub (ws' := (iU cI 20 (Eo ((p0 + 1).toNat) 1) (Er ((p0 + 1).toNat) 0) (En ((p0 + 1).toNat) 0) (Ez ((p0 + 1).toNat) 0) (EF ((p0 + 1).toNat) 0))) [30, 31] rfl
        refine xk_pure (va_runV (As := []) (rest := []) ⟨hx, hb, hml, hown, hts⟩ (x_isFull l dC dI cI cB cE 20 (Eo ((p0 + 1).toNat) 1) (Er ((p0 + 1).toNat) 0) (En ((p0 + 1).toNat) 0) (Ez ((p0 + 1).toNat) 0) (EF ((p0 + 1).toNat) 0)  H.size (by omega)) (cwV 0 hts (kx_gV kq_21_xcalls_1 kq_15_xspan_35 kq_15_xspan_36 kq_13_xints_6 kq_15_xspan_37 rfl) rfl rfl rfl (by decide +kernel) ⟨Nat.le_of_ble_eq_true rfl, Nat.le_of_ble_eq_true rfl⟩) ⟨pPre_blind, va_recv hK hPc (ci := 1) (q0 := 0) rfl rfl, pPre_give hPc hK hG⟩ rfl rfl hl.1 rfl (lv_room (Nat.le_of_ble_eq_true rfl)) dX5_sign_34 ⟨show (0 + dn_4) + 0 ≤ 200 from (by omega), show (0 + dm_5) + 0 ≤ 60000 from (by omega)⟩) hS (fun z_22 locs hq_21 hS => ?_)
        refine W.eq (g2 := F0 m 37 ls [.int (iz z_22)]) rfl ?_
        try dsimp only at hq_21
        rcases hq_21 with ⟨rfl, hq_21⟩ | ⟨rfl, hq_21⟩
        · skip
          refine ki_if_eq (tgt := 48) hx hb dX5_sign_37 (by decide) (by omega) (by omega) (fun c_23 => ?_) (fun c_23 => ?_)
          · omega
          · skip
            have hP := eP_un0 hj19 hP
            have hD := eD_un0 hj19 hD
            exact ky_thr_UOE hx hb hlf hown hG hZ hS (hl.1.trans hml.symm) dX5_sign_40 dX5_sign_43 dX5_sign_44 dX5_sign_47 htab (Nat.le_of_ble_eq_true rfl) (Nat.le_of_ble_eq_true rfl) (show (0 + dn_4) + 1 ≤ 200 from (by omega)) (show (0 + dm_5) + 6 ≤ 60000 from (by omega)) hlocks (Or.inr (Or.inr (⟨rfl, by first | trivial | omega⟩))) (fun t hvm h1 h2 => ⟨(r, n, z, F, Er, En, Ez, EF), ⟨hok, xFr.rf, hPE, eFr.rf⟩, hP.kept (fun k q hk => h2 q.1 (hP k q hk).lt), va_K.moved hvm hK, hD⟩) hS.2.2 (by omega) (by omega) (by omega) (by omega)
        · skip
          refine ki_if_eq (tgt := 48) hx hb dX5_sign_37 (by decide) (by omega) (by omega) (fun c_24 => ?_) (fun c_24 => ?_)
          · skip
            refine lv_aload_n hx hb dX5_sign_48 rfl (lv_at hl 0 rfl) ?_
            refine lv_iload_n hx hb dX5_sign_49 rfl (lv_at hl 3 rfl) ?_
            have hPc := hP.sub (ws' := (eU cI (Eo ((p0 + 1).toNat)) (Er ((p0 + 1).toNat)) (En ((p0 + 1).toNat)) (Ez ((p0 + 1).toNat)) (EF ((p0 + 1).toNat)))) [29, 30, 31, 32, 33, 34, 35, 36, 37, 38, 39, 40, 41, 42, 43, 44] rfl
            have hDc := hD.sub (ws' := (eU cI (Eo ((p0 + 1).toNat)) (Er ((p0 + 1).toNat)) (En ((p0 + 1).toNat)) (Ez ((p0 + 1).toNat)) (EF ((p0 + 1).toNat)))) [29, 30, 31, 32, 33, 34, 35, 36, 37, 38, 39, 40, 41, 42, 43, 44] (by decide) rfl
            have hFc := va_free (wc := (eU cI (Eo ((p0 + 1).toNat)) (Er ((p0 + 1).toNat)) (En ((p0 + 1).toNat)) (Ez ((p0 + 1).toNat)) (EF ((p0 + 1).toNat)))) hD hS hA [29, 30, 31, 32, 33, 34, 35, 36, 37, 38, 39, 40, 41, 42, 43, 44] rfl
            refine xk_call (va_runV (As := [.int (iz p1)]) (rest := []) ⟨hx, hb, hml, hown, hts⟩ (x_addSign2 l dC dI cI cB cE (Eo ((p0 + 1).toNat)) (Er ((p0 + 1).toNat)) (En ((p0 + 1).toNat)) (Ez ((p0 + 1).toNat)) (EF ((p0 + 1).toNat)) p1 H.size (hPE ((p0 + 1).toNat) hj19) (by omega) (by omega) (by omega)) (cwV 1 hts (kx_gV kq_21_xcalls_14 kq_21_xcalls_15 kq_21_xcalls_16 kq_16_xentry_2 kq_21_xcalls_17 rfl) rfl rfl rfl (by decide +kernel) ⟨Nat.le_of_ble_eq_true rfl, Nat.le_of_ble_eq_true rfl⟩) ⟨kx_blind, va_recv hK hPc (ci := 0) (q0 := 0) rfl rfl, kx_give (ws := []) (tys := []) hPc hDc hK hG hZ hS hFc⟩ rfl rfl hl.1 rfl (lv_room (Nat.le_of_ble_eq_true rfl)) dX5_sign_50 ⟨show (0 + dn_4) + 20 ≤ 200 from (by omega), show (0 + dm_5) + 4800 ≤ 60000 from (by omega)⟩) hS (fun q _ h => hFc q h) hFc (fun u dn_26 dm_27 t H locs ht hvm hq_25 hB hk1 hS => ?_)
            obtain ⟨r0_28, n0_29, z0_30, F0_31, r1_32, n1_33, z1_34, F1_35⟩ := u
            obtain ⟨hP1, hK1, hD1⟩ := hB
            rw [ht] at hP1
            obtain ⟨hP, hD⟩ := xj_pool (wr := [(o 15, .inr (5, [.ref (o 16), .ref (Eo 0 0), .int (iz (z 12)), .int (iz (z 13)), .int (iz (z 14)), .ref (o 0), .ref (o 1), .int (iz (z 15)), .ref (o 13), .ref (o 14), .int (iz (z 16)), .ref (o 2), .ref (o 12), .ref (o 3), .ref (o 10), .ref (o 11)])), (o 16, .inl (cE, 80, .inr (.inr (.inr (.inr G))))), (o 0, .inr (1, [.int (iz 80), .ref (r 0), .int (iz (z 0))])), (r 0, .inl (cI, n 0, .inl (iA (F 0)))), (o 1, .inr (1, [.int (iz 80), .ref (r 1), .int (iz (z 1))])), (r 1, .inl (cI, n 1, .inl (iA (F 1)))), (o 2, .inr (1, [.int (iz 80), .ref (r 2), .int (iz (z 2))])), (r 2, .inl (cI, n 2, .inl (iA (F 2)))), (o 3, .inr (1, [.int (iz 80), .ref (r 3), .int (iz (z 3))])), (r 3, .inl (cI, n 3, .inl (iA (F 3)))), (o 13, .inr (3, [.ref (o 4), .ref (o 5), .ref (o 6)])), (o 4, .inr (1, [.int (iz 1600), .ref (r 4), .int (iz (z 4))])), (r 4, .inl (cI, n 4, .inl (iA (F 4)))), (o 5, .inr (1, [.int (iz 1600), .ref (r 5), .int (iz (z 5))])), (r 5, .inl (cI, n 5, .inl (iA (F 5)))), (o 6, .inr (1, [.int (iz 1600), .ref (r 6), .int (iz (z 6))])), (r 6, .inl (cI, n 6, .inl (iA (F 6)))), (o 14, .inr (3, [.ref (o 7), .ref (o 8), .ref (o 9)])), (o 7, .inr (1, [.int (iz 1600), .ref (r 7), .int (iz (z 7))])), (r 7, .inl (cI, n 7, .inl (iA (F 7)))), (o 8, .inr (1, [.int (iz 1600), .ref (r 8), .int (iz (z 8))])), (r 8, .inl (cI, n 8, .inl (iA (F 8)))), (o 9, .inr (1, [.int (iz 1600), .ref (r 9), .int (iz (z 9))])), (r 9, .inl (cI, n 9, .inl (iA (F 9)))), (o 12, .inr (4, [.int (iz (z 17)), .int (iz (z 18)), .int (iz (z 19)), .int (iz (z 20)), .int (iz (z 21))])), (o 10, .inr (2, [.ref (r 10), .int (iz (z 10)), .int (iz (z 22))])), (r 10, .inl (cB, n 10, .inl (iA (F 10)))), (o 11, .inr (2, [.ref (r 11), .int (iz (z 11)), .int (iz (z 23))])), (r 11, .inl (cB, n 11, .inl (iA (F 11))))]) (w1 := (eU cI (Eo ((p0 + 1).toNat)) (va_up (va_up (Er ((p0 + 1).toNat)) 0 r0_28) 1 r1_32) (va_up (va_up (En ((p0 + 1).toNat)) 0 n0_29) 1 n1_33) (va_up (va_up (Ez ((p0 + 1).toNat)) 0 z0_30) 1 z1_34) (va_up (va_up (EF ((p0 + 1).toNat)) 0 F0_31) 1 F1_35))) (ws' := ((xU cI cB cE o r n z F G (Eo 0 0)) ++ (eU cI (Eo ((p0 + 1).toNat)) (va_up (va_up (Er ((p0 + 1).toNat)) 0 r0_28) 1 r1_32) (va_up (va_up (En ((p0 + 1).toNat)) 0 n0_29) 1 n1_33) (va_up (va_up (Ez ((p0 + 1).toNat)) 0 z0_30) 1 z1_34) (va_up (va_up (EF ((p0 + 1).toNat)) 0 F0_31) 1 F1_35)))) hP hD [29, 30, 31, 32, 33, 34, 35, 36, 37, 38, 39, 40, 41, 42, 43, 44] [0, 1, 2, 3, 4, 5, 6, 7, 8, 9, 10, 11, 12, 13, 14, 15, 16, 17, 18, 19, 20, 21, 22, 23, 24, 25, 26, 27, 28] [0, 1, 2, 3, 4, 5, 6, 7, 8, 9, 10, 11, 12, 13, 14, 15, 16, 17, 18, 19, 20, 21, 22, 23, 24, 25, 26, 27, 28, 29, 30, 31, 32, 33, 34, 35, 36, 37, 38, 39, 40, 41, 42, 43, 44] rfl rfl (by decide) (by decide) hk1 hFc hP1 hD1 rfl (by decide)
            refine W.eq (g2 := F0 m 53 ls []) rfl ?_
            try dsimp only at hq_25
            obtain ⟨⟨ha36, hb036⟩, ⟨hb36, hb136⟩, hc36, hd36, hdr36⟩ := hq_25
            have hax36 := hd36.1
            refine lv_aload_n hx hb dX5_sign_53 rfl (lv_at hl 0 rfl) ?_
            refine lv_aload_n hx hb dX5_sign_54 rfl (lv_at hl 1 rfl) ?_
            have hxz_37 : -2147483648 ≤ z 13 ∧ z 13 < 2147483648 := hok.2.2.2.1 13
            have hxb_38 : z 13 = 0 ∨ z 13 = 1 := hok.2.2.2.2 13 (by decide)
            refine va_get (D := (dC, dI)) (ci := 5) (v := .int (iz (z 13))) (C := RX5) (T := TX5) (N := 16) hx hb hts kt_X5 hown hK hP 0 rfl rfl 3 (by decide) (kx_word hG kq_18_xrows_31 rfl) (fun _ h9 => h9) rfl dX5_sign_55 ?_
            refine lv_aload_n hx hb dX5_sign_58 rfl (lv_at hl 1 rfl) ?_
            have hxz_39 : -2147483648 ≤ z 14 ∧ z 14 < 2147483648 := hok.2.2.2.1 14
            have hxb_40 : z 14 = 0 ∨ z 14 = 1 := hok.2.2.2.2 14 (by decide)
            refine va_get (D := (dC, dI)) (ci := 5) (v := .int (iz (z 14))) (C := RX5) (T := TX5) (N := 16) hx hb hts kt_X5 hown hK hP 0 rfl rfl 4 (by decide) (kx_word hG kq_18_xrows_32 rfl) (fun _ h9 => h9) rfl dX5_sign_59 ?_
            have he_41 : 0 ≤ Ez ((p0 + 1).toNat) 1 ∧ Ez ((p0 + 1).toNat) 1 ≤ ((En ((p0 + 1).toNat) 1 : Nat) : Int) ∧ ((En ((p0 + 1).toNat) 1 : Nat) : Int) ≤ 20 := (hPE ((p0 + 1).toNat) hj19).1 1 (by decide)
            have hPc := hP.sub (ws' := (eU cI (Eo ((p0 + 1).toNat)) (va_up (va_up (Er ((p0 + 1).toNat)) 0 r0_28) 1 r1_32) (va_up (va_up (En ((p0 + 1).toNat)) 0 n0_29) 1 n1_33) (va_up (va_up (Ez ((p0 + 1).toNat)) 0 z0_30) 1 z1_34) (va_up (va_up (EF ((p0 + 1).toNat)) 0 F0_31) 1 F1_35))) [29, 30, 31, 32, 33, 34, 35, 36, 37, 38, 39, 40, 41, 42, 43, 44] rfl
            have hDc := hD.sub (ws' := (eU cI (Eo ((p0 + 1).toNat)) (va_up (va_up (Er ((p0 + 1).toNat)) 0 r0_28) 1 r1_32) (va_up (va_up (En ((p0 + 1).toNat)) 0 n0_29) 1 n1_33) (va_up (va_up (Ez ((p0 + 1).toNat)) 0 z0_30) 1 z1_34) (va_up (va_up (EF ((p0 + 1).toNat)) 0 F0_31) 1 F1_35))) [29, 30, 31, 32, 33, 34, 35, 36, 37, 38, 39, 40, 41, 42, 43, 44] (by decide) rfl
            have hFc := va_free (wc := (eU cI (Eo ((p0 + 1).toNat)) (va_up (va_up (Er ((p0 + 1).toNat)) 0 r0_28) 1 r1_32) (va_up (va_up (En ((p0 + 1).toNat)) 0 n0_29) 1 n1_33) (va_up (va_up (Ez ((p0 + 1).toNat)) 0 z0_30) 1 z1_34) (va_up (va_up (EF ((p0 + 1).toNat)) 0 F0_31) 1 F1_35))) hD hS hA [29, 30, 31, 32, 33, 34, 35, 36, 37, 38, 39, 40, 41, 42, 43, 44] rfl
            refine xk_call (va_runV (As := [.int (iz (z 13)), .int (iz (z 14))]) (rest := []) ⟨hx, hb, hml, hown, hts⟩ (x_makeKey2 l dC dI cI cB cE (Eo ((p0 + 1).toNat)) (va_up (va_up (Er ((p0 + 1).toNat)) 0 r0_28) 1 r1_32) (va_up (va_up (En ((p0 + 1).toNat)) 0 n0_29) 1 n1_33) (va_up (va_up (Ez ((p0 + 1).toNat)) 0 z0_30) 1 z1_34) (va_up (va_up (EF ((p0 + 1).toNat)) 0 F0_31) 1 F1_35) (z 13) (z 14) H.size (((hPE ((p0 + 1).toNat) hj19).i 0 (by decide) (show 0 ≤ z0_30 ∧ z0_30 ≤ ((n0_29 : Nat) : Int) ∧ ((n0_29 : Nat) : Int) ≤ 20 by omega) hb036 (by omega)).i 1 (by decide) (show 0 ≤ z1_34 ∧ z1_34 ≤ ((n1_33 : Nat) : Int) ∧ ((n1_33 : Nat) : Int) ≤ 20 by omega) hb136 (by omega)) (kf_sg_rng hd36 (hsgE (by omega)) (by omega)) (by omega) (by omega) (by omega) (by omega) (by omega) (by omega)) (cwV 2 hts (kx_gV kq_18_xrows_33 kq_18_xrows_34 kq_18_xrows_35 kq_16_xentry_2 kq_18_xrows_36 rfl) rfl rfl rfl (by decide +kernel) ⟨Nat.le_of_ble_eq_true rfl, Nat.le_of_ble_eq_true rfl⟩) ⟨kx_blind, va_recv hK hPc (ci := 0) (q0 := 0) rfl rfl, kx_give (ws := []) (tys := []) hPc hDc hK hG hZ hS hFc⟩ rfl rfl hl.1 rfl (lv_room (Nat.le_of_ble_eq_true rfl)) dX5_sign_62 ⟨show ((0 + dn_4) + dn_26) + 20 ≤ 200 from (by omega), show ((0 + dm_5) + dm_27) + 3500 ≤ 60000 from (by omega)⟩) hS (fun q _ h => hFc q h) hFc (fun u dn_43 dm_44 t H locs ht hvm hq_42 hB hk1 hS => ?_)
            obtain ⟨r2_45, n2_46, z2_47, F2_48⟩ := u
            obtain ⟨hP1, hK1, hD1⟩ := hB
            rw [ht] at hP1
            obtain ⟨hP, hD⟩ := xj_pool (wr := [(o 15, .inr (5, [.ref (o 16), .ref (Eo 0 0), .int (iz (z 12)), .int (iz (z 13)), .int (iz (z 14)), .ref (o 0), .ref (o 1), .int (iz (z 15)), .ref (o 13), .ref (o 14), .int (iz (z 16)), .ref (o 2), .ref (o 12), .ref (o 3), .ref (o 10), .ref (o 11)])), (o 16, .inl (cE, 80, .inr (.inr (.inr (.inr G))))), (o 0, .inr (1, [.int (iz 80), .ref (r 0), .int (iz (z 0))])), (r 0, .inl (cI, n 0, .inl (iA (F 0)))), (o 1, .inr (1, [.int (iz 80), .ref (r 1), .int (iz (z 1))])), (r 1, .inl (cI, n 1, .inl (iA (F 1)))), (o 2, .inr (1, [.int (iz 80), .ref (r 2), .int (iz (z 2))])), (r 2, .inl (cI, n 2, .inl (iA (F 2)))), (o 3, .inr (1, [.int (iz 80), .ref (r 3), .int (iz (z 3))])), (r 3, .inl (cI, n 3, .inl (iA (F 3)))), (o 13, .inr (3, [.ref (o 4), .ref (o 5), .ref (o 6)])), (o 4, .inr (1, [.int (iz 1600), .ref (r 4), .int (iz (z 4))])), (r 4, .inl (cI, n 4, .inl (iA (F 4)))), (o 5, .inr (1, [.int (iz 1600), .ref (r 5), .int (iz (z 5))])), (r 5, .inl (cI, n 5, .inl (iA (F 5)))), (o 6, .inr (1, [.int (iz 1600), .ref (r 6), .int (iz (z 6))])), (r 6, .inl (cI, n 6, .inl (iA (F 6)))), (o 14, .inr (3, [.ref (o 7), .ref (o 8), .ref (o 9)])), (o 7, .inr (1, [.int (iz 1600), .ref (r 7), .int (iz (z 7))])), (r 7, .inl (cI, n 7, .inl (iA (F 7)))), (o 8, .inr (1, [.int (iz 1600), .ref (r 8), .int (iz (z 8))])), (r 8, .inl (cI, n 8, .inl (iA (F 8)))), (o 9, .inr (1, [.int (iz 1600), .ref (r 9), .int (iz (z 9))])), (r 9, .inl (cI, n 9, .inl (iA (F 9)))), (o 12, .inr (4, [.int (iz (z 17)), .int (iz (z 18)), .int (iz (z 19)), .int (iz (z 20)), .int (iz (z 21))])), (o 10, .inr (2, [.ref (r 10), .int (iz (z 10)), .int (iz (z 22))])), (r 10, .inl (cB, n 10, .inl (iA (F 10)))), (o 11, .inr (2, [.ref (r 11), .int (iz (z 11)), .int (iz (z 23))])), (r 11, .inl (cB, n 11, .inl (iA (F 11))))]) (w1 := (eU cI (Eo ((p0 + 1).toNat)) (va_up (va_up (va_up (Er ((p0 + 1).toNat)) 0 r0_28) 1 r1_32) 2 r2_45) (va_up (va_up (va_up (En ((p0 + 1).toNat)) 0 n0_29) 1 n1_33) 2 n2_46) (va_up (va_up (va_up (Ez ((p0 + 1).toNat)) 0 z0_30) 1 z1_34) 2 z2_47) (va_up (va_up (va_up (EF ((p0 + 1).toNat)) 0 F0_31) 1 F1_35) 2 F2_48))) (ws' := ((xU cI cB cE o r n z F G (Eo 0 0)) ++ (eU cI (Eo ((p0 + 1).toNat)) (va_up (va_up (va_up (Er ((p0 + 1).toNat)) 0 r0_28) 1 r1_32) 2 r2_45) (va_up (va_up (va_up (En ((p0 + 1).toNat)) 0 n0_29) 1 n1_33) 2 n2_46) (va_up (va_up (va_up (Ez ((p0 + 1).toNat)) 0 z0_30) 1 z1_34) 2 z2_47) (va_up (va_up (va_up (EF ((p0 + 1).toNat)) 0 F0_31) 1 F1_35) 2 F2_48)))) hP hD [29, 30, 31, 32, 33, 34, 35, 36, 37, 38, 39, 40, 41, 42, 43, 44] [0, 1, 2, 3, 4, 5, 6, 7, 8, 9, 10, 11, 12, 13, 14, 15, 16, 17, 18, 19, 20, 21, 22, 23, 24, 25, 26, 27, 28] [0, 1, 2, 3, 4, 5, 6, 7, 8, 9, 10, 11, 12, 13, 14, 15, 16, 17, 18, 19, 20, 21, 22, 23, 24, 25, 26, 27, 28, 29, 30, 31, 32, 33, 34, 35, 36, 37, 38, 39, 40, 41, 42, 43, 44] rfl rfl (by decide) (by decide) hk1 hFc hP1 hD1 rfl (by decide)
            refine W.eq (g2 := F0 m 65 ls []) rfl ?_
            try dsimp only at hq_42
            try simp (decide := true) only [va_ev, ↓reduceIte] at hq_42
            obtain ⟨⟨ha49, hb49⟩, hc49, hlk49⟩ := hq_42
            have hpg49 := psg_le 40 (En ((p0 + 1).toNat) 2)
            have hpj49 := psj_le (L := 40) (by omega) (En ((p0 + 1).toNat) 2)
            refine lv_aload_n hx hb dX5_sign_65 rfl (lv_at hl 1 rfl) ?_
            have he_50 : 0 ≤ Ez ((p0 + 1).toNat) 2 ∧ Ez ((p0 + 1).toNat) 2 ≤ ((En ((p0 + 1).toNat) 2 : Nat) : Int) ∧ ((En ((p0 + 1).toNat) 2 : Nat) : Int) ≤ 40 := (hPE ((p0 + 1).toNat) hj19).1 2 (by decide)
            have hP : va_P (dC, dI) kxCl (((xU cI cB cE o r n z F G (Eo 0 0)) ++ (eU cI (Eo ((p0 + 1).toNat)) (va_up (va_up (va_up (Er ((p0 + 1).toNat)) 0 r0_28) 1 r1_32) 2 r2_45) (va_up (va_up (va_up (En ((p0 + 1).toNat)) 0 n0_29) 1 n1_33) 2 n2_46) (va_up (va_up (va_up (Ez ((p0 + 1).toNat)) 0 z0_30) 1 z1_34) 2 z2_47) (va_up (va_up (va_up (EF ((p0 + 1).toNat)) 0 F0_31) 1 F1_35) 2 F2_48))) ++ (eR cI N ((p0 + 1).toNat) Eo Er En Ez EF)) H := hP
            have hD : va_D A (((xU cI cB cE o r n z F G (Eo 0 0)) ++ (eU cI (Eo ((p0 + 1).toNat)) (va_up (va_up (va_up (Er ((p0 + 1).toNat)) 0 r0_28) 1 r1_32) 2 r2_45) (va_up (va_up (va_up (En ((p0 + 1).toNat)) 0 n0_29) 1 n1_33) 2 n2_46) (va_up (va_up (va_up (Ez ((p0 + 1).toNat)) 0 z0_30) 1 z1_34) 2 z2_47) (va_up (va_up (va_up (EF ((p0 + 1).toNat)) 0 F0_31) 1 F1_35) 2 F2_48))) ++ (eR cI N ((p0 + 1).toNat) Eo Er En Ez EF)) := hD
            have hP := eP_unf hj19 hP
            have hD := eD_unf hj19 hD
            have hPE51 := hPE.up ((p0 + 1).toNat) ((((hPE ((p0 + 1).toNat) hj19).i 0 (by decide) (show 0 ≤ z0_30 ∧ z0_30 ≤ ((n0_29 : Nat) : Int) ∧ ((n0_29 : Nat) : Int) ≤ 20 by omega) hb036 (by omega)).i 1 (by decide) (show 0 ≤ z1_34 ∧ z1_34 ≤ ((n1_33 : Nat) : Int) ∧ ((n1_33 : Nat) : Int) ≤ 20 by omega) hb136 (by omega)).i 2 (by decide) (show 0 ≤ z2_47 ∧ z2_47 ≤ ((n2_46 : Nat) : Int) ∧ ((n2_46 : Nat) : Int) ≤ 40 by omega) hb49 (by omega))
            have hef51 := hef.up ((p0 + 1).toNat) (z := (va_up (va_up (va_up (Ez ((p0 + 1).toNat)) 0 z0_30) 1 z1_34) 2 z2_47)) (n := (va_up (va_up (va_up (En ((p0 + 1).toNat)) 0 n0_29) 1 n1_33) 2 n2_46)) (F := (va_up (va_up (va_up (EF ((p0 + 1).toNat)) 0 F0_31) 1 F1_35) 2 F2_48)) (fun k hk => (vfr hk _ (by decide) (vfr hk _ (by decide) (vfr hk _ (by decide) rfl)))) (fun k hk => ⟨(vfr hk _ (by decide) (vfr hk _ (by decide) (vfr hk _ (by decide) rfl))), (vfr hk _ (by decide) (vfr hk _ (by decide) (vfr hk _ (by decide) rfl)))⟩)
            generalize eEr51 : va_up Er ((p0 + 1).toNat) (va_up (va_up (va_up (Er ((p0 + 1).toNat)) 0 r0_28) 1 r1_32) 2 r2_45) = Er51 at hP hD
            generalize eEn51 : va_up En ((p0 + 1).toNat) (va_up (va_up (va_up (En ((p0 + 1).toNat)) 0 n0_29) 1 n1_33) 2 n2_46) = En51 at hP hD hPE51 hef51
            generalize eEz51 : va_up Ez ((p0 + 1).toNat) (va_up (va_up (va_up (Ez ((p0 + 1).toNat)) 0 z0_30) 1 z1_34) 2 z2_47) = Ez51 at hP hD hPE51 hef51
            generalize eEF51 : va_up EF ((p0 + 1).toNat) (va_up (va_up (va_up (EF ((p0 + 1).toNat)) 0 F0_31) 1 F1_35) 2 F2_48) = EF51 at hP hD hPE51 hef51
            have hcl51_0 : Ez51 ((p0 + 1).toNat) 0 = z0_30 := by rw [← eEz51]; simp (decide := true) only [va_ev, ↓reduceIte]
            have hcl51_1 : Ez51 ((p0 + 1).toNat) 1 = z1_34 := by rw [← eEz51]; simp (decide := true) only [va_ev, ↓reduceIte]
            have hcl51_2 : Ez51 ((p0 + 1).toNat) 2 = z2_47 := by rw [← eEz51]; simp (decide := true) only [va_ev, ↓reduceIte]
            have hcl51_4 : Ez51 ((p0 + 1).toNat) 4 = Ez ((p0 + 1).toNat) 4 := by rw [← eEz51]; simp (decide := true) only [va_ev, ↓reduceIte]
            have hcl51_7 : Ez51 ((p0 + 1).toNat) 7 = Ez ((p0 + 1).toNat) 7 := by rw [← eEz51]; simp (decide := true) only [va_ev, ↓reduceIte]
            have hcl51_9 : Ez51 ((p0 + 1).toNat) 9 = Ez ((p0 + 1).toNat) 9 := by rw [← eEz51]; simp (decide := true) only [va_ev, ↓reduceIte]
            have hcF51_0 : EF51 ((p0 + 1).toNat) 0 = F0_31 := by rw [← eEF51]; simp (decide := true) only [va_ev, ↓reduceIte]
            have hcF51_1 : EF51 ((p0 + 1).toNat) 1 = F1_35 := by rw [← eEF51]; simp (decide := true) only [va_ev, ↓reduceIte]
            have hcF51_2 : EF51 ((p0 + 1).toNat) 2 = F2_48 := by rw [← eEF51]; simp (decide := true) only [va_ev, ↓reduceIte]
            have hcF51_4 : EF51 ((p0 + 1).toNat) 4 = EF ((p0 + 1).toNat) 4 := by rw [← eEF51]; simp (decide := true) only [va_ev, ↓reduceIte]
            have hxG9 : xG N (z 12) G Eo := ⟨by omega, by omega, by omega, fun e9 h9 => hN4 e9 (by omega)⟩
            have hP : va_P (dC, dI) kxCl (xU cI cB cE o r n z F G (Eo 0 0) ++ eP cI N Eo Er51 En51 Ez51 EF51) H := hP
            have hD : va_D A (xU cI cB cE o r n z F G (Eo 0 0) ++ eP cI N Eo Er51 En51 Ez51 EF51) := hD
            have hFc := xw_free hD hS hA
            refine xk_call (va_runV (As := []) (rest := []) ⟨hx, hb, hml, hown, hts⟩ (y_forgetRows l dC dI cI cB cE o r n z F G N Eo Er51 En51 Ez51 EF51  H.size hok hxG9 hPE51 ) (cwV 0 hts (kx_gV kq_21_xcalls_6 kq_21_xcalls_7 kq_21_xcalls_8 kq_18_xrows_4 kq_21_xcalls_9 rfl) rfl rfl rfl (by decide +kernel) ⟨Nat.le_of_ble_eq_true rfl, Nat.le_of_ble_eq_true rfl⟩) ⟨kx_blind, va_recv hK hP (ci := 5) (q0 := 0) rfl rfl, kx_give (ws := []) (tys := []) hP hD hK hG hZ hS hFc⟩ rfl rfl hl.1 rfl (lv_room (Nat.le_of_ble_eq_true rfl)) dX5_sign_66 ⟨show (((0 + dn_4) + dn_26) + dn_43) + 0 ≤ 200 from (by omega), show (((0 + dm_5) + dm_27) + dm_44) + 0 ≤ 60000 from (by omega)⟩) hS (fun q _ h => hFc q h) hFc (fun u dn_54 dm_55 t H locs ht hvm hq_52 hB hk1 hS => ?_)
            obtain ⟨r_56, n_57, z_58, F_59, Er_60, En_61, Ez_62, EF_63⟩ := u
            obtain ⟨hP, hK1, hD1⟩ := hB
            rw [ht] at hP
            have hD := hD1.weaken (fun _ q _ h => hFc _ h)
            obtain ⟨hR64, hC64, hq_52⟩ := hq_52
            obtain ⟨rfl, rfl, rfl, rfl, rfl, rfl, rfl, hq_52⟩ := hq_52
            subst hq_52
            have hP : va_P (dC, dI) kxCl ((xU cI cB cE o r n (va_up (va_up z 15 0) 16 (-1)) F G (Eo 0 0)) ++ (eP cI N Eo Er51 En51 Ez51 EF51)) H := hP
            have hD : va_D A ((xU cI cB cE o r n (va_up (va_up z 15 0) 16 (-1)) F G (Eo 0 0)) ++ (eP cI N Eo Er51 En51 Ez51 EF51)) := hD
            refine W.eq (g2 := F0 m 69 ls []) rfl ?_
            refine lv_aload_n hx hb dX5_sign_69 rfl (lv_at hl 0 rfl) ?_
            have hP := eP_foc hj19 hP
            have hD := eD_foc hj19 hD
            refine va_getN (D := (dC, dI)) (ci := 0) (v := .ref (Eo ((p0 + 1).toNat) 1)) (C := RX0) (T := TX0) (N := 12) hx hb hts kt_X0 hown hK hP 29 rfl rfl 2 (by decide) (va_Nw.use rfl (kx_nf hG kq_19_xouts_70)) (fun _ h9 => h9) rfl dX5_sign_70 ?_
            have he_65 : 0 ≤ Ez51 ((p0 + 1).toNat) 0 ∧ Ez51 ((p0 + 1).toNat) 0 ≤ ((En51 ((p0 + 1).toNat) 0 : Nat) : Int) ∧ ((En51 ((p0 + 1).toNat) 0 : Nat) : Int) ≤ 20 := (hPE51 ((p0 + 1).toNat) hj19).1 0 (by decide)
            have hPc := hP.sub (ws' := (iU cI 20 (Eo ((p0 + 1).toNat) 1) (Er51 ((p0 + 1).toNat) 0) (En51 ((p0 + 1).toNat) 0) (Ez51 ((p0 + 1).toNat) 0) (EF51 ((p0 + 1).toNat) 0))) [30, 31] rfl
            refine xk_pure (va_runV (As := []) (rest := []) ⟨hx, hb, hml, hown, hts⟩ (x_size l dC dI cI cB cE 20 (Eo ((p0 + 1).toNat) 1) (Er51 ((p0 + 1).toNat) 0) (En51 ((p0 + 1).toNat) 0) (Ez51 ((p0 + 1).toNat) 0) (EF51 ((p0 + 1).toNat) 0)  H.size ) (cwV 0 hts (kx_gV kq_18_xrows_40 kq_15_xspan_10 kq_15_xspan_11 kq_13_xints_6 kq_15_xspan_12 rfl) rfl rfl rfl (by decide +kernel) ⟨Nat.le_of_ble_eq_true rfl, Nat.le_of_ble_eq_true rfl⟩) ⟨pPre_blind, va_recv hK hPc (ci := 1) (q0 := 0) rfl rfl, pPre_give hPc hK hG⟩ rfl rfl hl.1 rfl (lv_room (Nat.le_of_ble_eq_true rfl)) dX5_sign_73 ⟨show ((((0 + dn_4) + dn_26) + dn_43) + dn_54) + 0 ≤ 200 from (by omega), show ((((0 + dm_5) + dm_27) + dm_44) + dm_55) + 0 ≤ 60000 from (by omega)⟩) hS (fun z_67 locs hq_66 hS => ?_)
            refine W.eq (g2 := F0 m 76 ls [.int (iz z_67)]) rfl ?_
            try dsimp only at hq_66
            have hq_66 := hq_66.symm
            subst hq_66
            have hP := eP_un0 hj19 hP
            have hD := eD_un0 hj19 hD
            have hxz_68 : -2147483648 ≤ z 15 ∧ z 15 < 2147483648 := hok.2.2.2.1 15
            have hxb_69 : z 15 = 0 ∨ z 15 = 1 := hok.2.2.2.2 15 (by decide)
            have hxz_70 : -2147483648 ≤ z 16 ∧ z 16 < 2147483648 := hok.2.2.2.1 16
            have hok71 : xOk n (va_up (va_up z 15 0) 16 (-1)) F := ((hok.s 15 (by decide) (show -2147483648 ≤ 0 ∧ 0 < 2147483648 by omega) (by omega)).s 16 (by decide) (show -2147483648 ≤ (-1) ∧ (-1) < 2147483648 by omega) (by omega))
            have hfr71 : xFr [15, 16] [] z F (va_up (va_up z 15 0) 16 (-1)) F := ((hfr.uz 15 (by decide) _).uz 16 (by decide) _)
            refine vx_ret ?_
            exact xk_iret (ov := (fun u : (Int) × (Nat → Nat) × (Nat → Nat) × (Nat → Int) × (Nat → Int → Int) × (Nat → Nat → Nat) × (Nat → Nat → Nat) × (Nat → Nat → Int) × (Nat → Nat → Int → Int) => match u with | (q, r', n', z', F', Er', En', Ez', EF') => some (.int (iz q)))) (post := (fun (u : (Int) × (Nat → Nat) × (Nat → Nat) × (Nat → Int) × (Nat → Int → Int) × (Nat → Nat → Nat) × (Nat → Nat → Nat) × (Nat → Nat → Int) × (Nat → Nat → Int → Int)) (dn dm : Nat) => match u with | (q, r', n', z', F', Er', En', Ez', EF') => xR [15, 16] [] [0, 1, 2] [0, 1, 2] N z F En Ez EF n' z' F' En' Ez' EF' ∧ (dn + xg n' ≤ xg n + 50 ∧ dm + xp n' ≤ xp n + 400) ∧ (((((0 ≤ p0 ∧ p0 < z 12) ∧ (0 ≤ p1 ∧ p1 ≤ 255) ∧ Ez ((p0 + 1).toNat) 0 < 20 ∧ q = Ez ((p0 + 1).toNat) 0 + 1 ∧ Ez' ((p0 + 1).toNat) 0 = Ez ((p0 + 1).toNat) 0 + 1 ∧ (∀ j, j ≠ ((p0 + 1).toNat) → Ez' j = Ez j ∧ EF' j = EF j)) ∧ (iAdd 20 (Ez ((p0 + 1).toNat) 0) (EF ((p0 + 1).toNat) 0) (Ez' ((p0 + 1).toNat) 0) (EF' ((p0 + 1).toNat) 0) p1 ∧ iAdd 20 (Ez ((p0 + 1).toNat) 1) (EF ((p0 + 1).toNat) 1) (Ez' ((p0 + 1).toNat) 1) (EF' ((p0 + 1).toNat) 1) (kf_rk p1) ∧ kf_ls (EF' ((p0 + 1).toNat) 2) 0 (Ez' ((p0 + 1).toNat) 2).toNat = kf_kI (EF' ((p0 + 1).toNat) 0) (Ez' ((p0 + 1).toNat) 0) (z 13) (z 14) 0 0 0)) ∧ z' 15 = 0) ∧ z' 16 = -1))) (ws := (fun u : (Int) × (Nat → Nat) × (Nat → Nat) × (Nat → Int) × (Nat → Int → Int) × (Nat → Nat → Nat) × (Nat → Nat → Nat) × (Nat → Nat → Int) × (Nat → Nat → Int → Int) => match u with | (q, r', n', z', F', Er', En', Ez', EF') => (xU cI cB cE o r' n' z' F' G (Eo 0 0) ++ eP cI N Eo Er' En' Ez' EF'))) (tys := xT cI cB cE) (z := Ez51 ((p0 + 1).toNat) 0) (Ez51 ((p0 + 1).toNat) 0, r, n, (va_up (va_up z 15 0) 16 (-1)), F, Er51, En51, Ez51, EF51) hx hb hr rfl hlocks rfl hP hD hK hS dX5_sign_76 (fun dn dm hdn hdm => ⟨⟨hok71, hfr71, hPE51, hef51⟩, ⟨by omega, by omega⟩, ⟨⟨⟨⟨by omega, by omega, by omega, by omega, by omega, fun j hj => ⟨by rw [← eEz51]; exact va_up_ne _ _ hj, by rw [← eEF51]; exact va_up_ne _ _ hj⟩⟩, (by rw [hcl51_0, hcF51_0]; exact hd36), (by rw [hcl51_1, hcF51_1]; exact hdr36), (by rw [hcl51_0, hcF51_0, hcl51_2, hcF51_2]; exact hlk49)⟩, rfl⟩, rfl⟩⟩) (by omega) (by omega)
          · omega
      · skip
        exact ky_thr_IAE hx hb hlf hown hG hZ hS (hl.1.trans hml.symm) dX5_sign_16 dX5_sign_19 dX5_sign_20 dX5_sign_23 htab (Nat.le_of_ble_eq_true rfl) (Nat.le_of_ble_eq_true rfl) (show (0 + dn_4) + 1 ≤ 200 from (by omega)) (show (0 + dm_5) + 6 ≤ 60000 from (by omega)) hlocks (Or.inr (Or.inl ⟨rfl, by first | trivial | omega⟩)) (fun t hvm h1 h2 => ⟨(r, n, z, F, Er, En, Ez, EF), ⟨hok, xFr.rf, hPE, eFr.rf⟩, hP.kept (fun k q hk => h2 q.1 (hP k q hk).lt), va_K.moved hvm hK, hD⟩) hS.2.2 (by omega) (by omega) (by omega) (by omega)
set_option maxHeartbeats 4000000 in
set_option maxRecDepth 100000 in
theorem y_rule5 (l : Launch) (hlf : l.stackTraces = false) (dC : Nat → ClassId) (dI : Nat → Nat → Nat) (cI cB cE : ClassId) (o r n : Nat → Nat) (z : Nat → Int) (F : Nat → Int → Int) (G : Nat → Option Nat) (N : Nat) (Eo Er En : Nat → Nat → Nat) (Ez : Nat → Nat → Int) (EF : Nat → Nat → Int → Int) (p0 : Int) (p1 : Int) (sz : Nat) (hok : xOk n z F) (hxG : xG N (z 12) G Eo) (hPE : eA N En Ez EF) (hp01 : -2147483648 ≤ p0) (hp02 : p0 < 2147483648) (hp1 : p1 = 0 ∨ p1 = 1) (hsgA : ∀ j : Nat, 1 ≤ j → j < N → ∀ i, 0 ≤ i → i < Ez j 0 → 0 ≤ EF j 0 i ∧ EF j 0 i ≤ 255) : vx_Met l yX5_rule [.code yX5_rule cX5_rule 4 (some .int)] ({ frames := 7, cells := 1000, slots := 60000, locals := 173 }) (va_Pc [.ref (o 15), .int (iz p0), .int (iz p1)] (kx_Pre dC dI (xU cI cB cE o r n z F G (Eo 0 0) ++ eP cI N Eo Er En Ez EF) (xT cI cB cE) sz)) (xQ (fun u : (Int) × (Nat → Nat) × (Nat → Nat) × (Nat → Int) × (Nat → Int → Int) × (Nat → Nat → Nat) × (Nat → Nat → Nat) × (Nat → Nat → Int) × (Nat → Nat → Int → Int) => match u with | (q, r', n', z', F', Er', En', Ez', EF') => some (.int (iz q))) (fun (u : (Int) × (Nat → Nat) × (Nat → Nat) × (Nat → Int) × (Nat → Int → Int) × (Nat → Nat → Nat) × (Nat → Nat → Nat) × (Nat → Nat → Int) × (Nat → Nat → Int → Int)) (dn dm : Nat) => match u with | (q, r', n', z', F', Er', En', Ez', EF') => xR [13, 14, 15, 16] [] [2] [2] N z F En Ez EF n' z' F' En' Ez' EF' ∧ (dn + xg n' ≤ xg n + 720 ∧ dm + xp n' ≤ xp n + 9600) ∧ (((((p0 = 0 ∧ q = z 13 ∧ z' 13 = p1 ∧ z' 14 = z 14) ∨ (p0 = 1 ∧ q = z 14 ∧ z' 14 = p1 ∧ z' 13 = z 13)) ∧ ((z' 13 = z 13 ∧ z' 14 = z 14 ∧ ∀ j, Ez' j = Ez j ∧ EF' j = EF j) ∨ (∀ j : Nat, 1 ≤ j → (j : Int) ≤ z 12 → kf_ls (EF' j 2) 0 (Ez' j 2).toNat = kf_kI (EF j 0) (Ez j 0) (z' 13) (z' 14) 0 0 0))) ∧ (z' 15 = 0 ∨ ((z' 15 = z 15 ∧ z' 13 = z 13 ∧ z' 14 = z 14 ∧ z' 1 = z 1) ∧ F' 1 = F 1 ∧ ∀ j, Ez' j = Ez j))) ∧ (z' 16 = -1 ∨ (z' 16 = z 16 ∧ z' 15 = z 15)))) (fun u t => kx_At dC dI (va_A (xU cI cB cE o r n z F G (Eo 0 0) ++ eP cI N Eo Er En Ez EF) sz) ((fun u : (Int) × (Nat → Nat) × (Nat → Nat) × (Nat → Int) × (Nat → Int → Int) × (Nat → Nat → Nat) × (Nat → Nat → Nat) × (Nat → Nat → Int) × (Nat → Nat → Int → Int) => match u with | (q, r', n', z', F', Er', En', Ez', EF') => (xU cI cB cE o r' n' z' F' G (Eo 0 0) ++ eP cI N Eo Er' En' Ez' EF')) u) (xT cI cB cE) t) (va_A (xU cI cB cE o r n z F G (Eo 0 0) ++ eP cI N Eo Er En Ez EF) sz)) (yX (fun E => (E = "java/lang/IllegalArgumentException" ∧ (¬ p0 = 0 ∧ ¬ p0 = 1))) 1 6 (fun t => ∃ u : (Nat → Nat) × (Nat → Nat) × (Nat → Int) × (Nat → Int → Int) × (Nat → Nat → Nat) × (Nat → Nat → Nat) × (Nat → Nat → Int) × (Nat → Nat → Int → Int), match u with | (r', n', z', F', Er', En', Ez', EF') => xR [] [] [] [] N z F En Ez EF n' z' F' En' Ez' EF' ∧ kx_At dC dI (va_A (xU cI cB cE o r n z F G (Eo 0 0) ++ eP cI N Eo Er En Ez EF) sz) (xU cI cB cE o r' n' z' F' G (Eo 0 0) ++ eP cI N Eo Er' En' Ez' EF') (xT cI cB cE) t) (va_A (xU cI cB cE o r n z F G (Eo 0 0) ++ eP cI N Eo Er En Ez EF) sz)) 1000 60000 (va_A (xU cI cB cE o r n z F G (Eo 0 0) ++ eP cI N Eo Er En Ez EF) sz) := by
  refine vx_ofW (cc := cX5_rule) (maxL := 4) (ret := (some .int)) (by decide) rfl ?_
  intro p e s m args below meth c s₁ B hml htab hv
  obtain ⟨rfl, hsz, hP, hK, hD0, hG, hZ⟩ := hv
  have hx := B.exec
  have hb := B.bytes
  have hr := B.returns
  have hts := kx_hts (a := ([.ref (o 15), .int (iz p0), .int (iz p1)] : List Value).toArray) hG
  have hown : s.vm.findClass RX5 = some m.cls := findClass_of_methodNamed B.named
  have hlocks := B.notSynchronized
  subst hsz
  have hD := hD0.self (sz := s.heap.size)
  generalize hAe : va_A (xU cI cB cE o r n z F G (Eo 0 0) ++ eP cI N Eo Er En Ez EF) s.heap.size = A at hD hZ ⊢
  have hA : ∀ q : Nat, s.heap.size ≤ q → A q := fun q h => by rw [← hAe]; exact Or.inr h
  have hS : va_S A s.heap s.heap [] := va_S.rf
  have hl := lv_entry ([.ref (o 15), .int (iz p0), .int (iz p1)]) (n := 4) (Nat.le_of_ble_eq_true rfl)
  rw [lg_entry_eq]
  generalize (lg_sl ([.ref (o 15), .int (iz p0), .int (iz p1)]) ++ List.replicate (4 - (lg_sl ([.ref (o 15), .int (iz p0), .int (iz p1)])).length) Slot.unset).toArray = ls at hl ⊢
  obtain ⟨hN1, hN2, hN3, hN4⟩ := hxG
  have hef : eFr [2] [2] En Ez EF En Ez EF := eFr.rf
  have hfr : xFr [13, 14, 15, 16] [] z F z F := xFr.rf
  have hxgl := xg_le n
  have hxpl := xp_le n
  have hl : lv_has ls 4 [(0, .ref (o 15)), (1, .int (iz p0)), (2, .int (iz p1))] := hl
  refine lv_iload_n hx hb dX5_rule_0 rfl (lv_at hl 1 rfl) ?_
  refine ki_if_lt (tgt := 9) hx hb dX5_rule_1 (by decide) (by omega) (by omega) (fun c_1 => ?_) (fun c_1 => ?_)
  · skip
    exact ky_thr_IAE hx hb hlf hown hG hZ hS (hl.1.trans hml.symm) dX5_rule_9 dX5_rule_12 dX5_rule_13 dX5_rule_16 htab (Nat.le_of_ble_eq_true rfl) (Nat.le_of_ble_eq_true rfl) (show 0 + 1 ≤ 1000 from (by omega)) (show 0 + 6 ≤ 60000 from (by omega)) hlocks (⟨rfl, by first | trivial | omega⟩) (fun t hvm h1 h2 => ⟨(r, n, z, F, Er, En, Ez, EF), ⟨hok, xFr.rf, hPE, eFr.rf⟩, hP.kept (fun k q hk => h2 q.1 (hP k q hk).lt), va_K.moved hvm hK, hD⟩) hS.2.2 (by omega) (by omega) (by omega) (by omega)
  · skip
    refine lv_iload_n hx hb dX5_rule_4 rfl (lv_at hl 1 rfl) ?_
    refine lv_iconst (v := iz 1) hx hb dX5_rule_5 (by decide) ?_
    refine ki_icmp_le (tgt := 17) hx hb dX5_rule_6 (by decide) (by omega) (by omega) (by omega) (by omega) (fun c_2 => ?_) (fun c_2 => ?_)
    · skip
      refine lv_iload_n hx hb dX5_rule_17 rfl (lv_at hl 1 rfl) ?_
      refine ki_if_ne (tgt := 28) hx hb dX5_rule_18 (by decide) (by omega) (by omega) (fun c_3 => ?_) (fun c_3 => ?_)
      · skip
        refine lv_aload_n hx hb dX5_rule_28 rfl (lv_at hl 0 rfl) ?_
        have hxz_4 : -2147483648 ≤ z 14 ∧ z 14 < 2147483648 := hok.2.2.2.1 14
        have hxb_5 : z 14 = 0 ∨ z 14 = 1 := hok.2.2.2.2 14 (by decide)
        refine va_get (D := (dC, dI)) (ci := 5) (v := .int (iz (z 14))) (C := RX5) (T := TX5) (N := 16) hx hb hts kt_X5 hown hK hP 0 rfl rfl 4 (by decide) (kx_word hG kq_18_xrows_32 rfl) (fun _ h9 => h9) rfl dX5_rule_29 ?_
        refine lv_istore_n (lv' := [(3, .int (iz (z 14))), (0, .ref (o 15)), (1, .int (iz p0)), (2, .int (iz p1))]) hx hb dX5_rule_32 rfl hl (by decide) rfl (fun ls hl => ?_)
        refine lv_iload_n hx hb dX5_rule_33 rfl (lv_at hl 2 rfl) ?_
        refine ki_if_ne (tgt := 45) hx hb dX5_rule_34 (by decide) (by omega) (by omega) (fun c_6 => ?_) (fun c_6 => ?_)
        · skip
          refine lv_aload_n hx hb dX5_rule_45 rfl (lv_at hl 1 rfl) ?_
          refine lv_iload_n hx hb dX5_rule_46 rfl (lv_at hl 3 rfl) ?_
          refine va_put (D := (dC, dI)) (ci := 5) (v := .int (iz p1)) (ty := .boolean) (C := RX5) (T := TX5) (N := 16) hx hb hts kt_X5 tyX5 tyX5_ok nmX5 hown hK hP hD hS 0 rfl rfl 4 (by decide) (kx_word hG kq_18_xrows_32 rfl) (fun _ h9 => h9) rfl (by decide +kernel) (mz_bool (by omega)).1 (mz_bool (by omega)).2 (Nat.le_of_ble_eq_true rfl) dX5_rule_47 (fun H locs hP hD hS => ?_)
          have hP : va_P (dC, dI) kxCl ((xU cI cB cE o r n (va_up z 14 p1) F G (Eo 0 0)) ++ (eP cI N Eo Er En Ez EF)) H := hP
          have hD : va_D A ((xU cI cB cE o r n (va_up z 14 p1) F G (Eo 0 0)) ++ (eP cI N Eo Er En Ez EF)) := hD
          refine lv_iload_n hx hb dX5_rule_50 rfl (lv_at hl 0 rfl) ?_
          refine lv_iload_n hx hb dX5_rule_51 rfl (lv_at hl 3 rfl) ?_
          refine ki_icmp_eq (tgt := 63) hx hb dX5_rule_52 (by decide) (by omega) (by omega) (by omega) (by omega) (fun c_7 => ?_) (fun c_7 => ?_)
          · skip
            refine lv_iload_n hx hb dX5_rule_63 rfl (lv_at hl 0 rfl) ?_
            refine ki_if_eq (tgt := 71) hx hb dX5_rule_64 (by decide) (by omega) (by omega) (fun c_8 => ?_) (fun c_8 => ?_)
            · skip
              refine lv_iconst (v := iz 0) hx hb dX5_rule_71 (by decide) ?_
              have hok9 : xOk n (va_up z 14 p1) F := (hok.s 14 (by decide) (show -2147483648 ≤ p1 ∧ p1 < 2147483648 by omega) (by omega))
              have hfr9 : xFr [13, 14, 15, 16] [] z F (va_up z 14 p1) F := (hfr.uz 14 (by decide) _)
              have hzo13 : (va_up z 14 p1) 13 = z 13 := rfl
              have hzo14 : (va_up z 14 p1) 14 = p1 := rfl
              refine vx_ret ?_
              exact xk_iret (ov := (fun u : (Int) × (Nat → Nat) × (Nat → Nat) × (Nat → Int) × (Nat → Int → Int) × (Nat → Nat → Nat) × (Nat → Nat → Nat) × (Nat → Nat → Int) × (Nat → Nat → Int → Int) => match u with | (q, r', n', z', F', Er', En', Ez', EF') => some (.int (iz q)))) (post := (fun (u : (Int) × (Nat → Nat) × (Nat → Nat) × (Nat → Int) × (Nat → Int → Int) × (Nat → Nat → Nat) × (Nat → Nat → Nat) × (Nat → Nat → Int) × (Nat → Nat → Int → Int)) (dn dm : Nat) => match u with | (q, r', n', z', F', Er', En', Ez', EF') => xR [13, 14, 15, 16] [] [2] [2] N z F En Ez EF n' z' F' En' Ez' EF' ∧ (dn + xg n' ≤ xg n + 720 ∧ dm + xp n' ≤ xp n + 9600) ∧ (((((p0 = 0 ∧ q = z 13 ∧ z' 13 = p1 ∧ z' 14 = z 14) ∨ (p0 = 1 ∧ q = z 14 ∧ z' 14 = p1 ∧ z' 13 = z 13)) ∧ ((z' 13 = z 13 ∧ z' 14 = z 14 ∧ ∀ j, Ez' j = Ez j ∧ EF' j = EF j) ∨ (∀ j : Nat, 1 ≤ j → (j : Int) ≤ z 12 → kf_ls (EF' j 2) 0 (Ez' j 2).toNat = kf_kI (EF j 0) (Ez j 0) (z' 13) (z' 14) 0 0 0))) ∧ (z' 15 = 0 ∨ ((z' 15 = z 15 ∧ z' 13 = z 13 ∧ z' 14 = z 14 ∧ z' 1 = z 1) ∧ F' 1 = F 1 ∧ ∀ j, Ez' j = Ez j))) ∧ (z' 16 = -1 ∨ (z' 16 = z 16 ∧ z' 15 = z 15))))) (ws := (fun u : (Int) × (Nat → Nat) × (Nat → Nat) × (Nat → Int) × (Nat → Int → Int) × (Nat → Nat → Nat) × (Nat → Nat → Nat) × (Nat → Nat → Int) × (Nat → Nat → Int → Int) => match u with | (q, r', n', z', F', Er', En', Ez', EF') => (xU cI cB cE o r' n' z' F' G (Eo 0 0) ++ eP cI N Eo Er' En' Ez' EF'))) (tys := xT cI cB cE) (z := 0) (0, r, n, (va_up z 14 p1), F, Er, En, Ez, EF) hx hb hr rfl hlocks rfl hP hD hK hS dX5_rule_72 (fun dn dm hdn hdm => ⟨⟨hok9, hfr9, hPE, hef⟩, ⟨by omega, by omega⟩, ⟨⟨⟨by omega, Or.inl ⟨by omega, by omega, fun j => ⟨rfl, rfl⟩⟩⟩, Or.inr ⟨⟨rfl, by omega, by omega, rfl⟩, rfl, fun j => rfl⟩⟩, Or.inr ⟨rfl, rfl⟩⟩⟩) (by omega) (by omega)
            · skip
              refine lv_iconst (v := iz 1) hx hb dX5_rule_67 (by decide) ?_
              refine lv_goto (tgt := 72) hx hb dX5_rule_68 (by decide) ?_
              have hok10 : xOk n (va_up z 14 p1) F := (hok.s 14 (by decide) (show -2147483648 ≤ p1 ∧ p1 < 2147483648 by omega) (by omega))
              have hfr10 : xFr [13, 14, 15, 16] [] z F (va_up z 14 p1) F := (hfr.uz 14 (by decide) _)
              have hzo13 : (va_up z 14 p1) 13 = z 13 := rfl
              have hzo14 : (va_up z 14 p1) 14 = p1 := rfl
              refine vx_ret ?_
              exact xk_iret (ov := (fun u : (Int) × (Nat → Nat) × (Nat → Nat) × (Nat → Int) × (Nat → Int → Int) × (Nat → Nat → Nat) × (Nat → Nat → Nat) × (Nat → Nat → Int) × (Nat → Nat → Int → Int) => match u with | (q, r', n', z', F', Er', En', Ez', EF') => some (.int (iz q)))) (post := (fun (u : (Int) × (Nat → Nat) × (Nat → Nat) × (Nat → Int) × (Nat → Int → Int) × (Nat → Nat → Nat) × (Nat → Nat → Nat) × (Nat → Nat → Int) × (Nat → Nat → Int → Int)) (dn dm : Nat) => match u with | (q, r', n', z', F', Er', En', Ez', EF') => xR [13, 14, 15, 16] [] [2] [2] N z F En Ez EF n' z' F' En' Ez' EF' ∧ (dn + xg n' ≤ xg n + 720 ∧ dm + xp n' ≤ xp n + 9600) ∧ (((((p0 = 0 ∧ q = z 13 ∧ z' 13 = p1 ∧ z' 14 = z 14) ∨ (p0 = 1 ∧ q = z 14 ∧ z' 14 = p1 ∧ z' 13 = z 13)) ∧ ((z' 13 = z 13 ∧ z' 14 = z 14 ∧ ∀ j, Ez' j = Ez j ∧ EF' j = EF j) ∨ (∀ j : Nat, 1 ≤ j → (j : Int) ≤ z 12 → kf_ls (EF' j 2) 0 (Ez' j 2).toNat = kf_kI (EF j 0) (Ez j 0) (z' 13) (z' 14) 0 0 0))) ∧ (z' 15 = 0 ∨ ((z' 15 = z 15 ∧ z' 13 = z 13 ∧ z' 14 = z 14 ∧ z' 1 = z 1) ∧ F' 1 = F 1 ∧ ∀ j, Ez' j = Ez j))) ∧ (z' 16 = -1 ∨ (z' 16 = z 16 ∧ z' 15 = z 15))))) (ws := (fun u : (Int) × (Nat → Nat) × (Nat → Nat) × (Nat → Int) × (Nat → Int → Int) × (Nat → Nat → Nat) × (Nat → Nat → Nat) × (Nat → Nat → Int) × (Nat → Nat → Int → Int) => match u with | (q, r', n', z', F', Er', En', Ez', EF') => (xU cI cB cE o r' n' z' F' G (Eo 0 0) ++ eP cI N Eo Er' En' Ez' EF'))) (tys := xT cI cB cE) (z := 1) (1, r, n, (va_up z 14 p1), F, Er, En, Ez, EF) hx hb hr rfl hlocks rfl hP hD hK hS dX5_rule_72 (fun dn dm hdn hdm => ⟨⟨hok10, hfr10, hPE, hef⟩, ⟨by omega, by omega⟩, ⟨⟨⟨by omega, Or.inl ⟨by omega, by omega, fun j => ⟨rfl, rfl⟩⟩⟩, Or.inr ⟨⟨rfl, by omega, by omega, rfl⟩, rfl, fun j => rfl⟩⟩, Or.inr ⟨rfl, rfl⟩⟩⟩) (by omega) (by omega)
          · skip
            refine lv_aload_n hx hb dX5_rule_55 rfl (lv_at hl 1 rfl) ?_
            have hok11 : xOk n (va_up z 14 p1) F := (hok.s 14 (by decide) (show -2147483648 ≤ p1 ∧ p1 < 2147483648 by omega) (by omega))
            have hfr11 : xFr [13, 14, 15, 16] [] z F (va_up z 14 p1) F := (hfr.uz 14 (by decide) _)
            have hxz_12 : -2147483648 ≤ z 12 ∧ z 12 < 2147483648 := hok.2.2.2.1 12
            have hxG9 : xG N (z 12) G Eo := ⟨by omega, by omega, by omega, fun e9 h9 => hN4 e9 (by omega)⟩
            have hP : va_P (dC, dI) kxCl (xU cI cB cE o r n (va_up z 14 p1) F G (Eo 0 0) ++ eP cI N Eo Er En Ez EF) H := hP
            have hD : va_D A (xU cI cB cE o r n (va_up z 14 p1) F G (Eo 0 0) ++ eP cI N Eo Er En Ez EF) := hD
            have hFc := xw_free hD hS hA
            refine xk_call (va_runV (As := []) (rest := []) ⟨hx, hb, hml, hown, hts⟩ (y_makeKeys2 l dC dI cI cB cE o r n (va_up z 14 p1) F G N Eo Er En Ez EF  H.size hok11 hxG9 hPE hsgA) (cwV 0 hts (kx_gV kq_21_xcalls_2 kq_21_xcalls_3 kq_21_xcalls_4 kq_18_xrows_4 kq_21_xcalls_5 rfl) rfl rfl rfl (by decide +kernel) ⟨Nat.le_of_ble_eq_true rfl, Nat.le_of_ble_eq_true rfl⟩) ⟨kx_blind, va_recv hK hP (ci := 5) (q0 := 0) rfl rfl, kx_give (ws := []) (tys := []) hP hD hK hG hZ hS hFc⟩ rfl rfl hl.1 rfl (lv_room (Nat.le_of_ble_eq_true rfl)) dX5_rule_56 ⟨show 0 + 900 ≤ 1000 from (by omega), show 0 + 55000 ≤ 60000 from (by omega)⟩) hS (fun q _ h => hFc q h) hFc (fun u dn_15 dm_16 t H locs ht hvm hq_13 hB hk1 hS => ?_)
            obtain ⟨r_17, n_18, z_19, F_20, Er_21, En_22, Ez_23, EF_24⟩ := u
            obtain ⟨hP, hK1, hD1⟩ := hB
            rw [ht] at hP
            have hD := hD1.weaken (fun _ q _ h => hFc _ h)
            obtain ⟨hR25, hC25, hq_13⟩ := hq_13
            have hok25 := hR25.1
            have hfr25 := hfr11.tr (hR25.2.1.mono (S' := [13, 14, 15, 16]) (T' := []) (by decide) (by decide))
            have hPE25 := hR25.2.2.1
            have hef25 := hef.tr (hR25.2.2.2.mono (S' := [2]) (T' := [2]) (by decide) (by decide))
            have hz25 : z_19 12 = (z 12) := hR25.2.1.1 12 (by decide)
            have hkr25_13 : z_19 13 = z 13 := hR25.2.1.1 13 (by decide)
            have hkr25_14 : z_19 14 = p1 := hR25.2.1.1 14 (by decide)
            refine W.eq (g2 := F0 m 59 ls []) rfl ?_
            try dsimp only at hq_13
            try simp (decide := true) only [va_ev, ↓reduceIte] at hq_13
            refine lv_aload_n hx hb dX5_rule_59 rfl (lv_at hl 1 rfl) ?_
            have hxz_26 : -2147483648 ≤ z_19 12 ∧ z_19 12 < 2147483648 := hok25.2.2.2.1 12
            have hxG9 : xG N (z_19 12) G Eo := ⟨by omega, by omega, by omega, fun e9 h9 => hN4 e9 (by omega)⟩
            have hP : va_P (dC, dI) kxCl (xU cI cB cE o r_17 n_18 z_19 F_20 G (Eo 0 0) ++ eP cI N Eo Er_21 En_22 Ez_23 EF_24) H := hP
            have hD : va_D A (xU cI cB cE o r_17 n_18 z_19 F_20 G (Eo 0 0) ++ eP cI N Eo Er_21 En_22 Ez_23 EF_24) := hD
            have hFc := xw_free hD hS hA
            refine xk_call (va_runV (As := []) (rest := []) ⟨hx, hb, hml, hown, hts⟩ (y_forgetRows l dC dI cI cB cE o r_17 n_18 z_19 F_20 G N Eo Er_21 En_22 Ez_23 EF_24  H.size hok25 hxG9 hPE25 ) (cwV 0 hts (kx_gV kq_21_xcalls_6 kq_21_xcalls_7 kq_21_xcalls_8 kq_18_xrows_4 kq_21_xcalls_9 rfl) rfl rfl rfl (by decide +kernel) ⟨Nat.le_of_ble_eq_true rfl, Nat.le_of_ble_eq_true rfl⟩) ⟨kx_blind, va_recv hK hP (ci := 5) (q0 := 0) rfl rfl, kx_give (ws := []) (tys := []) hP hD hK hG hZ hS hFc⟩ rfl rfl hl.1 rfl (lv_room (Nat.le_of_ble_eq_true rfl)) dX5_rule_60 ⟨show (0 + dn_15) + 0 ≤ 1000 from (by omega), show (0 + dm_16) + 0 ≤ 60000 from (by omega)⟩) hS (fun q _ h => hFc q h) hFc (fun u dn_29 dm_30 t H locs ht hvm hq_27 hB hk1 hS => ?_)
            obtain ⟨r_31, n_32, z_33, F_34, Er_35, En_36, Ez_37, EF_38⟩ := u
            obtain ⟨hP, hK1, hD1⟩ := hB
            rw [ht] at hP
            have hD := hD1.weaken (fun _ q _ h => hFc _ h)
            obtain ⟨hR39, hC39, hq_27⟩ := hq_27
            obtain ⟨rfl, rfl, rfl, rfl, rfl, rfl, rfl, hq_27⟩ := hq_27
            subst hq_27
            have hP : va_P (dC, dI) kxCl ((xU cI cB cE o r_17 n_18 (va_up (va_up z_19 15 0) 16 (-1)) F_20 G (Eo 0 0)) ++ (eP cI N Eo Er_21 En_22 Ez_23 EF_24)) H := hP
            have hD : va_D A ((xU cI cB cE o r_17 n_18 (va_up (va_up z_19 15 0) 16 (-1)) F_20 G (Eo 0 0)) ++ (eP cI N Eo Er_21 En_22 Ez_23 EF_24)) := hD
            refine W.eq (g2 := F0 m 63 ls []) rfl ?_
            refine lv_iload_n hx hb dX5_rule_63 rfl (lv_at hl 0 rfl) ?_
            refine ki_if_eq (tgt := 71) hx hb dX5_rule_64 (by decide) (by omega) (by omega) (fun c_40 => ?_) (fun c_40 => ?_)
            · skip
              refine lv_iconst (v := iz 0) hx hb dX5_rule_71 (by decide) ?_
              have hxz_41 : -2147483648 ≤ z_19 15 ∧ z_19 15 < 2147483648 := hok25.2.2.2.1 15
              have hxb_42 : z_19 15 = 0 ∨ z_19 15 = 1 := hok25.2.2.2.2 15 (by decide)
              have hxz_43 : -2147483648 ≤ z_19 16 ∧ z_19 16 < 2147483648 := hok25.2.2.2.1 16
              have hok44 : xOk n_18 (va_up (va_up z_19 15 0) 16 (-1)) F_20 := ((hok25.s 15 (by decide) (show -2147483648 ≤ 0 ∧ 0 < 2147483648 by omega) (by omega)).s 16 (by decide) (show -2147483648 ≤ (-1) ∧ (-1) < 2147483648 by omega) (by omega))
              have hfr44 : xFr [13, 14, 15, 16] [] z F (va_up (va_up z_19 15 0) 16 (-1)) F_20 := ((hfr25.uz 15 (by decide) _).uz 16 (by decide) _)
              have hzo13 : (va_up (va_up z_19 15 0) 16 (-1)) 13 = z_19 13 := rfl
              have hzo14 : (va_up (va_up z_19 15 0) 16 (-1)) 14 = z_19 14 := rfl
              refine vx_ret ?_
              exact xk_iret (ov := (fun u : (Int) × (Nat → Nat) × (Nat → Nat) × (Nat → Int) × (Nat → Int → Int) × (Nat → Nat → Nat) × (Nat → Nat → Nat) × (Nat → Nat → Int) × (Nat → Nat → Int → Int) => match u with | (q, r', n', z', F', Er', En', Ez', EF') => some (.int (iz q)))) (post := (fun (u : (Int) × (Nat → Nat) × (Nat → Nat) × (Nat → Int) × (Nat → Int → Int) × (Nat → Nat → Nat) × (Nat → Nat → Nat) × (Nat → Nat → Int) × (Nat → Nat → Int → Int)) (dn dm : Nat) => match u with | (q, r', n', z', F', Er', En', Ez', EF') => xR [13, 14, 15, 16] [] [2] [2] N z F En Ez EF n' z' F' En' Ez' EF' ∧ (dn + xg n' ≤ xg n + 720 ∧ dm + xp n' ≤ xp n + 9600) ∧ (((((p0 = 0 ∧ q = z 13 ∧ z' 13 = p1 ∧ z' 14 = z 14) ∨ (p0 = 1 ∧ q = z 14 ∧ z' 14 = p1 ∧ z' 13 = z 13)) ∧ ((z' 13 = z 13 ∧ z' 14 = z 14 ∧ ∀ j, Ez' j = Ez j ∧ EF' j = EF j) ∨ (∀ j : Nat, 1 ≤ j → (j : Int) ≤ z 12 → kf_ls (EF' j 2) 0 (Ez' j 2).toNat = kf_kI (EF j 0) (Ez j 0) (z' 13) (z' 14) 0 0 0))) ∧ (z' 15 = 0 ∨ ((z' 15 = z 15 ∧ z' 13 = z 13 ∧ z' 14 = z 14 ∧ z' 1 = z 1) ∧ F' 1 = F 1 ∧ ∀ j, Ez' j = Ez j))) ∧ (z' 16 = -1 ∨ (z' 16 = z 16 ∧ z' 15 = z 15))))) (ws := (fun u : (Int) × (Nat → Nat) × (Nat → Nat) × (Nat → Int) × (Nat → Int → Int) × (Nat → Nat → Nat) × (Nat → Nat → Nat) × (Nat → Nat → Int) × (Nat → Nat → Int → Int) => match u with | (q, r', n', z', F', Er', En', Ez', EF') => (xU cI cB cE o r' n' z' F' G (Eo 0 0) ++ eP cI N Eo Er' En' Ez' EF'))) (tys := xT cI cB cE) (z := 0) (0, r_17, n_18, (va_up (va_up z_19 15 0) 16 (-1)), F_20, Er_21, En_22, Ez_23, EF_24) hx hb hr rfl hlocks rfl hP hD hK hS dX5_rule_72 (fun dn dm hdn hdm => ⟨⟨hok44, hfr44, hPE25, hef25⟩, ⟨by omega, by omega⟩, ⟨⟨⟨by omega, Or.inr (fun j h1 h2 => by rw [hzo13, hzo14, hkr25_13, hkr25_14]; exact hq_13 j h1 h2)⟩, Or.inl rfl⟩, Or.inl rfl⟩⟩) (by omega) (by omega)
            · skip
              refine lv_iconst (v := iz 1) hx hb dX5_rule_67 (by decide) ?_
              refine lv_goto (tgt := 72) hx hb dX5_rule_68 (by decide) ?_
              have hxz_45 : -2147483648 ≤ z_19 15 ∧ z_19 15 < 2147483648 := hok25.2.2.2.1 15
              have hxb_46 : z_19 15 = 0 ∨ z_19 15 = 1 := hok25.2.2.2.2 15 (by decide)
              have hxz_47 : -2147483648 ≤ z_19 16 ∧ z_19 16 < 2147483648 := hok25.2.2.2.1 16
              have hok48 : xOk n_18 (va_up (va_up z_19 15 0) 16 (-1)) F_20 := ((hok25.s 15 (by decide) (show -2147483648 ≤ 0 ∧ 0 < 2147483648 by omega) (by omega)).s 16 (by decide) (show -2147483648 ≤ (-1) ∧ (-1) < 2147483648 by omega) (by omega))
              have hfr48 : xFr [13, 14, 15, 16] [] z F (va_up (va_up z_19 15 0) 16 (-1)) F_20 := ((hfr25.uz 15 (by decide) _).uz 16 (by decide) _)
              have hzo13 : (va_up (va_up z_19 15 0) 16 (-1)) 13 = z_19 13 := rfl
              have hzo14 : (va_up (va_up z_19 15 0) 16 (-1)) 14 = z_19 14 := rfl
              refine vx_ret ?_
              exact xk_iret (ov := (fun u : (Int) × (Nat → Nat) × (Nat → Nat) × (Nat → Int) × (Nat → Int → Int) × (Nat → Nat → Nat) × (Nat → Nat → Nat) × (Nat → Nat → Int) × (Nat → Nat → Int → Int) => match u with | (q, r', n', z', F', Er', En', Ez', EF') => some (.int (iz q)))) (post := (fun (u : (Int) × (Nat → Nat) × (Nat → Nat) × (Nat → Int) × (Nat → Int → Int) × (Nat → Nat → Nat) × (Nat → Nat → Nat) × (Nat → Nat → Int) × (Nat → Nat → Int → Int)) (dn dm : Nat) => match u with | (q, r', n', z', F', Er', En', Ez', EF') => xR [13, 14, 15, 16] [] [2] [2] N z F En Ez EF n' z' F' En' Ez' EF' ∧ (dn + xg n' ≤ xg n + 720 ∧ dm + xp n' ≤ xp n + 9600) ∧ (((((p0 = 0 ∧ q = z 13 ∧ z' 13 = p1 ∧ z' 14 = z 14) ∨ (p0 = 1 ∧ q = z 14 ∧ z' 14 = p1 ∧ z' 13 = z 13)) ∧ ((z' 13 = z 13 ∧ z' 14 = z 14 ∧ ∀ j, Ez' j = Ez j ∧ EF' j = EF j) ∨ (∀ j : Nat, 1 ≤ j → (j : Int) ≤ z 12 → kf_ls (EF' j 2) 0 (Ez' j 2).toNat = kf_kI (EF j 0) (Ez j 0) (z' 13) (z' 14) 0 0 0))) ∧ (z' 15 = 0 ∨ ((z' 15 = z 15 ∧ z' 13 = z 13 ∧ z' 14 = z 14 ∧ z' 1 = z 1) ∧ F' 1 = F 1 ∧ ∀ j, Ez' j = Ez j))) ∧ (z' 16 = -1 ∨ (z' 16 = z 16 ∧ z' 15 = z 15))))) (ws := (fun u : (Int) × (Nat → Nat) × (Nat → Nat) × (Nat → Int) × (Nat → Int → Int) × (Nat → Nat → Nat) × (Nat → Nat → Nat) × (Nat → Nat → Int) × (Nat → Nat → Int → Int) => match u with | (q, r', n', z', F', Er', En', Ez', EF') => (xU cI cB cE o r' n' z' F' G (Eo 0 0) ++ eP cI N Eo Er' En' Ez' EF'))) (tys := xT cI cB cE) (z := 1) (1, r_17, n_18, (va_up (va_up z_19 15 0) 16 (-1)), F_20, Er_21, En_22, Ez_23, EF_24) hx hb hr rfl hlocks rfl hP hD hK hS dX5_rule_72 (fun dn dm hdn hdm => ⟨⟨hok48, hfr48, hPE25, hef25⟩, ⟨by omega, by omega⟩, ⟨⟨⟨by omega, Or.inr (fun j h1 h2 => by rw [hzo13, hzo14, hkr25_13, hkr25_14]; exact hq_13 j h1 h2)⟩, Or.inl rfl⟩, Or.inl rfl⟩⟩) (by omega) (by omega)
        · omega
      · skip
        refine lv_aload_n hx hb dX5_rule_21 rfl (lv_at hl 0 rfl) ?_
        have hxz_49 : -2147483648 ≤ z 13 ∧ z 13 < 2147483648 := hok.2.2.2.1 13
        have hxb_50 : z 13 = 0 ∨ z 13 = 1 := hok.2.2.2.2 13 (by decide)
        refine va_get (D := (dC, dI)) (ci := 5) (v := .int (iz (z 13))) (C := RX5) (T := TX5) (N := 16) hx hb hts kt_X5 hown hK hP 0 rfl rfl 3 (by decide) (kx_word hG kq_18_xrows_31 rfl) (fun _ h9 => h9) rfl dX5_rule_22 ?_
        refine lv_goto (tgt := 32) hx hb dX5_rule_25 (by decide) ?_
        refine lv_istore_n (lv' := [(3, .int (iz (z 13))), (0, .ref (o 15)), (1, .int (iz p0)), (2, .int (iz p1))]) hx hb dX5_rule_32 rfl hl (by decide) rfl (fun ls hl => ?_)
        refine lv_iload_n hx hb dX5_rule_33 rfl (lv_at hl 2 rfl) ?_
        refine ki_if_ne (tgt := 45) hx hb dX5_rule_34 (by decide) (by omega) (by omega) (fun c_51 => ?_) (fun c_51 => ?_)
        · omega
        · skip
          refine lv_aload_n hx hb dX5_rule_37 rfl (lv_at hl 1 rfl) ?_
          refine lv_iload_n hx hb dX5_rule_38 rfl (lv_at hl 3 rfl) ?_
          refine va_put (D := (dC, dI)) (ci := 5) (v := .int (iz p1)) (ty := .boolean) (C := RX5) (T := TX5) (N := 16) hx hb hts kt_X5 tyX5 tyX5_ok nmX5 hown hK hP hD hS 0 rfl rfl 3 (by decide) (kx_word hG kq_18_xrows_31 rfl) (fun _ h9 => h9) rfl (by decide +kernel) (mz_bool (by omega)).1 (mz_bool (by omega)).2 (Nat.le_of_ble_eq_true rfl) dX5_rule_39 (fun H locs hP hD hS => ?_)
          have hP : va_P (dC, dI) kxCl ((xU cI cB cE o r n (va_up z 13 p1) F G (Eo 0 0)) ++ (eP cI N Eo Er En Ez EF)) H := hP
          have hD : va_D A ((xU cI cB cE o r n (va_up z 13 p1) F G (Eo 0 0)) ++ (eP cI N Eo Er En Ez EF)) := hD
          refine lv_goto (tgt := 50) hx hb dX5_rule_42 (by decide) ?_
          refine lv_iload_n hx hb dX5_rule_50 rfl (lv_at hl 0 rfl) ?_
          refine lv_iload_n hx hb dX5_rule_51 rfl (lv_at hl 3 rfl) ?_
          refine ki_icmp_eq (tgt := 63) hx hb dX5_rule_52 (by decide) (by omega) (by omega) (by omega) (by omega) (fun c_52 => ?_) (fun c_52 => ?_)
          · skip
            refine lv_iload_n hx hb dX5_rule_63 rfl (lv_at hl 0 rfl) ?_
            refine ki_if_eq (tgt := 71) hx hb dX5_rule_64 (by decide) (by omega) (by omega) (fun c_53 => ?_) (fun c_53 => ?_)
            · skip
              refine lv_iconst (v := iz 0) hx hb dX5_rule_71 (by decide) ?_
              have hok54 : xOk n (va_up z 13 p1) F := (hok.s 13 (by decide) (show -2147483648 ≤ p1 ∧ p1 < 2147483648 by omega) (by omega))
              have hfr54 : xFr [13, 14, 15, 16] [] z F (va_up z 13 p1) F := (hfr.uz 13 (by decide) _)
              have hzo13 : (va_up z 13 p1) 13 = p1 := rfl
              have hzo14 : (va_up z 13 p1) 14 = z 14 := rfl
              refine vx_ret ?_
              exact xk_iret (ov := (fun u : (Int) × (Nat → Nat) × (Nat → Nat) × (Nat → Int) × (Nat → Int → Int) × (Nat → Nat → Nat) × (Nat → Nat → Nat) × (Nat → Nat → Int) × (Nat → Nat → Int → Int) => match u with | (q, r', n', z', F', Er', En', Ez', EF') => some (.int (iz q)))) (post := (fun (u : (Int) × (Nat → Nat) × (Nat → Nat) × (Nat → Int) × (Nat → Int → Int) × (Nat → Nat → Nat) × (Nat → Nat → Nat) × (Nat → Nat → Int) × (Nat → Nat → Int → Int)) (dn dm : Nat) => match u with | (q, r', n', z', F', Er', En', Ez', EF') => xR [13, 14, 15, 16] [] [2] [2] N z F En Ez EF n' z' F' En' Ez' EF' ∧ (dn + xg n' ≤ xg n + 720 ∧ dm + xp n' ≤ xp n + 9600) ∧ (((((p0 = 0 ∧ q = z 13 ∧ z' 13 = p1 ∧ z' 14 = z 14) ∨ (p0 = 1 ∧ q = z 14 ∧ z' 14 = p1 ∧ z' 13 = z 13)) ∧ ((z' 13 = z 13 ∧ z' 14 = z 14 ∧ ∀ j, Ez' j = Ez j ∧ EF' j = EF j) ∨ (∀ j : Nat, 1 ≤ j → (j : Int) ≤ z 12 → kf_ls (EF' j 2) 0 (Ez' j 2).toNat = kf_kI (EF j 0) (Ez j 0) (z' 13) (z' 14) 0 0 0))) ∧ (z' 15 = 0 ∨ ((z' 15 = z 15 ∧ z' 13 = z 13 ∧ z' 14 = z 14 ∧ z' 1 = z 1) ∧ F' 1 = F 1 ∧ ∀ j, Ez' j = Ez j))) ∧ (z' 16 = -1 ∨ (z' 16 = z 16 ∧ z' 15 = z 15))))) (ws := (fun u : (Int) × (Nat → Nat) × (Nat → Nat) × (Nat → Int) × (Nat → Int → Int) × (Nat → Nat → Nat) × (Nat → Nat → Nat) × (Nat → Nat → Int) × (Nat → Nat → Int → Int) => match u with | (q, r', n', z', F', Er', En', Ez', EF') => (xU cI cB cE o r' n' z' F' G (Eo 0 0) ++ eP cI N Eo Er' En' Ez' EF'))) (tys := xT cI cB cE) (z := 0) (0, r, n, (va_up z 13 p1), F, Er, En, Ez, EF) hx hb hr rfl hlocks rfl hP hD hK hS dX5_rule_72 (fun dn dm hdn hdm => ⟨⟨hok54, hfr54, hPE, hef⟩, ⟨by omega, by omega⟩, ⟨⟨⟨by omega, Or.inl ⟨by omega, by omega, fun j => ⟨rfl, rfl⟩⟩⟩, Or.inr ⟨⟨rfl, by omega, by omega, rfl⟩, rfl, fun j => rfl⟩⟩, Or.inr ⟨rfl, rfl⟩⟩⟩) (by omega) (by omega)
            · skip
              refine lv_iconst (v := iz 1) hx hb dX5_rule_67 (by decide) ?_
              refine lv_goto (tgt := 72) hx hb dX5_rule_68 (by decide) ?_
              have hok55 : xOk n (va_up z 13 p1) F := (hok.s 13 (by decide) (show -2147483648 ≤ p1 ∧ p1 < 2147483648 by omega) (by omega))
              have hfr55 : xFr [13, 14, 15, 16] [] z F (va_up z 13 p1) F := (hfr.uz 13 (by decide) _)
              have hzo13 : (va_up z 13 p1) 13 = p1 := rfl
              have hzo14 : (va_up z 13 p1) 14 = z 14 := rfl
              refine vx_ret ?_
              exact xk_iret (ov := (fun u : (Int) × (Nat → Nat) × (Nat → Nat) × (Nat → Int) × (Nat → Int → Int) × (Nat → Nat → Nat) × (Nat → Nat → Nat) × (Nat → Nat → Int) × (Nat → Nat → Int → Int) => match u with | (q, r', n', z', F', Er', En', Ez', EF') => some (.int (iz q)))) (post := (fun (u : (Int) × (Nat → Nat) × (Nat → Nat) × (Nat → Int) × (Nat → Int → Int) × (Nat → Nat → Nat) × (Nat → Nat → Nat) × (Nat → Nat → Int) × (Nat → Nat → Int → Int)) (dn dm : Nat) => match u with | (q, r', n', z', F', Er', En', Ez', EF') => xR [13, 14, 15, 16] [] [2] [2] N z F En Ez EF n' z' F' En' Ez' EF' ∧ (dn + xg n' ≤ xg n + 720 ∧ dm + xp n' ≤ xp n + 9600) ∧ (((((p0 = 0 ∧ q = z 13 ∧ z' 13 = p1 ∧ z' 14 = z 14) ∨ (p0 = 1 ∧ q = z 14 ∧ z' 14 = p1 ∧ z' 13 = z 13)) ∧ ((z' 13 = z 13 ∧ z' 14 = z 14 ∧ ∀ j, Ez' j = Ez j ∧ EF' j = EF j) ∨ (∀ j : Nat, 1 ≤ j → (j : Int) ≤ z 12 → kf_ls (EF' j 2) 0 (Ez' j 2).toNat = kf_kI (EF j 0) (Ez j 0) (z' 13) (z' 14) 0 0 0))) ∧ (z' 15 = 0 ∨ ((z' 15 = z 15 ∧ z' 13 = z 13 ∧ z' 14 = z 14 ∧ z' 1 = z 1) ∧ F' 1 = F 1 ∧ ∀ j, Ez' j = Ez j))) ∧ (z' 16 = -1 ∨ (z' 16 = z 16 ∧ z' 15 = z 15))))) (ws := (fun u : (Int) × (Nat → Nat) × (Nat → Nat) × (Nat → Int) × (Nat → Int → Int) × (Nat → Nat → Nat) × (Nat → Nat → Nat) × (Nat → Nat → Int) × (Nat → Nat → Int → Int) => match u with | (q, r', n', z', F', Er', En', Ez', EF') => (xU cI cB cE o r' n' z' F' G (Eo 0 0) ++ eP cI N Eo Er' En' Ez' EF'))) (tys := xT cI cB cE) (z := 1) (1, r, n, (va_up z 13 p1), F, Er, En, Ez, EF) hx hb hr rfl hlocks rfl hP hD hK hS dX5_rule_72 (fun dn dm hdn hdm => ⟨⟨hok55, hfr55, hPE, hef⟩, ⟨by omega, by omega⟩, ⟨⟨⟨by omega, Or.inl ⟨by omega, by omega, fun j => ⟨rfl, rfl⟩⟩⟩, Or.inr ⟨⟨rfl, by omega, by omega, rfl⟩, rfl, fun j => rfl⟩⟩, Or.inr ⟨rfl, rfl⟩⟩⟩) (by omega) (by omega)
          · skip
            refine lv_aload_n hx hb dX5_rule_55 rfl (lv_at hl 1 rfl) ?_
            have hok56 : xOk n (va_up z 13 p1) F := (hok.s 13 (by decide) (show -2147483648 ≤ p1 ∧ p1 < 2147483648 by omega) (by omega))
            have hfr56 : xFr [13, 14, 15, 16] [] z F (va_up z 13 p1) F := (hfr.uz 13 (by decide) _)
            have hxz_57 : -2147483648 ≤ z 12 ∧ z 12 < 2147483648 := hok.2.2.2.1 12
            have hxG9 : xG N (z 12) G Eo := ⟨by omega, by omega, by omega, fun e9 h9 => hN4 e9 (by omega)⟩
            have hP : va_P (dC, dI) kxCl (xU cI cB cE o r n (va_up z 13 p1) F G (Eo 0 0) ++ eP cI N Eo Er En Ez EF) H := hP
            have hD : va_D A (xU cI cB cE o r n (va_up z 13 p1) F G (Eo 0 0) ++ eP cI N Eo Er En Ez EF) := hD
            have hFc := xw_free hD hS hA
            refine xk_call (va_runV (As := []) (rest := []) ⟨hx, hb, hml, hown, hts⟩ (y_makeKeys2 l dC dI cI cB cE o r n (va_up z 13 p1) F G N Eo Er En Ez EF  H.size hok56 hxG9 hPE hsgA) (cwV 0 hts (kx_gV kq_21_xcalls_2 kq_21_xcalls_3 kq_21_xcalls_4 kq_18_xrows_4 kq_21_xcalls_5 rfl) rfl rfl rfl (by decide +kernel) ⟨Nat.le_of_ble_eq_true rfl, Nat.le_of_ble_eq_true rfl⟩) ⟨kx_blind, va_recv hK hP (ci := 5) (q0 := 0) rfl rfl, kx_give (ws := []) (tys := []) hP hD hK hG hZ hS hFc⟩ rfl rfl hl.1 rfl (lv_room (Nat.le_of_ble_eq_true rfl)) dX5_rule_56 ⟨show 0 + 900 ≤ 1000 from (by omega), show 0 + 55000 ≤ 60000 from (by omega)⟩) hS (fun q _ h => hFc q h) hFc (fun u dn_60 dm_61 t H locs ht hvm hq_58 hB hk1 hS => ?_)
            obtain ⟨r_62, n_63, z_64, F_65, Er_66, En_67, Ez_68, EF_69⟩ := u
            obtain ⟨hP, hK1, hD1⟩ := hB
            rw [ht] at hP
            have hD := hD1.weaken (fun _ q _ h => hFc _ h)
            obtain ⟨hR70, hC70, hq_58⟩ := hq_58
            have hok70 := hR70.1
            have hfr70 := hfr56.tr (hR70.2.1.mono (S' := [13, 14, 15, 16]) (T' := []) (by decide) (by decide))
            have hPE70 := hR70.2.2.1
            have hef70 := hef.tr (hR70.2.2.2.mono (S' := [2]) (T' := [2]) (by decide) (by decide))
            have hz70 : z_64 12 = (z 12) := hR70.2.1.1 12 (by decide)
            have hkr70_13 : z_64 13 = p1 := hR70.2.1.1 13 (by decide)
            have hkr70_14 : z_64 14 = z 14 := hR70.2.1.1 14 (by decide)
            refine W.eq (g2 := F0 m 59 ls []) rfl ?_
            try dsimp only at hq_58
            try simp (decide := true) only [va_ev, ↓reduceIte] at hq_58
            refine lv_aload_n hx hb dX5_rule_59 rfl (lv_at hl 1 rfl) ?_
            have hxz_71 : -2147483648 ≤ z_64 12 ∧ z_64 12 < 2147483648 := hok70.2.2.2.1 12
            have hxG9 : xG N (z_64 12) G Eo := ⟨by omega, by omega, by omega, fun e9 h9 => hN4 e9 (by omega)⟩
            have hP : va_P (dC, dI) kxCl (xU cI cB cE o r_62 n_63 z_64 F_65 G (Eo 0 0) ++ eP cI N Eo Er_66 En_67 Ez_68 EF_69) H := hP
            have hD : va_D A (xU cI cB cE o r_62 n_63 z_64 F_65 G (Eo 0 0) ++ eP cI N Eo Er_66 En_67 Ez_68 EF_69) := hD
            have hFc := xw_free hD hS hA
            refine xk_call (va_runV (As := []) (rest := []) ⟨hx, hb, hml, hown, hts⟩ (y_forgetRows l dC dI cI cB cE o r_62 n_63 z_64 F_65 G N Eo Er_66 En_67 Ez_68 EF_69  H.size hok70 hxG9 hPE70 ) (cwV 0 hts (kx_gV kq_21_xcalls_6 kq_21_xcalls_7 kq_21_xcalls_8 kq_18_xrows_4 kq_21_xcalls_9 rfl) rfl rfl rfl (by decide +kernel) ⟨Nat.le_of_ble_eq_true rfl, Nat.le_of_ble_eq_true rfl⟩) ⟨kx_blind, va_recv hK hP (ci := 5) (q0 := 0) rfl rfl, kx_give (ws := []) (tys := []) hP hD hK hG hZ hS hFc⟩ rfl rfl hl.1 rfl (lv_room (Nat.le_of_ble_eq_true rfl)) dX5_rule_60 ⟨show (0 + dn_60) + 0 ≤ 1000 from (by omega), show (0 + dm_61) + 0 ≤ 60000 from (by omega)⟩) hS (fun q _ h => hFc q h) hFc (fun u dn_74 dm_75 t H locs ht hvm hq_72 hB hk1 hS => ?_)
            obtain ⟨r_76, n_77, z_78, F_79, Er_80, En_81, Ez_82, EF_83⟩ := u
            obtain ⟨hP, hK1, hD1⟩ := hB
            rw [ht] at hP
            have hD := hD1.weaken (fun _ q _ h => hFc _ h)
            obtain ⟨hR84, hC84, hq_72⟩ := hq_72
            obtain ⟨rfl, rfl, rfl, rfl, rfl, rfl, rfl, hq_72⟩ := hq_72
            subst hq_72
            have hP : va_P (dC, dI) kxCl ((xU cI cB cE o r_62 n_63 (va_up (va_up z_64 15 0) 16 (-1)) F_65 G (Eo 0 0)) ++ (eP cI N Eo Er_66 En_67 Ez_68 EF_69)) H := hP
            have hD : va_D A ((xU cI cB cE o r_62 n_63 (va_up (va_up z_64 15 0) 16 (-1)) F_65 G (Eo 0 0)) ++ (eP cI N Eo Er_66 En_67 Ez_68 EF_69)) := hD
            refine W.eq (g2 := F0 m 63 ls []) rfl ?_
            refine lv_iload_n hx hb dX5_rule_63 rfl (lv_at hl 0 rfl) ?_
            refine ki_if_eq (tgt := 71) hx hb dX5_rule_64 (by decide) (by omega) (by omega) (fun c_85 => ?_) (fun c_85 => ?_)
            · skip
              refine lv_iconst (v := iz 0) hx hb dX5_rule_71 (by decide) ?_
              have hxz_86 : -2147483648 ≤ z_64 15 ∧ z_64 15 < 2147483648 := hok70.2.2.2.1 15
              have hxb_87 : z_64 15 = 0 ∨ z_64 15 = 1 := hok70.2.2.2.2 15 (by decide)
              have hxz_88 : -2147483648 ≤ z_64 16 ∧ z_64 16 < 2147483648 := hok70.2.2.2.1 16
              have hok89 : xOk n_63 (va_up (va_up z_64 15 0) 16 (-1)) F_65 := ((hok70.s 15 (by decide) (show -2147483648 ≤ 0 ∧ 0 < 2147483648 by omega) (by omega)).s 16 (by decide) (show -2147483648 ≤ (-1) ∧ (-1) < 2147483648 by omega) (by omega))
              have hfr89 : xFr [13, 14, 15, 16] [] z F (va_up (va_up z_64 15 0) 16 (-1)) F_65 := ((hfr70.uz 15 (by decide) _).uz 16 (by decide) _)
              have hzo13 : (va_up (va_up z_64 15 0) 16 (-1)) 13 = z_64 13 := rfl
              have hzo14 : (va_up (va_up z_64 15 0) 16 (-1)) 14 = z_64 14 := rfl
              refine vx_ret ?_
              exact xk_iret (ov := (fun u : (Int) × (Nat → Nat) × (Nat → Nat) × (Nat → Int) × (Nat → Int → Int) × (Nat → Nat → Nat) × (Nat → Nat → Nat) × (Nat → Nat → Int) × (Nat → Nat → Int → Int) => match u with | (q, r', n', z', F', Er', En', Ez', EF') => some (.int (iz q)))) (post := (fun (u : (Int) × (Nat → Nat) × (Nat → Nat) × (Nat → Int) × (Nat → Int → Int) × (Nat → Nat → Nat) × (Nat → Nat → Nat) × (Nat → Nat → Int) × (Nat → Nat → Int → Int)) (dn dm : Nat) => match u with | (q, r', n', z', F', Er', En', Ez', EF') => xR [13, 14, 15, 16] [] [2] [2] N z F En Ez EF n' z' F' En' Ez' EF' ∧ (dn + xg n' ≤ xg n + 720 ∧ dm + xp n' ≤ xp n + 9600) ∧ (((((p0 = 0 ∧ q = z 13 ∧ z' 13 = p1 ∧ z' 14 = z 14) ∨ (p0 = 1 ∧ q = z 14 ∧ z' 14 = p1 ∧ z' 13 = z 13)) ∧ ((z' 13 = z 13 ∧ z' 14 = z 14 ∧ ∀ j, Ez' j = Ez j ∧ EF' j = EF j) ∨ (∀ j : Nat, 1 ≤ j → (j : Int) ≤ z 12 → kf_ls (EF' j 2) 0 (Ez' j 2).toNat = kf_kI (EF j 0) (Ez j 0) (z' 13) (z' 14) 0 0 0))) ∧ (z' 15 = 0 ∨ ((z' 15 = z 15 ∧ z' 13 = z 13 ∧ z' 14 = z 14 ∧ z' 1 = z 1) ∧ F' 1 = F 1 ∧ ∀ j, Ez' j = Ez j))) ∧ (z' 16 = -1 ∨ (z' 16 = z 16 ∧ z' 15 = z 15))))) (ws := (fun u : (Int) × (Nat → Nat) × (Nat → Nat) × (Nat → Int) × (Nat → Int → Int) × (Nat → Nat → Nat) × (Nat → Nat → Nat) × (Nat → Nat → Int) × (Nat → Nat → Int → Int) => match u with | (q, r', n', z', F', Er', En', Ez', EF') => (xU cI cB cE o r' n' z' F' G (Eo 0 0) ++ eP cI N Eo Er' En' Ez' EF'))) (tys := xT cI cB cE) (z := 0) (0, r_62, n_63, (va_up (va_up z_64 15 0) 16 (-1)), F_65, Er_66, En_67, Ez_68, EF_69) hx hb hr rfl hlocks rfl hP hD hK hS dX5_rule_72 (fun dn dm hdn hdm => ⟨⟨hok89, hfr89, hPE70, hef70⟩, ⟨by omega, by omega⟩, ⟨⟨⟨by omega, Or.inr (fun j h1 h2 => by rw [hzo13, hzo14, hkr70_13, hkr70_14]; exact hq_58 j h1 h2)⟩, Or.inl rfl⟩, Or.inl rfl⟩⟩) (by omega) (by omega)
            · skip
              refine lv_iconst (v := iz 1) hx hb dX5_rule_67 (by decide) ?_
              refine lv_goto (tgt := 72) hx hb dX5_rule_68 (by decide) ?_
              have hxz_90 : -2147483648 ≤ z_64 15 ∧ z_64 15 < 2147483648 := hok70.2.2.2.1 15
              have hxb_91 : z_64 15 = 0 ∨ z_64 15 = 1 := hok70.2.2.2.2 15 (by decide)
              have hxz_92 : -2147483648 ≤ z_64 16 ∧ z_64 16 < 2147483648 := hok70.2.2.2.1 16
              have hok93 : xOk n_63 (va_up (va_up z_64 15 0) 16 (-1)) F_65 := ((hok70.s 15 (by decide) (show -2147483648 ≤ 0 ∧ 0 < 2147483648 by omega) (by omega)).s 16 (by decide) (show -2147483648 ≤ (-1) ∧ (-1) < 2147483648 by omega) (by omega))
              have hfr93 : xFr [13, 14, 15, 16] [] z F (va_up (va_up z_64 15 0) 16 (-1)) F_65 := ((hfr70.uz 15 (by decide) _).uz 16 (by decide) _)
              have hzo13 : (va_up (va_up z_64 15 0) 16 (-1)) 13 = z_64 13 := rfl
              have hzo14 : (va_up (va_up z_64 15 0) 16 (-1)) 14 = z_64 14 := rfl
              refine vx_ret ?_
              exact xk_iret (ov := (fun u : (Int) × (Nat → Nat) × (Nat → Nat) × (Nat → Int) × (Nat → Int → Int) × (Nat → Nat → Nat) × (Nat → Nat → Nat) × (Nat → Nat → Int) × (Nat → Nat → Int → Int) => match u with | (q, r', n', z', F', Er', En', Ez', EF') => some (.int (iz q)))) (post := (fun (u : (Int) × (Nat → Nat) × (Nat → Nat) × (Nat → Int) × (Nat → Int → Int) × (Nat → Nat → Nat) × (Nat → Nat → Nat) × (Nat → Nat → Int) × (Nat → Nat → Int → Int)) (dn dm : Nat) => match u with | (q, r', n', z', F', Er', En', Ez', EF') => xR [13, 14, 15, 16] [] [2] [2] N z F En Ez EF n' z' F' En' Ez' EF' ∧ (dn + xg n' ≤ xg n + 720 ∧ dm + xp n' ≤ xp n + 9600) ∧ (((((p0 = 0 ∧ q = z 13 ∧ z' 13 = p1 ∧ z' 14 = z 14) ∨ (p0 = 1 ∧ q = z 14 ∧ z' 14 = p1 ∧ z' 13 = z 13)) ∧ ((z' 13 = z 13 ∧ z' 14 = z 14 ∧ ∀ j, Ez' j = Ez j ∧ EF' j = EF j) ∨ (∀ j : Nat, 1 ≤ j → (j : Int) ≤ z 12 → kf_ls (EF' j 2) 0 (Ez' j 2).toNat = kf_kI (EF j 0) (Ez j 0) (z' 13) (z' 14) 0 0 0))) ∧ (z' 15 = 0 ∨ ((z' 15 = z 15 ∧ z' 13 = z 13 ∧ z' 14 = z 14 ∧ z' 1 = z 1) ∧ F' 1 = F 1 ∧ ∀ j, Ez' j = Ez j))) ∧ (z' 16 = -1 ∨ (z' 16 = z 16 ∧ z' 15 = z 15))))) (ws := (fun u : (Int) × (Nat → Nat) × (Nat → Nat) × (Nat → Int) × (Nat → Int → Int) × (Nat → Nat → Nat) × (Nat → Nat → Nat) × (Nat → Nat → Int) × (Nat → Nat → Int → Int) => match u with | (q, r', n', z', F', Er', En', Ez', EF') => (xU cI cB cE o r' n' z' F' G (Eo 0 0) ++ eP cI N Eo Er' En' Ez' EF'))) (tys := xT cI cB cE) (z := 1) (1, r_62, n_63, (va_up (va_up z_64 15 0) 16 (-1)), F_65, Er_66, En_67, Ez_68, EF_69) hx hb hr rfl hlocks rfl hP hD hK hS dX5_rule_72 (fun dn dm hdn hdm => ⟨⟨hok93, hfr93, hPE70, hef70⟩, ⟨by omega, by omega⟩, ⟨⟨⟨by omega, Or.inr (fun j h1 h2 => by rw [hzo13, hzo14, hkr70_13, hkr70_14]; exact hq_58 j h1 h2)⟩, Or.inl rfl⟩, Or.inl rfl⟩⟩) (by omega) (by omega)
    · skip
      exact ky_thr_IAE hx hb hlf hown hG hZ hS (hl.1.trans hml.symm) dX5_rule_9 dX5_rule_12 dX5_rule_13 dX5_rule_16 htab (Nat.le_of_ble_eq_true rfl) (Nat.le_of_ble_eq_true rfl) (show 0 + 1 ≤ 1000 from (by omega)) (show 0 + 6 ≤ 60000 from (by omega)) hlocks (⟨rfl, by first | trivial | omega⟩) (fun t hvm h1 h2 => ⟨(r, n, z, F, Er, En, Ez, EF), ⟨hok, xFr.rf, hPE, eFr.rf⟩, hP.kept (fun k q hk => h2 q.1 (hP k q hk).lt), va_K.moved hvm hK, hD⟩) hS.2.2 (by omega) (by omega) (by omega) (by omega)
set_option maxHeartbeats 4000000 in
set_option maxRecDepth 100000 in
theorem y_entry5 (l : Launch) (hlf : l.stackTraces = false) (dC : Nat → ClassId) (dI : Nat → Nat → Nat) (cI cB cE : ClassId) (o r n : Nat → Nat) (z : Nat → Int) (F : Nat → Int → Int) (G : Nat → Option Nat) (N : Nat) (Eo Er En : Nat → Nat → Nat) (Ez : Nat → Nat → Int) (EF : Nat → Nat → Int → Int) (p0 : Int) (p1 : Int) (sz : Nat) (hok : xOk n z F) (hxG : xG N (z 12) G Eo) (hPE : eA N En Ez EF) (hp01 : -2147483648 ≤ p0) (hp02 : p0 < 2147483648) (hp11 : -2147483648 ≤ p1) (hp12 : p1 < 2147483648) (h78 : z 12 ≤ 78) : vx_Met l yX5_entry [.code yX5_entry cX5_entry 3 (some .int)] ({ frames := 7, cells := 60, slots := 200, locals := 100 }) (va_Pc [.ref (o 15), .int (iz p0), .int (iz p1)] (kx_Pre dC dI (xU cI cB cE o r n z F G (Eo 0 0) ++ eP cI N Eo Er En Ez EF) (xT cI cB cE) sz)) (xQ (fun u : (Int) × (Nat → Int) × (Nat → Option Nat) × (Nat → Nat → Nat) × (Nat → Nat → Nat) × (Nat → Nat → Nat) × (Nat → Nat → Int) × (Nat → Nat → Int → Int) => match u with | (q, z', G', Eo', Er', En', Ez', EF') => some (.int (iz q))) (fun (u : (Int) × (Nat → Int) × (Nat → Option Nat) × (Nat → Nat → Nat) × (Nat → Nat → Nat) × (Nat → Nat → Nat) × (Nat → Nat → Int) × (Nat → Nat → Int → Int)) (dn dm : Nat) => match u with | (q, z', G', Eo', Er', En', Ez', EF') => xOk n z' F ∧ xFr [12, 15, 16] [] z F z' F ∧ xG (N + 1) (z' 12) G' Eo' ∧ eA (N + 1) En' Ez' EF' ∧ (dn ≤ 30 ∧ dm ≤ 60) ∧ q = z 12 ∧ z' 12 = z 12 + 1 ∧ ((p0 = 0 ∧ p1 = -1) ∨ ((p0 = 1 ∨ p0 = 2) ∧ 0 ≤ p1 ∧ p1 < z 12 ∧ Ez ((p1 + 1).toNat) 7 = p0 - 1)) ∧ (∀ j, j < N → Ez' j = Ez j ∧ EF' j = EF j) ∧ Ez' N 7 = p0 ∧ Ez' N 0 = 0 ∧ Ez' N 4 = 0 ∧ Ez' N 9 = -1 ∧ Ez' N 1 = 0 ∧ Ez' N 2 = 0 ∧ Ez' N 3 = 0 ∧ Ez' N 8 = p1 ∧ Ez' N 5 = 0 ∧ Ez' N 6 = 0 ∧ z' 15 = 0 ∧ z' 16 = -1) (fun u t => kx_At dC dI (va_A (xU cI cB cE o r n z F G (Eo 0 0) ++ eP cI N Eo Er En Ez EF) sz) ((fun u : (Int) × (Nat → Int) × (Nat → Option Nat) × (Nat → Nat → Nat) × (Nat → Nat → Nat) × (Nat → Nat → Nat) × (Nat → Nat → Int) × (Nat → Nat → Int → Int) => match u with | (q, z', G', Eo', Er', En', Ez', EF') => (xU cI cB cE o r n z' F G' (Eo' 0 0) ++ eP cI (N + 1) Eo' Er' En' Ez' EF')) u) (xT cI cB cE) t) (va_A (xU cI cB cE o r n z F G (Eo 0 0) ++ eP cI N Eo Er En Ez EF) sz)) (yX (fun E => (E = "java/util/NoSuchElementException" ∧ (¬ p1 = -1 ∧ ¬ (0 ≤ p1 ∧ p1 < z 12))) ∨ (E = "java/lang/IllegalArgumentException" ∧ ((p1 = -1 ∨ (0 ≤ p1 ∧ p1 < z 12)) ∧ ¬ ((p0 = 0 ∧ p1 = -1) ∨ ((p0 = 1 ∨ p0 = 2) ∧ 0 ≤ p1 ∧ p1 < z 12 ∧ Ez ((p1 + 1).toNat) 7 = p0 - 1))))) 2 12 (fun t => ∃ u : (Nat → Nat) × (Nat → Nat) × (Nat → Int) × (Nat → Int → Int) × (Nat → Nat → Nat) × (Nat → Nat → Nat) × (Nat → Nat → Int) × (Nat → Nat → Int → Int), match u with | (r', n', z', F', Er', En', Ez', EF') => xR [] [] [] [] N z F En Ez EF n' z' F' En' Ez' EF' ∧ kx_At dC dI (va_A (xU cI cB cE o r n z F G (Eo 0 0) ++ eP cI N Eo Er En Ez EF) sz) (xU cI cB cE o r' n' z' F' G (Eo 0 0) ++ eP cI N Eo Er' En' Ez' EF') (xT cI cB cE) t) (va_A (xU cI cB cE o r n z F G (Eo 0 0) ++ eP cI N Eo Er En Ez EF) sz)) 60 200 (va_A (xU cI cB cE o r n z F G (Eo 0 0) ++ eP cI N Eo Er En Ez EF) sz) := by
  refine vx_ofW (cc := cX5_entry) (maxL := 3) (ret := (some .int)) (by decide) rfl ?_
  intro p e s m args below meth c s₁ B hml htab hv
  obtain ⟨rfl, hsz, hP, hK, hD0, hG, hZ⟩ := hv
  have hx := B.exec
  have hb := B.bytes
  have hr := B.returns
  have hts := kx_hts (a := ([.ref (o 15), .int (iz p0), .int (iz p1)] : List Value).toArray) hG
  have hown : s.vm.findClass RX5 = some m.cls := findClass_of_methodNamed B.named
  have hlocks := B.notSynchronized
  subst hsz
  have hD := hD0.self (sz := s.heap.size)
  generalize hAe : va_A (xU cI cB cE o r n z F G (Eo 0 0) ++ eP cI N Eo Er En Ez EF) s.heap.size = A at hD hZ ⊢
  have hA : ∀ q : Nat, s.heap.size ≤ q → A q := fun q h => by rw [← hAe]; exact Or.inr h
  have hS : va_S A s.heap s.heap [] := va_S.rf
  have hl := lv_entry ([.ref (o 15), .int (iz p0), .int (iz p1)]) (n := 3) (Nat.le_of_ble_eq_true rfl)
  rw [lg_entry_eq]
  generalize (lg_sl ([.ref (o 15), .int (iz p0), .int (iz p1)]) ++ List.replicate (3 - (lg_sl ([.ref (o 15), .int (iz p0), .int (iz p1)])).length) Slot.unset).toArray = ls at hl ⊢
  obtain ⟨hN1, hN2, hN3, hN4⟩ := hxG
  have hef : eFr [] [] En Ez EF En Ez EF := eFr.rf
  have hfr : xFr [12, 15, 16] [] z F z F := xFr.rf
  have hxgl := xg_le n
  have hxpl := xp_le n
  have hl : lv_has ls 3 [(0, .ref (o 15)), (1, .int (iz p0)), (2, .int (iz p1))] := hl
  refine lv_iload_n hx hb dX5_entry_0 rfl (lv_at hl 2 rfl) ?_
  refine lv_iconst (v := iz (-1)) hx hb dX5_entry_1 (by decide) ?_
  refine ki_icmp_eq (tgt := 21) hx hb dX5_entry_2 (by decide) (by omega) (by omega) (by omega) (by omega) (fun c_1 => ?_) (fun c_1 => ?_)
  · skip
    refine lv_iload_n hx hb dX5_entry_21 rfl (lv_at hl 1 rfl) ?_
    refine ki_if_lt (tgt := 39) hx hb dX5_entry_22 (by decide) (by omega) (by omega) (fun c_2 => ?_) (fun c_2 => ?_)
    · skip
      exact ky_thr_IAE hx hb hlf hown hG hZ hS (hl.1.trans hml.symm) dX5_entry_39 dX5_entry_42 dX5_entry_43 dX5_entry_46 htab (Nat.le_of_ble_eq_true rfl) (Nat.le_of_ble_eq_true rfl) (show 0 + 1 ≤ 60 from (by omega)) (show 0 + 6 ≤ 200 from (by omega)) hlocks (Or.inr (⟨rfl, by first | trivial | omega⟩)) (fun t hvm h1 h2 => ⟨(r, n, z, F, Er, En, Ez, EF), ⟨hok, xFr.rf, hPE, eFr.rf⟩, hP.kept (fun k q hk => h2 q.1 (hP k q hk).lt), va_K.moved hvm hK, hD⟩) hS.2.2 (by omega) (by omega) (by omega) (by omega)
    · skip
      refine lv_iload_n hx hb dX5_entry_25 rfl (lv_at hl 1 rfl) ?_
      refine lv_iconst (v := iz 3) hx hb dX5_entry_26 (by decide) ?_
      refine ki_icmp_ge (tgt := 39) hx hb dX5_entry_27 (by decide) (by omega) (by omega) (by omega) (by omega) (fun c_3 => ?_) (fun c_3 => ?_)
      · skip
        exact ky_thr_IAE hx hb hlf hown hG hZ hS (hl.1.trans hml.symm) dX5_entry_39 dX5_entry_42 dX5_entry_43 dX5_entry_46 htab (Nat.le_of_ble_eq_true rfl) (Nat.le_of_ble_eq_true rfl) (show 0 + 1 ≤ 60 from (by omega)) (show 0 + 6 ≤ 200 from (by omega)) hlocks (Or.inr (⟨rfl, by first | trivial | omega⟩)) (fun t hvm h1 h2 => ⟨(r, n, z, F, Er, En, Ez, EF), ⟨hok, xFr.rf, hPE, eFr.rf⟩, hP.kept (fun k q hk => h2 q.1 (hP k q hk).lt), va_K.moved hvm hK, hD⟩) hS.2.2 (by omega) (by omega) (by omega) (by omega)
      · skip
        refine lv_aload_n hx hb dX5_entry_30 rfl (lv_at hl 0 rfl) ?_
        refine lv_iload_n hx hb dX5_entry_31 rfl (lv_at hl 2 rfl) ?_
        refine lv_iload_n hx hb dX5_entry_32 rfl (lv_at hl 1 rfl) ?_
        have hxz_4 : -2147483648 ≤ z 12 ∧ z 12 < 2147483648 := hok.2.2.2.1 12
        have hxG9 : xG N (z 12) G Eo := ⟨by omega, by omega, by omega, fun e9 h9 => hN4 e9 (by omega)⟩
        have hP : va_P (dC, dI) kxCl (xU cI cB cE o r n z F G (Eo 0 0) ++ eP cI N Eo Er En Ez EF) s.heap := hP
        refine xk_pure (va_runV (As := [.int (iz p1), .int (iz p0)]) (rest := []) ⟨hx, hb, hml, hown, hts⟩ (y_isLevelBefore l dC dI cI cB cE o r n z F G N Eo Er En Ez EF p1 p0 s.heap.size hok hxG9 hPE (by omega) (by omega) (by omega) (by omega)) (cwV 2 hts (kx_gV kq_24_xnew_13 kq_24_xnew_14 kq_24_xnew_15 kq_18_xrows_4 kq_24_xnew_16 rfl) rfl rfl rfl (by decide +kernel) ⟨Nat.le_of_ble_eq_true rfl, Nat.le_of_ble_eq_true rfl⟩) ⟨pPre_blind, va_recv hK hP (ci := 5) (q0 := 0) rfl rfl, pPre_give hP hK hG⟩ rfl rfl hl.1 rfl (lv_room (Nat.le_of_ble_eq_true rfl)) dX5_entry_33 ⟨show 0 + 0 ≤ 60 from (by omega), show 0 + 0 ≤ 200 from (by omega)⟩) hS (fun z_6 locs hq_5 hS => ?_)
        refine W.eq (g2 := F0 m 36 ls [.int (iz z_6)]) rfl ?_
        try dsimp only at hq_5
        rcases hq_5 with ⟨rfl, hq_5⟩ | ⟨rfl, hq_5⟩
        · skip
          refine ki_if_ne (tgt := 47) hx hb dX5_entry_36 (by decide) (by omega) (by omega) (fun c_7 => ?_) (fun c_7 => ?_)
          · skip
            refine lv_aload_n hx hb dX5_entry_47 rfl (lv_at hl 0 rfl) ?_
            refine va_get (D := (dC, dI)) (ci := 5) (v := .int (iz (z 12))) (C := RX5) (T := TX5) (N := 16) hx hb hts kt_X5 hown hK hP 0 rfl rfl 2 (by decide) (kx_word hG kq_18_xrows_0 rfl) (fun _ h9 => h9) rfl dX5_entry_48 ?_
            refine ki_if_lt (tgt := 66) hx hb dX5_entry_51 (by decide) (by omega) (by omega) (fun c_8 => ?_) (fun c_8 => ?_)
            · omega
            · skip
              refine lv_aload_n hx hb dX5_entry_54 rfl (lv_at hl 0 rfl) ?_
              refine va_get (D := (dC, dI)) (ci := 5) (v := .int (iz (z 12))) (C := RX5) (T := TX5) (N := 16) hx hb hts kt_X5 hown hK hP 0 rfl rfl 2 (by decide) (kx_word hG kq_18_xrows_0 rfl) (fun _ h9 => h9) rfl dX5_entry_55 ?_
              refine lv_aload_n hx hb dX5_entry_58 rfl (lv_at hl 0 rfl) ?_
              refine va_get (D := (dC, dI)) (ci := 5) (v := .ref (o 16)) (C := RX5) (T := TX5) (N := 16) hx hb hts kt_X5 hown hK hP 0 rfl rfl 0 (by decide) (kx_word hG kq_18_xrows_6 rfl) (fun _ h9 => h9) rfl dX5_entry_59 ?_
              refine xk_alen hx hb hK hP 1 2 rfl rfl dX5_entry_62 ?_
              refine ki_is (show iz ((80 : Nat) : Int) = iz 80 from rfl) ?_
              refine ki_icmp_lt (tgt := 74) hx hb dX5_entry_63 (by decide) (by omega) (by omega) (by omega) (by omega) (fun c_9 => ?_) (fun c_9 => ?_)
              · skip
                refine lv_aload_n hx hb dX5_entry_74 rfl (lv_at hl 0 rfl) ?_
                refine va_get (D := (dC, dI)) (ci := 5) (v := .ref (o 16)) (C := RX5) (T := TX5) (N := 16) hx hb hts kt_X5 hown hK hP 0 rfl rfl 0 (by decide) (kx_word hG kq_18_xrows_6 rfl) (fun _ h9 => h9) rfl dX5_entry_75 ?_
                refine lv_aload_n hx hb dX5_entry_78 rfl (lv_at hl 0 rfl) ?_
                refine va_get (D := (dC, dI)) (ci := 5) (v := .int (iz (z 12))) (C := RX5) (T := TX5) (N := 16) hx hb hts kt_X5 hown hK hP 0 rfl rfl 2 (by decide) (kx_word hG kq_18_xrows_0 rfl) (fun _ h9 => h9) rfl dX5_entry_79 ?_
                refine va_new (ci := 0) (fs := [.int 0, .int 0, .null, .null, .null, .null, .null, .int 0, .int 0, .int 0, .int 0, .int 0]) (C := RX0) (T := TX0) (N := 12) hx hb hts kt_X0 tyX0 tyX0_ok hown (kx_word hG kq_23_xmake_24 rfl) (kx_word hG kq_23_xmake_26 rfl) (kx_word hG kq_16_xentry_2 rfl) hK hP hD hS hA rfl (fun j hj => by rcases (show j = 0 ∨ j = 1 ∨ j = 2 ∨ j = 3 ∨ j = 4 ∨ j = 5 ∨ j = 6 ∨ j = 7 ∨ j = 8 ∨ j = 9 ∨ j = 10 ∨ j = 11 by omega) with rfl | rfl | rfl | rfl | rfl | rfl | rfl | rfl | rfl | rfl | rfl | rfl <;> rfl) (show 0 + 1 ≤ 60 from (by omega)) (show 0 + 12 ≤ 200 from (by omega)) dX5_entry_82 (fun qn H hP hD hS => ?_)
                have hP : va_P (dC, dI) kxCl (((xU cI cB cE o r n z F G (Eo 0 0)) ++ [(qn, .inr (0, [.int 0, .int 0, .null, .null, .null, .null, .null, .int 0, .int 0, .int 0, .int 0, .int 0]))]) ++ (eP cI N Eo Er En Ez EF)) H := va_P.swap hP
                have hD : va_D A (((xU cI cB cE o r n z F G (Eo 0 0)) ++ [(qn, .inr (0, [.int 0, .int 0, .null, .null, .null, .null, .null, .int 0, .int 0, .int 0, .int 0, .int 0]))]) ++ (eP cI N Eo Er En Ez EF)) := va_D.swap hD
                refine lv_dup hx hb dX5_entry_85 rfl ?_
                refine lv_iload_n hx hb dX5_entry_86 rfl (lv_at hl 1 rfl) ?_
                refine lv_iload_n hx hb dX5_entry_87 rfl (lv_at hl 2 rfl) ?_
                have hPc := hP.sub (ws' := [(qn, .inr (0, [.int 0, .int 0, .null, .null, .null, .null, .null, .int 0, .int 0, .int 0, .int 0, .int 0]))]) [29] rfl
                have hDc := hD.sub (ws' := [(qn, .inr (0, [.int 0, .int 0, .null, .null, .null, .null, .null, .int 0, .int 0, .int 0, .int 0, .int 0]))]) [29] (by decide) rfl
                have hFc := va_free (wc := [(qn, .inr (0, [.int 0, .int 0, .null, .null, .null, .null, .null, .int 0, .int 0, .int 0, .int 0, .int 0]))]) hD hS hA [29] rfl
                refine va_callv (va_runI (As := [.int (iz p0), .int (iz p1)]) (rest := [.ref qn, .int (iz (z 12)), .ref (o 16)]) ⟨hx, hb, hml, hown, hts⟩ (c_Entry_init l hlf dC dI qn (iz p0) (iz p1) cI cB cE H.size) (cwI 2 hts (kx_gI kq_23_xmake_27 rfl) rfl rfl rfl (kx_word hG kq_16_xentry_2 rfl) (kx_word hG kq_23_xmake_28 rfl) (kx_word hG kq_23_xmake_29 rfl) rfl (by decide +kernel) ⟨Nat.le_of_ble_eq_true rfl, Nat.le_of_ble_eq_true rfl⟩) ⟨kx_blind, kx_give (ws := []) (tys := []) hPc hDc hK hG hZ hS hFc⟩ rfl rfl hl.1 rfl (lv_room (Nat.le_of_ble_eq_true rfl)) dX5_entry_88 ⟨show (0 + 1) + 15 ≤ 60 from (by omega), show (0 + 12) + 24 ≤ 200 from (by omega)⟩) hS (fun q _ h => hFc q h) hFc (fun u t H1 locs ht hvm hw hB hz1 hk1 hS => ?_)
                obtain ⟨q1, q2, q3, q4, q5, q6, q7, q8, a0, a1, a2, a3, a4, a5, a6⟩ := u
                obtain ⟨hP1, hK1, hD1⟩ := hB
                rw [ht] at hP1
                obtain ⟨hP, hD⟩ := va_joinQ (wr := (xU cI cB cE o r n z F G (Eo 0 0))) (w1 := [(qn, .inr (0, [.int (iz p0), .int (iz p1), .ref q1, .ref q2, .ref q3, .ref q5, .ref q4, .int (-1), .int (-1), .int 0, .int 0, .int 0])), (q1, .inr (1, [.int 20, .ref a0, .int 0])), (a0, .inl (cI, 0, .inl (fun _ => 0))), (q2, .inr (1, [.int 20, .ref a1, .int 0])), (a1, .inl (cI, 0, .inl (fun _ => 0))), (q3, .inr (1, [.int 40, .ref a2, .int 0])), (a2, .inl (cI, 0, .inl (fun _ => 0))), (q4, .inr (1, [.int 5, .ref a3, .int 0])), (a3, .inl (cI, 0, .inl (fun _ => 0))), (q5, .inr (3, [.ref q6, .ref q7, .ref q8])), (q6, .inr (1, [.int 20, .ref a4, .int 0])), (a4, .inl (cI, 0, .inl (fun _ => 0))), (q7, .inr (1, [.int 20, .ref a5, .int 0])), (a5, .inl (cI, 0, .inl (fun _ => 0))), (q8, .inr (1, [.int 20, .ref a6, .int 0])), (a6, .inl (cI, 0, .inl (fun _ => 0)))]) hP hD [29] [0, 1, 2, 3, 4, 5, 6, 7, 8, 9, 10, 11, 12, 13, 14, 15, 16, 17, 18, 19, 20, 21, 22, 23, 24, 25, 26, 27, 28] rfl rfl (by decide) (by decide) hk1 hFc hP1 hD1
                generalize H1 = H at hP hS ⊢
                have hP : va_P (dC, dI) kxCl (((xU cI cB cE o r n z F G (Eo 0 0)) ++ eU cI (eNo qn q1 q2 q3 q4 q5 q6 q7 q8) (eNr a0 a1 a2 a3 a4 a5 a6) (fun _ => 0) (eNz p0 p1) (fun _ _ => 0)) ++ (eP cI N Eo Er En Ez EF)) H := by rw [← eN_eq]; exact hP
                have hD : va_D A (((xU cI cB cE o r n z F G (Eo 0 0)) ++ eU cI (eNo qn q1 q2 q3 q4 q5 q6 q7 q8) (eNr a0 a1 a2 a3 a4 a5 a6) (fun _ => 0) (eNz p0 p1) (fun _ _ => 0)) ++ (eP cI N Eo Er En Ez EF)) := by rw [← eN_eq]; exact hD
                refine W.eq (g2 := F0 m 91 ls [.ref qn, .int (iz (z 12)), .ref (o 16)]) rfl ?_
                refine va_astq (r := (RX0, TX0, 12)) hx hb hK hP hD hS 1 2 29 0 rfl rfl rfl rfl (iz_in (by omega) (by omega) (by omega)) dX5_entry_91 (fun H locs hP hD hS => ?_)
                rw [iz_clamp (by omega) (by omega)] at hP hD
                have hP : va_P (dC, dI) kxCl (((xU cI cB cE o r n z F (va_up G (z 12).toNat (some qn)) (Eo 0 0)) ++ eU cI (eNo qn q1 q2 q3 q4 q5 q6 q7 q8) (eNr a0 a1 a2 a3 a4 a5 a6) (fun _ => 0) (eNz p0 p1) (fun _ _ => 0)) ++ (eP cI N Eo Er En Ez EF)) H := hP
                have hD : va_D A (((xU cI cB cE o r n z F (va_up G (z 12).toNat (some qn)) (Eo 0 0)) ++ eU cI (eNo qn q1 q2 q3 q4 q5 q6 q7 q8) (eNr a0 a1 a2 a3 a4 a5 a6) (fun _ => 0) (eNz p0 p1) (fun _ _ => 0)) ++ (eP cI N Eo Er En Ez EF)) := hD
                have hP := hP.perm eX_push
                have hD := hD.perm eX_push
                have hnb : va_up Eo N (eNo qn q1 q2 q3 q4 q5 q6 q7 q8) 0 0 = Eo 0 0 := by rw [va_up_ne _ _ (show 0 ≠ N by omega)]
                have hN4b : ∀ e : Nat, (e : Int) < z 12 + 1 → va_up G (z 12).toNat (some qn) e = some (va_up Eo N (eNo qn q1 q2 q3 q4 q5 q6 q7 q8) (e + 1) 0) := eN_G (o := eNo qn q1 q2 q3 q4 q5 q6 q7 q8) hN1 hN3 hN4
                have hPE9 := hPE.push (N := N) (eN_ok p0 p1 (by omega) (by omega))
                rw [← hnb] at hP hD
                have hel : ∀ j, j < N → va_up Ez N (eNz p0 p1) j = Ez j ∧ va_up EF N (fun _ _ => 0) j = EF j := fun j hj => ⟨va_up_ne _ _ (by omega), va_up_ne _ _ (by omega)⟩
                have hen : va_up Ez N (eNz p0 p1) N = eNz p0 p1 := va_up_self _ _ _
                generalize hG9 : va_up G (z 12).toNat (some qn) = G2 at hP hD hN4b
                generalize hEo9 : va_up Eo N (eNo qn q1 q2 q3 q4 q5 q6 q7 q8) = Eo2 at hP hD hN4b
                generalize hEr9 : va_up Er N (eNr a0 a1 a2 a3 a4 a5 a6) = Er2 at hP hD
                generalize hEn9 : va_up En N (fun _ => 0) = En2 at hP hD hPE9
                generalize hEz9 : va_up Ez N (eNz p0 p1) = Ez2 at hP hD hPE9 hel hen
                generalize hEF9 : va_up EF N (fun _ _ => 0) = EF2 at hP hD hPE9 hel
                have hef : eFr [] [] En2 Ez2 EF2 En2 Ez2 EF2 := eFr.rf
                have hP : va_P (dC, dI) kxCl ((xU cI cB cE o r n z F G2 (Eo2 0 0)) ++ (eP cI (N + 1) Eo2 Er2 En2 Ez2 EF2)) H := hP
                have hD : va_D A ((xU cI cB cE o r n z F G2 (Eo2 0 0)) ++ (eP cI (N + 1) Eo2 Er2 En2 Ez2 EF2)) := hD
                refine W.eq (g2 := F0 m 92 ls []) rfl ?_
                refine lv_aload_n hx hb dX5_entry_92 rfl (lv_at hl 0 rfl) ?_
                refine lv_dup hx hb dX5_entry_93 rfl ?_
                have hxz_10 : -2147483648 ≤ z 12 ∧ z 12 < 2147483648 := hok.2.2.2.1 12
                refine va_get (D := (dC, dI)) (ci := 5) (v := .int (iz (z 12))) (C := RX5) (T := TX5) (N := 16) hx hb hts kt_X5 hown hK hP 0 rfl rfl 2 (by decide) (kx_word hG kq_18_xrows_0 rfl) (fun _ h9 => h9) rfl dX5_entry_94 ?_
                refine lv_iconst (v := iz 1) hx hb dX5_entry_97 (by decide) ?_
                refine ki_iadd hx hb dX5_entry_98 ?_
                refine va_put (D := (dC, dI)) (ci := 5) (v := .int (iz ((z 12) + 1))) (ty := .int) (C := RX5) (T := TX5) (N := 16) hx hb hts kt_X5 tyX5 tyX5_ok nmX5 hown hK hP hD hS 0 rfl rfl 2 (by decide) (kx_word hG kq_18_xrows_0 rfl) (fun _ h9 => h9) rfl (by decide +kernel) rfl rfl (Nat.le_of_ble_eq_true rfl) dX5_entry_99 (fun H locs hP hD hS => ?_)
                have hP : va_P (dC, dI) kxCl ((xU cI cB cE o r n (va_up z 12 ((z 12) + 1)) F G2 (Eo2 0 0)) ++ (eP cI (N + 1) Eo2 Er2 En2 Ez2 EF2)) H := hP
                have hD : va_D A ((xU cI cB cE o r n (va_up z 12 ((z 12) + 1)) F G2 (Eo2 0 0)) ++ (eP cI (N + 1) Eo2 Er2 En2 Ez2 EF2)) := hD
                refine lv_aload_n hx hb dX5_entry_102 rfl (lv_at hl 0 rfl) ?_
                have hok11 : xOk n (va_up z 12 ((z 12) + 1)) F := (hok.s 12 (by decide) (show -2147483648 ≤ (z 12) + 1 ∧ (z 12) + 1 < 2147483648 by omega) (by omega))
                have hfr11 : xFr [12, 15, 16] [] z F (va_up z 12 ((z 12) + 1)) F := (hfr.uz 12 (by decide) _)
                have hxG9 : xG (N + 1) ((z 12) + 1) G2 Eo2 := ⟨by omega, by omega, by omega, fun e9 h9 => hN4b e9 (by omega)⟩
                have hP : va_P (dC, dI) kxCl (xU cI cB cE o r n (va_up z 12 ((z 12) + 1)) F G2 (Eo2 0 0) ++ eP cI (N + 1) Eo2 Er2 En2 Ez2 EF2) H := hP
                have hD : va_D A (xU cI cB cE o r n (va_up z 12 ((z 12) + 1)) F G2 (Eo2 0 0) ++ eP cI (N + 1) Eo2 Er2 En2 Ez2 EF2) := hD
                have hFc := xw_free hD hS hA
                refine xk_call (va_runV (As := []) (rest := []) ⟨hx, hb, hml, hown, hts⟩ (y_forgetRows l dC dI cI cB cE o r n (va_up z 12 ((z 12) + 1)) F G2 (N + 1) Eo2 Er2 En2 Ez2 EF2  H.size hok11 hxG9 hPE9 ) (cwV 0 hts (kx_gV kq_21_xcalls_6 kq_21_xcalls_7 kq_21_xcalls_8 kq_18_xrows_4 kq_21_xcalls_9 rfl) rfl rfl rfl (by decide +kernel) ⟨Nat.le_of_ble_eq_true rfl, Nat.le_of_ble_eq_true rfl⟩) ⟨kx_blind, va_recv hK hP (ci := 5) (q0 := 0) rfl rfl, kx_give (ws := []) (tys := []) hP hD hK hG hZ hS hFc⟩ rfl rfl hl.1 rfl (lv_room (Nat.le_of_ble_eq_true rfl)) dX5_entry_103 ⟨show ((0 + 1) + 15) + 0 ≤ 60 from (by omega), show ((0 + 12) + 24) + 0 ≤ 200 from (by omega)⟩) hS (fun q _ h => hFc q h) hFc (fun u dn_14 dm_15 t H locs ht hvm hq_12 hB hk1 hS => ?_)
                obtain ⟨r_16, n_17, z_18, F_19, Er_20, En_21, Ez_22, EF_23⟩ := u
                obtain ⟨hP, hK1, hD1⟩ := hB
                rw [ht] at hP
                have hD := hD1.weaken (fun _ q _ h => hFc _ h)
                obtain ⟨hR24, hC24, hq_12⟩ := hq_12
                obtain ⟨rfl, rfl, rfl, rfl, rfl, rfl, rfl, hq_12⟩ := hq_12
                subst hq_12
                have hP : va_P (dC, dI) kxCl ((xU cI cB cE o r n (va_up (va_up (va_up z 12 ((z 12) + 1)) 15 0) 16 (-1)) F G2 (Eo2 0 0)) ++ (eP cI (N + 1) Eo2 Er2 En2 Ez2 EF2)) H := hP
                have hD : va_D A ((xU cI cB cE o r n (va_up (va_up (va_up z 12 ((z 12) + 1)) 15 0) 16 (-1)) F G2 (Eo2 0 0)) ++ (eP cI (N + 1) Eo2 Er2 En2 Ez2 EF2)) := hD
                refine W.eq (g2 := F0 m 106 ls []) rfl ?_
                refine lv_aload_n hx hb dX5_entry_106 rfl (lv_at hl 0 rfl) ?_
                refine va_get (D := (dC, dI)) (ci := 5) (v := .int (iz ((z 12) + 1))) (C := RX5) (T := TX5) (N := 16) hx hb hts kt_X5 hown hK hP 0 rfl rfl 2 (by decide) (kx_word hG kq_18_xrows_0 rfl) (fun _ h9 => h9) rfl dX5_entry_107 ?_
                refine lv_iconst (v := iz 1) hx hb dX5_entry_110 (by decide) ?_
                refine ki_isub hx hb dX5_entry_111 ?_
                have hxz_25 : -2147483648 ≤ z 15 ∧ z 15 < 2147483648 := hok.2.2.2.1 15
                have hxb_26 : z 15 = 0 ∨ z 15 = 1 := hok.2.2.2.2 15 (by decide)
                have hxz_27 : -2147483648 ≤ z 16 ∧ z 16 < 2147483648 := hok.2.2.2.1 16
                have hok28 : xOk n (va_up (va_up (va_up z 12 ((z 12) + 1)) 15 0) 16 (-1)) F := (((hok.s 12 (by decide) (show -2147483648 ≤ (z 12) + 1 ∧ (z 12) + 1 < 2147483648 by omega) (by omega)).s 15 (by decide) (show -2147483648 ≤ 0 ∧ 0 < 2147483648 by omega) (by omega)).s 16 (by decide) (show -2147483648 ≤ (-1) ∧ (-1) < 2147483648 by omega) (by omega))
                have hfr28 : xFr [12, 15, 16] [] z F (va_up (va_up (va_up z 12 ((z 12) + 1)) 15 0) 16 (-1)) F := (((hfr.uz 12 (by decide) _).uz 15 (by decide) _).uz 16 (by decide) _)
                refine vx_ret ?_
                have hzq : (va_up (va_up (va_up z 12 ((z 12) + 1)) 15 0) 16 (-1)) 12 = z 12 + 1 := rfl
                exact xk_iret (ov := (fun u : (Int) × (Nat → Int) × (Nat → Option Nat) × (Nat → Nat → Nat) × (Nat → Nat → Nat) × (Nat → Nat → Nat) × (Nat → Nat → Int) × (Nat → Nat → Int → Int) => match u with | (q, z', G', Eo', Er', En', Ez', EF') => some (.int (iz q)))) (post := (fun (u : (Int) × (Nat → Int) × (Nat → Option Nat) × (Nat → Nat → Nat) × (Nat → Nat → Nat) × (Nat → Nat → Nat) × (Nat → Nat → Int) × (Nat → Nat → Int → Int)) (dn dm : Nat) => match u with | (q, z', G', Eo', Er', En', Ez', EF') => xOk n z' F ∧ xFr [12, 15, 16] [] z F z' F ∧ xG (N + 1) (z' 12) G' Eo' ∧ eA (N + 1) En' Ez' EF' ∧ (dn ≤ 30 ∧ dm ≤ 60) ∧ q = z 12 ∧ z' 12 = z 12 + 1 ∧ ((p0 = 0 ∧ p1 = -1) ∨ ((p0 = 1 ∨ p0 = 2) ∧ 0 ≤ p1 ∧ p1 < z 12 ∧ Ez ((p1 + 1).toNat) 7 = p0 - 1)) ∧ (∀ j, j < N → Ez' j = Ez j ∧ EF' j = EF j) ∧ Ez' N 7 = p0 ∧ Ez' N 0 = 0 ∧ Ez' N 4 = 0 ∧ Ez' N 9 = -1 ∧ Ez' N 1 = 0 ∧ Ez' N 2 = 0 ∧ Ez' N 3 = 0 ∧ Ez' N 8 = p1 ∧ Ez' N 5 = 0 ∧ Ez' N 6 = 0 ∧ z' 15 = 0 ∧ z' 16 = -1)) (ws := (fun u : (Int) × (Nat → Int) × (Nat → Option Nat) × (Nat → Nat → Nat) × (Nat → Nat → Nat) × (Nat → Nat → Nat) × (Nat → Nat → Int) × (Nat → Nat → Int → Int) => match u with | (q, z', G', Eo', Er', En', Ez', EF') => (xU cI cB cE o r n z' F G' (Eo' 0 0) ++ eP cI (N + 1) Eo' Er' En' Ez' EF'))) (tys := xT cI cB cE) (z := ((z 12) + 1) - 1) (((z 12) + 1) - 1, (va_up (va_up (va_up z 12 ((z 12) + 1)) 15 0) 16 (-1)), G2, Eo2, Er2, En2, Ez2, EF2) hx hb hr rfl hlocks rfl hP hD hK hS dX5_entry_112 (fun dn dm hdn hdm => ⟨hok28, hfr28, ⟨by omega, by omega, by omega, fun e9 h9 => hN4b e9 (by omega)⟩, hPE9, ⟨by omega, by omega⟩, by omega, by omega, by omega, fun j hj => hel j hj, by rw [hen]; rfl, by rw [hen]; rfl, by rw [hen]; rfl, by rw [hen]; rfl, by rw [hen]; rfl, by rw [hen]; rfl, by rw [hen]; rfl, by rw [hen]; rfl, by rw [hen]; rfl, by rw [hen]; rfl, rfl, rfl⟩) (by omega) (by omega)
              · omega
          · omega
        · skip
          refine ki_if_ne (tgt := 47) hx hb dX5_entry_36 (by decide) (by omega) (by omega) (fun c_29 => ?_) (fun c_29 => ?_)
          · omega
          · skip
            exact ky_thr_IAE hx hb hlf hown hG hZ hS (hl.1.trans hml.symm) dX5_entry_39 dX5_entry_42 dX5_entry_43 dX5_entry_46 htab (Nat.le_of_ble_eq_true rfl) (Nat.le_of_ble_eq_true rfl) (show 0 + 1 ≤ 60 from (by omega)) (show 0 + 6 ≤ 200 from (by omega)) hlocks (Or.inr (⟨rfl, by first | trivial | omega⟩)) (fun t hvm h1 h2 => ⟨(r, n, z, F, Er, En, Ez, EF), ⟨hok, xFr.rf, hPE, eFr.rf⟩, hP.kept (fun k q hk => h2 q.1 (hP k q hk).lt), va_K.moved hvm hK, hD⟩) hS.2.2 (by omega) (by omega) (by omega) (by omega)
  · skip
    refine lv_aload_n hx hb dX5_entry_5 rfl (lv_at hl 0 rfl) ?_
    refine lv_iload_n hx hb dX5_entry_6 rfl (lv_at hl 2 rfl) ?_
    have hxz_30 : -2147483648 ≤ z 12 ∧ z 12 < 2147483648 := hok.2.2.2.1 12
    have hxG9 : xG N (z 12) G Eo := ⟨by omega, by omega, by omega, fun e9 h9 => hN4 e9 (by omega)⟩
    have hP : va_P (dC, dI) kxCl (xU cI cB cE o r n z F G (Eo 0 0) ++ eP cI N Eo Er En Ez EF) s.heap := hP
    refine xk_pure (va_runV (As := [.int (iz p1)]) (rest := []) ⟨hx, hb, hml, hown, hts⟩ (y_isEntry l dC dI cI cB cE o r n z F G N Eo Er En Ez EF p1 s.heap.size hok hxG9 hPE (by omega) (by omega)) (cwV 1 hts (kx_gV kq_18_xrows_1 kq_18_xrows_2 kq_18_xrows_3 kq_18_xrows_4 kq_18_xrows_5 rfl) rfl rfl rfl (by decide +kernel) ⟨Nat.le_of_ble_eq_true rfl, Nat.le_of_ble_eq_true rfl⟩) ⟨pPre_blind, va_recv hK hP (ci := 5) (q0 := 0) rfl rfl, pPre_give hP hK hG⟩ rfl rfl hl.1 rfl (lv_room (Nat.le_of_ble_eq_true rfl)) dX5_entry_7 ⟨show 0 + 0 ≤ 60 from (by omega), show 0 + 0 ≤ 200 from (by omega)⟩) hS (fun z_32 locs hq_31 hS => ?_)
    refine W.eq (g2 := F0 m 10 ls [.int (iz z_32)]) rfl ?_
    try dsimp only at hq_31
    rcases hq_31 with ⟨rfl, hq_31⟩ | ⟨rfl, hq_31⟩
    · skip
      refine ki_if_ne (tgt := 21) hx hb dX5_entry_10 (by decide) (by omega) (by omega) (fun c_33 => ?_) (fun c_33 => ?_)
      · skip
        refine lv_iload_n hx hb dX5_entry_21 rfl (lv_at hl 1 rfl) ?_
        refine ki_if_lt (tgt := 39) hx hb dX5_entry_22 (by decide) (by omega) (by omega) (fun c_34 => ?_) (fun c_34 => ?_)
        · skip
          exact ky_thr_IAE hx hb hlf hown hG hZ hS (hl.1.trans hml.symm) dX5_entry_39 dX5_entry_42 dX5_entry_43 dX5_entry_46 htab (Nat.le_of_ble_eq_true rfl) (Nat.le_of_ble_eq_true rfl) (show 0 + 1 ≤ 60 from (by omega)) (show 0 + 6 ≤ 200 from (by omega)) hlocks (Or.inr (⟨rfl, by first | trivial | omega⟩)) (fun t hvm h1 h2 => ⟨(r, n, z, F, Er, En, Ez, EF), ⟨hok, xFr.rf, hPE, eFr.rf⟩, hP.kept (fun k q hk => h2 q.1 (hP k q hk).lt), va_K.moved hvm hK, hD⟩) hS.2.2 (by omega) (by omega) (by omega) (by omega)
        · skip
          refine lv_iload_n hx hb dX5_entry_25 rfl (lv_at hl 1 rfl) ?_
          refine lv_iconst (v := iz 3) hx hb dX5_entry_26 (by decide) ?_
          refine ki_icmp_ge (tgt := 39) hx hb dX5_entry_27 (by decide) (by omega) (by omega) (by omega) (by omega) (fun c_35 => ?_) (fun c_35 => ?_)
          · skip
            exact ky_thr_IAE hx hb hlf hown hG hZ hS (hl.1.trans hml.symm) dX5_entry_39 dX5_entry_42 dX5_entry_43 dX5_entry_46 htab (Nat.le_of_ble_eq_true rfl) (Nat.le_of_ble_eq_true rfl) (show 0 + 1 ≤ 60 from (by omega)) (show 0 + 6 ≤ 200 from (by omega)) hlocks (Or.inr (⟨rfl, by first | trivial | omega⟩)) (fun t hvm h1 h2 => ⟨(r, n, z, F, Er, En, Ez, EF), ⟨hok, xFr.rf, hPE, eFr.rf⟩, hP.kept (fun k q hk => h2 q.1 (hP k q hk).lt), va_K.moved hvm hK, hD⟩) hS.2.2 (by omega) (by omega) (by omega) (by omega)
          · skip
            refine lv_aload_n hx hb dX5_entry_30 rfl (lv_at hl 0 rfl) ?_
            refine lv_iload_n hx hb dX5_entry_31 rfl (lv_at hl 2 rfl) ?_
            refine lv_iload_n hx hb dX5_entry_32 rfl (lv_at hl 1 rfl) ?_
            have hxG9 : xG N (z 12) G Eo := ⟨by omega, by omega, by omega, fun e9 h9 => hN4 e9 (by omega)⟩
            have hP : va_P (dC, dI) kxCl (xU cI cB cE o r n z F G (Eo 0 0) ++ eP cI N Eo Er En Ez EF) s.heap := hP
            refine xk_pure (va_runV (As := [.int (iz p1), .int (iz p0)]) (rest := []) ⟨hx, hb, hml, hown, hts⟩ (y_isLevelBefore l dC dI cI cB cE o r n z F G N Eo Er En Ez EF p1 p0 s.heap.size hok hxG9 hPE (by omega) (by omega) (by omega) (by omega)) (cwV 2 hts (kx_gV kq_24_xnew_13 kq_24_xnew_14 kq_24_xnew_15 kq_18_xrows_4 kq_24_xnew_16 rfl) rfl rfl rfl (by decide +kernel) ⟨Nat.le_of_ble_eq_true rfl, Nat.le_of_ble_eq_true rfl⟩) ⟨pPre_blind, va_recv hK hP (ci := 5) (q0 := 0) rfl rfl, pPre_give hP hK hG⟩ rfl rfl hl.1 rfl (lv_room (Nat.le_of_ble_eq_true rfl)) dX5_entry_33 ⟨show 0 + 0 ≤ 60 from (by omega), show 0 + 0 ≤ 200 from (by omega)⟩) hS (fun z_37 locs hq_36 hS => ?_)
            refine W.eq (g2 := F0 m 36 ls [.int (iz z_37)]) rfl ?_
            try dsimp only at hq_36
            rcases hq_36 with ⟨rfl, hq_36⟩ | ⟨rfl, hq_36⟩
            · skip
              refine ki_if_ne (tgt := 47) hx hb dX5_entry_36 (by decide) (by omega) (by omega) (fun c_38 => ?_) (fun c_38 => ?_)
              · skip
                refine lv_aload_n hx hb dX5_entry_47 rfl (lv_at hl 0 rfl) ?_
                refine va_get (D := (dC, dI)) (ci := 5) (v := .int (iz (z 12))) (C := RX5) (T := TX5) (N := 16) hx hb hts kt_X5 hown hK hP 0 rfl rfl 2 (by decide) (kx_word hG kq_18_xrows_0 rfl) (fun _ h9 => h9) rfl dX5_entry_48 ?_
                refine ki_if_lt (tgt := 66) hx hb dX5_entry_51 (by decide) (by omega) (by omega) (fun c_39 => ?_) (fun c_39 => ?_)
                · omega
                · skip
                  refine lv_aload_n hx hb dX5_entry_54 rfl (lv_at hl 0 rfl) ?_
                  refine va_get (D := (dC, dI)) (ci := 5) (v := .int (iz (z 12))) (C := RX5) (T := TX5) (N := 16) hx hb hts kt_X5 hown hK hP 0 rfl rfl 2 (by decide) (kx_word hG kq_18_xrows_0 rfl) (fun _ h9 => h9) rfl dX5_entry_55 ?_
                  refine lv_aload_n hx hb dX5_entry_58 rfl (lv_at hl 0 rfl) ?_
                  refine va_get (D := (dC, dI)) (ci := 5) (v := .ref (o 16)) (C := RX5) (T := TX5) (N := 16) hx hb hts kt_X5 hown hK hP 0 rfl rfl 0 (by decide) (kx_word hG kq_18_xrows_6 rfl) (fun _ h9 => h9) rfl dX5_entry_59 ?_
                  refine xk_alen hx hb hK hP 1 2 rfl rfl dX5_entry_62 ?_
                  refine ki_is (show iz ((80 : Nat) : Int) = iz 80 from rfl) ?_
                  refine ki_icmp_lt (tgt := 74) hx hb dX5_entry_63 (by decide) (by omega) (by omega) (by omega) (by omega) (fun c_40 => ?_) (fun c_40 => ?_)
                  · skip
                    refine lv_aload_n hx hb dX5_entry_74 rfl (lv_at hl 0 rfl) ?_
                    refine va_get (D := (dC, dI)) (ci := 5) (v := .ref (o 16)) (C := RX5) (T := TX5) (N := 16) hx hb hts kt_X5 hown hK hP 0 rfl rfl 0 (by decide) (kx_word hG kq_18_xrows_6 rfl) (fun _ h9 => h9) rfl dX5_entry_75 ?_
                    refine lv_aload_n hx hb dX5_entry_78 rfl (lv_at hl 0 rfl) ?_
                    refine va_get (D := (dC, dI)) (ci := 5) (v := .int (iz (z 12))) (C := RX5) (T := TX5) (N := 16) hx hb hts kt_X5 hown hK hP 0 rfl rfl 2 (by decide) (kx_word hG kq_18_xrows_0 rfl) (fun _ h9 => h9) rfl dX5_entry_79 ?_
                    refine va_new (ci := 0) (fs := [.int 0, .int 0, .null, .null, .null, .null, .null, .int 0, .int 0, .int 0, .int 0, .int 0]) (C := RX0) (T := TX0) (N := 12) hx hb hts kt_X0 tyX0 tyX0_ok hown (kx_word hG kq_23_xmake_24 rfl) (kx_word hG kq_23_xmake_26 rfl) (kx_word hG kq_16_xentry_2 rfl) hK hP hD hS hA rfl (fun j hj => by rcases (show j = 0 ∨ j = 1 ∨ j = 2 ∨ j = 3 ∨ j = 4 ∨ j = 5 ∨ j = 6 ∨ j = 7 ∨ j = 8 ∨ j = 9 ∨ j = 10 ∨ j = 11 by omega) with rfl | rfl | rfl | rfl | rfl | rfl | rfl | rfl | rfl | rfl | rfl | rfl <;> rfl) (show 0 + 1 ≤ 60 from (by omega)) (show 0 + 12 ≤ 200 from (by omega)) dX5_entry_82 (fun qn H hP hD hS => ?_)
                    have hP : va_P (dC, dI) kxCl (((xU cI cB cE o r n z F G (Eo 0 0)) ++ [(qn, .inr (0, [.int 0, .int 0, .null, .null, .null, .null, .null, .int 0, .int 0, .int 0, .int 0, .int 0]))]) ++ (eP cI N Eo Er En Ez EF)) H := va_P.swap hP
                    have hD : va_D A (((xU cI cB cE o r n z F G (Eo 0 0)) ++ [(qn, .inr (0, [.int 0, .int 0, .null, .null, .null, .null, .null, .int 0, .int 0, .int 0, .int 0, .int 0]))]) ++ (eP cI N Eo Er En Ez EF)) := va_D.swap hD
                    refine lv_dup hx hb dX5_entry_85 rfl ?_
                    refine lv_iload_n hx hb dX5_entry_86 rfl (lv_at hl 1 rfl) ?_
                    refine lv_iload_n hx hb dX5_entry_87 rfl (lv_at hl 2 rfl) ?_
                    have hPc := hP.sub (ws' := [(qn, .inr (0, [.int 0, .int 0, .null, .null, .null, .null, .null, .int 0, .int 0, .int 0, .int 0, .int 0]))]) [29] rfl
                    have hDc := hD.sub (ws' := [(qn, .inr (0, [.int 0, .int 0, .null, .null, .null, .null, .null, .int 0, .int 0, .int 0, .int 0, .int 0]))]) [29] (by decide) rfl
                    have hFc := va_free (wc := [(qn, .inr (0, [.int 0, .int 0, .null, .null, .null, .null, .null, .int 0, .int 0, .int 0, .int 0, .int 0]))]) hD hS hA [29] rfl
                    refine va_callv (va_runI (As := [.int (iz p0), .int (iz p1)]) (rest := [.ref qn, .int (iz (z 12)), .ref (o 16)]) ⟨hx, hb, hml, hown, hts⟩ (c_Entry_init l hlf dC dI qn (iz p0) (iz p1) cI cB cE H.size) (cwI 2 hts (kx_gI kq_23_xmake_27 rfl) rfl rfl rfl (kx_word hG kq_16_xentry_2 rfl) (kx_word hG kq_23_xmake_28 rfl) (kx_word hG kq_23_xmake_29 rfl) rfl (by decide +kernel) ⟨Nat.le_of_ble_eq_true rfl, Nat.le_of_ble_eq_true rfl⟩) ⟨kx_blind, kx_give (ws := []) (tys := []) hPc hDc hK hG hZ hS hFc⟩ rfl rfl hl.1 rfl (lv_room (Nat.le_of_ble_eq_true rfl)) dX5_entry_88 ⟨show (0 + 1) + 15 ≤ 60 from (by omega), show (0 + 12) + 24 ≤ 200 from (by omega)⟩) hS (fun q _ h => hFc q h) hFc (fun u t H1 locs ht hvm hw hB hz1 hk1 hS => ?_)
                    obtain ⟨q1, q2, q3, q4, q5, q6, q7, q8, a0, a1, a2, a3, a4, a5, a6⟩ := u
                    obtain ⟨hP1, hK1, hD1⟩ := hB
                    rw [ht] at hP1
                    obtain ⟨hP, hD⟩ := va_joinQ (wr := (xU cI cB cE o r n z F G (Eo 0 0))) (w1 := [(qn, .inr (0, [.int (iz p0), .int (iz p1), .ref q1, .ref q2, .ref q3, .ref q5, .ref q4, .int (-1), .int (-1), .int 0, .int 0, .int 0])), (q1, .inr (1, [.int 20, .ref a0, .int 0])), (a0, .inl (cI, 0, .inl (fun _ => 0))), (q2, .inr (1, [.int 20, .ref a1, .int 0])), (a1, .inl (cI, 0, .inl (fun _ => 0))), (q3, .inr (1, [.int 40, .ref a2, .int 0])), (a2, .inl (cI, 0, .inl (fun _ => 0))), (q4, .inr (1, [.int 5, .ref a3, .int 0])), (a3, .inl (cI, 0, .inl (fun _ => 0))), (q5, .inr (3, [.ref q6, .ref q7, .ref q8])), (q6, .inr (1, [.int 20, .ref a4, .int 0])), (a4, .inl (cI, 0, .inl (fun _ => 0))), (q7, .inr (1, [.int 20, .ref a5, .int 0])), (a5, .inl (cI, 0, .inl (fun _ => 0))), (q8, .inr (1, [.int 20, .ref a6, .int 0])), (a6, .inl (cI, 0, .inl (fun _ => 0)))]) hP hD [29] [0, 1, 2, 3, 4, 5, 6, 7, 8, 9, 10, 11, 12, 13, 14, 15, 16, 17, 18, 19, 20, 21, 22, 23, 24, 25, 26, 27, 28] rfl rfl (by decide) (by decide) hk1 hFc hP1 hD1
                    generalize H1 = H at hP hS ⊢
                    have hP : va_P (dC, dI) kxCl (((xU cI cB cE o r n z F G (Eo 0 0)) ++ eU cI (eNo qn q1 q2 q3 q4 q5 q6 q7 q8) (eNr a0 a1 a2 a3 a4 a5 a6) (fun _ => 0) (eNz p0 p1) (fun _ _ => 0)) ++ (eP cI N Eo Er En Ez EF)) H := by rw [← eN_eq]; exact hP
                    have hD : va_D A (((xU cI cB cE o r n z F G (Eo 0 0)) ++ eU cI (eNo qn q1 q2 q3 q4 q5 q6 q7 q8) (eNr a0 a1 a2 a3 a4 a5 a6) (fun _ => 0) (eNz p0 p1) (fun _ _ => 0)) ++ (eP cI N Eo Er En Ez EF)) := by rw [← eN_eq]; exact hD
                    refine W.eq (g2 := F0 m 91 ls [.ref qn, .int (iz (z 12)), .ref (o 16)]) rfl ?_
                    refine va_astq (r := (RX0, TX0, 12)) hx hb hK hP hD hS 1 2 29 0 rfl rfl rfl rfl (iz_in (by omega) (by omega) (by omega)) dX5_entry_91 (fun H locs hP hD hS => ?_)
                    rw [iz_clamp (by omega) (by omega)] at hP hD
                    have hP : va_P (dC, dI) kxCl (((xU cI cB cE o r n z F (va_up G (z 12).toNat (some qn)) (Eo 0 0)) ++ eU cI (eNo qn q1 q2 q3 q4 q5 q6 q7 q8) (eNr a0 a1 a2 a3 a4 a5 a6) (fun _ => 0) (eNz p0 p1) (fun _ _ => 0)) ++ (eP cI N Eo Er En Ez EF)) H := hP
                    have hD : va_D A (((xU cI cB cE o r n z F (va_up G (z 12).toNat (some qn)) (Eo 0 0)) ++ eU cI (eNo qn q1 q2 q3 q4 q5 q6 q7 q8) (eNr a0 a1 a2 a3 a4 a5 a6) (fun _ => 0) (eNz p0 p1) (fun _ _ => 0)) ++ (eP cI N Eo Er En Ez EF)) := hD
                    have hP := hP.perm eX_push
                    have hD := hD.perm eX_push
                    have hnb : va_up Eo N (eNo qn q1 q2 q3 q4 q5 q6 q7 q8) 0 0 = Eo 0 0 := by rw [va_up_ne _ _ (show 0 ≠ N by omega)]
                    have hN4b : ∀ e : Nat, (e : Int) < z 12 + 1 → va_up G (z 12).toNat (some qn) e = some (va_up Eo N (eNo qn q1 q2 q3 q4 q5 q6 q7 q8) (e + 1) 0) := eN_G (o := eNo qn q1 q2 q3 q4 q5 q6 q7 q8) hN1 hN3 hN4
                    have hPE9 := hPE.push (N := N) (eN_ok p0 p1 (by omega) (by omega))
                    rw [← hnb] at hP hD
                    have hel : ∀ j, j < N → va_up Ez N (eNz p0 p1) j = Ez j ∧ va_up EF N (fun _ _ => 0) j = EF j := fun j hj => ⟨va_up_ne _ _ (by omega), va_up_ne _ _ (by omega)⟩
                    have hen : va_up Ez N (eNz p0 p1) N = eNz p0 p1 := va_up_self _ _ _
                    generalize hG9 : va_up G (z 12).toNat (some qn) = G2 at hP hD hN4b
                    generalize hEo9 : va_up Eo N (eNo qn q1 q2 q3 q4 q5 q6 q7 q8) = Eo2 at hP hD hN4b
                    generalize hEr9 : va_up Er N (eNr a0 a1 a2 a3 a4 a5 a6) = Er2 at hP hD
                    generalize hEn9 : va_up En N (fun _ => 0) = En2 at hP hD hPE9
                    generalize hEz9 : va_up Ez N (eNz p0 p1) = Ez2 at hP hD hPE9 hel hen
                    generalize hEF9 : va_up EF N (fun _ _ => 0) = EF2 at hP hD hPE9 hel
                    have hef : eFr [] [] En2 Ez2 EF2 En2 Ez2 EF2 := eFr.rf
                    have hP : va_P (dC, dI) kxCl ((xU cI cB cE o r n z F G2 (Eo2 0 0)) ++ (eP cI (N + 1) Eo2 Er2 En2 Ez2 EF2)) H := hP
                    have hD : va_D A ((xU cI cB cE o r n z F G2 (Eo2 0 0)) ++ (eP cI (N + 1) Eo2 Er2 En2 Ez2 EF2)) := hD
                    refine W.eq (g2 := F0 m 92 ls []) rfl ?_
                    refine lv_aload_n hx hb dX5_entry_92 rfl (lv_at hl 0 rfl) ?_
                    refine lv_dup hx hb dX5_entry_93 rfl ?_
                    have hxz_41 : -2147483648 ≤ z 12 ∧ z 12 < 2147483648 := hok.2.2.2.1 12
                    refine va_get (D := (dC, dI)) (ci := 5) (v := .int (iz (z 12))) (C := RX5) (T := TX5) (N := 16) hx hb hts kt_X5 hown hK hP 0 rfl rfl 2 (by decide) (kx_word hG kq_18_xrows_0 rfl) (fun _ h9 => h9) rfl dX5_entry_94 ?_
                    refine lv_iconst (v := iz 1) hx hb dX5_entry_97 (by decide) ?_
                    refine ki_iadd hx hb dX5_entry_98 ?_
                    refine va_put (D := (dC, dI)) (ci := 5) (v := .int (iz ((z 12) + 1))) (ty := .int) (C := RX5) (T := TX5) (N := 16) hx hb hts kt_X5 tyX5 tyX5_ok nmX5 hown hK hP hD hS 0 rfl rfl 2 (by decide) (kx_word hG kq_18_xrows_0 rfl) (fun _ h9 => h9) rfl (by decide +kernel) rfl rfl (Nat.le_of_ble_eq_true rfl) dX5_entry_99 (fun H locs hP hD hS => ?_)
                    have hP : va_P (dC, dI) kxCl ((xU cI cB cE o r n (va_up z 12 ((z 12) + 1)) F G2 (Eo2 0 0)) ++ (eP cI (N + 1) Eo2 Er2 En2 Ez2 EF2)) H := hP
                    have hD : va_D A ((xU cI cB cE o r n (va_up z 12 ((z 12) + 1)) F G2 (Eo2 0 0)) ++ (eP cI (N + 1) Eo2 Er2 En2 Ez2 EF2)) := hD
                    refine lv_aload_n hx hb dX5_entry_102 rfl (lv_at hl 0 rfl) ?_
                    have hok42 : xOk n (va_up z 12 ((z 12) + 1)) F := (hok.s 12 (by decide) (show -2147483648 ≤ (z 12) + 1 ∧ (z 12) + 1 < 2147483648 by omega) (by omega))
                    have hfr42 : xFr [12, 15, 16] [] z F (va_up z 12 ((z 12) + 1)) F := (hfr.uz 12 (by decide) _)
                    have hxG9 : xG (N + 1) ((z 12) + 1) G2 Eo2 := ⟨by omega, by omega, by omega, fun e9 h9 => hN4b e9 (by omega)⟩
                    have hP : va_P (dC, dI) kxCl (xU cI cB cE o r n (va_up z 12 ((z 12) + 1)) F G2 (Eo2 0 0) ++ eP cI (N + 1) Eo2 Er2 En2 Ez2 EF2) H := hP
                    have hD : va_D A (xU cI cB cE o r n (va_up z 12 ((z 12) + 1)) F G2 (Eo2 0 0) ++ eP cI (N + 1) Eo2 Er2 En2 Ez2 EF2) := hD
                    have hFc := xw_free hD hS hA
                    refine xk_call (va_runV (As := []) (rest := []) ⟨hx, hb, hml, hown, hts⟩ (y_forgetRows l dC dI cI cB cE o r n (va_up z 12 ((z 12) + 1)) F G2 (N + 1) Eo2 Er2 En2 Ez2 EF2  H.size hok42 hxG9 hPE9 ) (cwV 0 hts (kx_gV kq_21_xcalls_6 kq_21_xcalls_7 kq_21_xcalls_8 kq_18_xrows_4 kq_21_xcalls_9 rfl) rfl rfl rfl (by decide +kernel) ⟨Nat.le_of_ble_eq_true rfl, Nat.le_of_ble_eq_true rfl⟩) ⟨kx_blind, va_recv hK hP (ci := 5) (q0 := 0) rfl rfl, kx_give (ws := []) (tys := []) hP hD hK hG hZ hS hFc⟩ rfl rfl hl.1 rfl (lv_room (Nat.le_of_ble_eq_true rfl)) dX5_entry_103 ⟨show ((0 + 1) + 15) + 0 ≤ 60 from (by omega), show ((0 + 12) + 24) + 0 ≤ 200 from (by omega)⟩) hS (fun q _ h => hFc q h) hFc (fun u dn_45 dm_46 t H locs ht hvm hq_43 hB hk1 hS => ?_)
                    obtain ⟨r_47, n_48, z_49, F_50, Er_51, En_52, Ez_53, EF_54⟩ := u
                    obtain ⟨hP, hK1, hD1⟩ := hB
                    rw [ht] at hP
                    have hD := hD1.weaken (fun _ q _ h => hFc _ h)
                    obtain ⟨hR55, hC55, hq_43⟩ := hq_43
                    obtain ⟨rfl, rfl, rfl, rfl, rfl, rfl, rfl, hq_43⟩ := hq_43
                    subst hq_43
                    have hP : va_P (dC, dI) kxCl ((xU cI cB cE o r n (va_up (va_up (va_up z 12 ((z 12) + 1)) 15 0) 16 (-1)) F G2 (Eo2 0 0)) ++ (eP cI (N + 1) Eo2 Er2 En2 Ez2 EF2)) H := hP
                    have hD : va_D A ((xU cI cB cE o r n (va_up (va_up (va_up z 12 ((z 12) + 1)) 15 0) 16 (-1)) F G2 (Eo2 0 0)) ++ (eP cI (N + 1) Eo2 Er2 En2 Ez2 EF2)) := hD
                    refine W.eq (g2 := F0 m 106 ls []) rfl ?_
                    refine lv_aload_n hx hb dX5_entry_106 rfl (lv_at hl 0 rfl) ?_
                    refine va_get (D := (dC, dI)) (ci := 5) (v := .int (iz ((z 12) + 1))) (C := RX5) (T := TX5) (N := 16) hx hb hts kt_X5 hown hK hP 0 rfl rfl 2 (by decide) (kx_word hG kq_18_xrows_0 rfl) (fun _ h9 => h9) rfl dX5_entry_107 ?_
                    refine lv_iconst (v := iz 1) hx hb dX5_entry_110 (by decide) ?_
                    refine ki_isub hx hb dX5_entry_111 ?_
                    have hxz_56 : -2147483648 ≤ z 15 ∧ z 15 < 2147483648 := hok.2.2.2.1 15
                    have hxb_57 : z 15 = 0 ∨ z 15 = 1 := hok.2.2.2.2 15 (by decide)
                    have hxz_58 : -2147483648 ≤ z 16 ∧ z 16 < 2147483648 := hok.2.2.2.1 16
                    have hok59 : xOk n (va_up (va_up (va_up z 12 ((z 12) + 1)) 15 0) 16 (-1)) F := (((hok.s 12 (by decide) (show -2147483648 ≤ (z 12) + 1 ∧ (z 12) + 1 < 2147483648 by omega) (by omega)).s 15 (by decide) (show -2147483648 ≤ 0 ∧ 0 < 2147483648 by omega) (by omega)).s 16 (by decide) (show -2147483648 ≤ (-1) ∧ (-1) < 2147483648 by omega) (by omega))
                    have hfr59 : xFr [12, 15, 16] [] z F (va_up (va_up (va_up z 12 ((z 12) + 1)) 15 0) 16 (-1)) F := (((hfr.uz 12 (by decide) _).uz 15 (by decide) _).uz 16 (by decide) _)
                    refine vx_ret ?_
                    have hzq : (va_up (va_up (va_up z 12 ((z 12) + 1)) 15 0) 16 (-1)) 12 = z 12 + 1 := rfl
                    exact xk_iret (ov := (fun u : (Int) × (Nat → Int) × (Nat → Option Nat) × (Nat → Nat → Nat) × (Nat → Nat → Nat) × (Nat → Nat → Nat) × (Nat → Nat → Int) × (Nat → Nat → Int → Int) => match u with | (q, z', G', Eo', Er', En', Ez', EF') => some (.int (iz q)))) (post := (fun (u : (Int) × (Nat → Int) × (Nat → Option Nat) × (Nat → Nat → Nat) × (Nat → Nat → Nat) × (Nat → Nat → Nat) × (Nat → Nat → Int) × (Nat → Nat → Int → Int)) (dn dm : Nat) => match u with | (q, z', G', Eo', Er', En', Ez', EF') => xOk n z' F ∧ xFr [12, 15, 16] [] z F z' F ∧ xG (N + 1) (z' 12) G' Eo' ∧ eA (N + 1) En' Ez' EF' ∧ (dn ≤ 30 ∧ dm ≤ 60) ∧ q = z 12 ∧ z' 12 = z 12 + 1 ∧ ((p0 = 0 ∧ p1 = -1) ∨ ((p0 = 1 ∨ p0 = 2) ∧ 0 ≤ p1 ∧ p1 < z 12 ∧ Ez ((p1 + 1).toNat) 7 = p0 - 1)) ∧ (∀ j, j < N → Ez' j = Ez j ∧ EF' j = EF j) ∧ Ez' N 7 = p0 ∧ Ez' N 0 = 0 ∧ Ez' N 4 = 0 ∧ Ez' N 9 = -1 ∧ Ez' N 1 = 0 ∧ Ez' N 2 = 0 ∧ Ez' N 3 = 0 ∧ Ez' N 8 = p1 ∧ Ez' N 5 = 0 ∧ Ez' N 6 = 0 ∧ z' 15 = 0 ∧ z' 16 = -1)) (ws := (fun u : (Int) × (Nat → Int) × (Nat → Option Nat) × (Nat → Nat → Nat) × (Nat → Nat → Nat) × (Nat → Nat → Nat) × (Nat → Nat → Int) × (Nat → Nat → Int → Int) => match u with | (q, z', G', Eo', Er', En', Ez', EF') => (xU cI cB cE o r n z' F G' (Eo' 0 0) ++ eP cI (N + 1) Eo' Er' En' Ez' EF'))) (tys := xT cI cB cE) (z := ((z 12) + 1) - 1) (((z 12) + 1) - 1, (va_up (va_up (va_up z 12 ((z 12) + 1)) 15 0) 16 (-1)), G2, Eo2, Er2, En2, Ez2, EF2) hx hb hr rfl hlocks rfl hP hD hK hS dX5_entry_112 (fun dn dm hdn hdm => ⟨hok59, hfr59, ⟨by omega, by omega, by omega, fun e9 h9 => hN4b e9 (by omega)⟩, hPE9, ⟨by omega, by omega⟩, by omega, by omega, by omega, fun j hj => hel j hj, by rw [hen]; rfl, by rw [hen]; rfl, by rw [hen]; rfl, by rw [hen]; rfl, by rw [hen]; rfl, by rw [hen]; rfl, by rw [hen]; rfl, by rw [hen]; rfl, by rw [hen]; rfl, by rw [hen]; rfl, rfl, rfl⟩) (by omega) (by omega)
                  · omega
              · omega
            · skip
              refine ki_if_ne (tgt := 47) hx hb dX5_entry_36 (by decide) (by omega) (by omega) (fun c_60 => ?_) (fun c_60 => ?_)
              · omega
              · skip
                exact ky_thr_IAE hx hb hlf hown hG hZ hS (hl.1.trans hml.symm) dX5_entry_39 dX5_entry_42 dX5_entry_43 dX5_entry_46 htab (Nat.le_of_ble_eq_true rfl) (Nat.le_of_ble_eq_true rfl) (show 0 + 1 ≤ 60 from (by omega)) (show 0 + 6 ≤ 200 from (by omega)) hlocks (Or.inr (⟨rfl, by first | trivial | omega⟩)) (fun t hvm h1 h2 => ⟨(r, n, z, F, Er, En, Ez, EF), ⟨hok, xFr.rf, hPE, eFr.rf⟩, hP.kept (fun k q hk => h2 q.1 (hP k q hk).lt), va_K.moved hvm hK, hD⟩) hS.2.2 (by omega) (by omega) (by omega) (by omega)
      · omega
    · skip
      refine ki_if_ne (tgt := 21) hx hb dX5_entry_10 (by decide) (by omega) (by omega) (fun c_61 => ?_) (fun c_61 => ?_)
      · omega
      · skip
        exact ky_thr_NSE hx hb hlf hown hG hZ hS (hl.1.trans hml.symm) dX5_entry_13 dX5_entry_16 dX5_entry_17 dX5_entry_20 htab (Nat.le_of_ble_eq_true rfl) (Nat.le_of_ble_eq_true rfl) (show 0 + 1 ≤ 60 from (by omega)) (show 0 + 6 ≤ 200 from (by omega)) hlocks (Or.inl ⟨rfl, by first | trivial | omega⟩) (fun t hvm h1 h2 => ⟨(r, n, z, F, Er, En, Ez, EF), ⟨hok, xFr.rf, hPE, eFr.rf⟩, hP.kept (fun k q hk => h2 q.1 (hP k q hk).lt), va_K.moved hvm hK, hD⟩) hS.2.2 (by omega) (by omega) (by omega) (by omega)
