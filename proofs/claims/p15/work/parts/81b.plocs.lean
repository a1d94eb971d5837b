/-! the landed class, exact: locators, with the room of the draft -/

set_option maxHeartbeats 4000000 in
set_option maxRecDepth 100000 in
theorem y_addLocators7 (l : Launch) (dC : Nat → ClassId) (dI : Nat → Nat → Nat) (cI cB cE : ClassId) (o r n : Nat → Nat) (z : Nat → Int) (F : Nat → Int → Int) (G : Nat → Option Nat) (N : Nat) (Eo Er En : Nat → Nat → Nat) (Ez : Nat → Nat → Int) (EF : Nat → Nat → Int → Int) (p0 : Int) (p1 : Int) (p2 : Int) (sz : Nat) (hok : xOk n z F) (hxG : xG N (z 12) G Eo) (hPE : eA N En Ez EF) (hp0 : 0 ≤ p0 ∧ p0 < 400000) (hp1 : 0 ≤ p1 ∧ p1 < 400000) (hp2 : p2 = 0 ∨ p2 = 1) (hlz : (z 7 = z 8 ∧ z 8 = z 9) ∧ z 7 ≤ 1598) : Met l yX5_addLocators [.code yX5_addLocators cX5_addLocators 4 none] ({ frames := 4, cells := 150, slots := 60000, locals := 126 }) (va_Pc [.ref (o 15), .int (iz p0), .int (iz p1), .int (iz p2)] (kx_Pre dC dI (xU cI cB cE o r n z F G (Eo 0 0) ++ eP cI N Eo Er En Ez EF) (xT cI cB cE) sz)) (xQ (fun _ : (Nat → Nat) × (Nat → Nat) × (Nat → Int) × (Nat → Int → Int) × (Nat → Nat → Nat) × (Nat → Nat → Nat) × (Nat → Nat → Int) × (Nat → Nat → Int → Int) => none) (fun (u : (Nat → Nat) × (Nat → Nat) × (Nat → Int) × (Nat → Int → Int) × (Nat → Nat → Nat) × (Nat → Nat → Nat) × (Nat → Nat → Int) × (Nat → Nat → Int → Int)) (dn dm : Nat) => match u with | (r', n', z', F', Er', En', Ez', EF') => xR [7, 8, 9] [7, 8, 9] [] [] N z F En Ez EF n' z' F' En' Ez' EF' ∧ (dn + xg n' ≤ xg n + 0 ∧ dm + xp n' ≤ xp n + 0) ∧ n' 11 = n 11 ∧ ((lo_pl (F' 7) (F' 8) (z' 7).toNat 0) = (lo_pl (F 7) (F 8) (z 7).toNat 0) ++ lo_Wz p0 p1 p2 ∧ (z' 7 = z' 8 ∧ z' 8 = z' 9) ∧ Er = Er' ∧ En = En' ∧ Ez = Ez' ∧ EF = EF')) (fun u t => kx_At dC dI (va_A (xU cI cB cE o r n z F G (Eo 0 0) ++ eP cI N Eo Er En Ez EF) sz) ((fun u : (Nat → Nat) × (Nat → Nat) × (Nat → Int) × (Nat → Int → Int) × (Nat → Nat → Nat) × (Nat → Nat → Nat) × (Nat → Nat → Int) × (Nat → Nat → Int → Int) => match u with | (r', n', z', F', Er', En', Ez', EF') => (xU cI cB cE o r' n' z' F' G (Eo 0 0) ++ eP cI N Eo Er' En' Ez' EF')) u) (xT cI cB cE) t) (va_A (xU cI cB cE o r n z F G (Eo 0 0) ++ eP cI N Eo Er En Ez EF) sz)) 150 60000 (va_A (xU cI cB cE o r n z F G (Eo 0 0) ++ eP cI N Eo Er En Ez EF) sz) := by
  refine Met.ofW (cc := cX5_addLocators) (maxL := 4) (ret := none) (by decide) rfl ?_
  intro p e s m args below meth c s₁ B hml hv
  obtain ⟨rfl, hsz, hP, hK, hD0, hG, hZ⟩ := hv
  have hx := B.exec
  have hb := B.bytes
  have hr := B.returns
  have hts := kx_hts (a := ([.ref (o 15), .int (iz p0), .int (iz p1), .int (iz p2)] : List Value).toArray) hG
  have hown : s.vm.findClass RX5 = some m.cls := findClass_of_methodNamed B.named
  have hlocks := B.notSynchronized
  subst hsz
  have hD := hD0.self (sz := s.heap.size)
  generalize hAe : va_A (xU cI cB cE o r n z F G (Eo 0 0) ++ eP cI N Eo Er En Ez EF) s.heap.size = A at hD hZ ⊢
  have hA : ∀ q : Nat, s.heap.size ≤ q → A q := fun q h => by rw [← hAe]; exact Or.inr h
  have hS : va_S A s.heap s.heap [] := va_S.rf
  have hl := lv_entry ([.ref (o 15), .int (iz p0), .int (iz p1), .int (iz p2)]) (n := 4) (Nat.le_of_ble_eq_true rfl)
  rw [lg_entry_eq]
  generalize (lg_sl ([.ref (o 15), .int (iz p0), .int (iz p1), .int (iz p2)]) ++ List.replicate (4 - (lg_sl ([.ref (o 15), .int (iz p0), .int (iz p1), .int (iz p2)])).length) Slot.unset).toArray = ls at hl ⊢
  obtain ⟨hN1, hN2, hN3, hN4⟩ := hxG
  have hef : eFr [] [] En Ez EF En Ez EF := eFr.rf
  have hfr : xFr [7, 8, 9] [7, 8, 9] z F z F := xFr.rf
  have hxgl := xg_le n
  have hxpl := xp_le n
  have hl : lv_has ls 4 [(0, .ref (o 15)), (1, .int (iz p0)), (2, .int (iz p1)), (3, .int (iz p2))] := hl
  refine lv_iload_n hx hb dX5_addLocators_0 rfl (lv_at hl 1 rfl) ?_
  refine ki_if_ne (tgt := 5) hx hb dX5_addLocators_1 (by decide) (by omega) (by omega) (fun c_1 => ?_) (fun c_1 => ?_)
  · skip
    refine lv_iload_n hx hb dX5_addLocators_5 rfl (lv_at hl 3 rfl) ?_
    refine ki_if_ne (tgt := 16) hx hb dX5_addLocators_6 (by decide) (by omega) (by omega) (fun c_2 => ?_) (fun c_2 => ?_)
    · skip
      refine lv_aload_n hx hb dX5_addLocators_16 rfl (lv_at hl 0 rfl) ?_
      refine va_get (D := (dC, dI)) (ci := 5) (v := .ref (o 14)) (C := RX5) (T := TX5) (N := 16) hx hb hts kt_X5 hown hK hP 0 rfl rfl 9 (by decide) (kx_word hG kq_19_xouts_0 rfl) (fun _ h9 => h9) rfl dX5_addLocators_17 ?_
      refine lv_iload_n hx hb dX5_addLocators_20 rfl (lv_at hl 1 rfl) ?_
      refine lv_iload_n hx hb dX5_addLocators_21 rfl (lv_at hl 2 rfl) ?_
      refine lv_iload_n hx hb dX5_addLocators_22 rfl (lv_at hl 3 rfl) ?_
      have hxi_3 : 0 ≤ z 7 ∧ z 7 ≤ ((n 7 : Nat) : Int) ∧ ((n 7 : Nat) : Int) ≤ 1600 := hok.1 7 (by decide)
      have hxi_4 : 0 ≤ z 8 ∧ z 8 ≤ ((n 8 : Nat) : Int) ∧ ((n 8 : Nat) : Int) ≤ 1600 := hok.1 8 (by decide)
      have hxi_5 : 0 ≤ z 9 ∧ z 9 ≤ ((n 9 : Nat) : Int) ∧ ((n 9 : Nat) : Int) ≤ 1600 := hok.1 9 (by decide)
      have hPc := hP.sub (ws' := (sU cI 1600 (o 14) (o 7) (o 8) (o 9) (r 7) (r 8) (r 9) (n 7) (n 8) (n 9) (z 7) (z 8) (z 9) (F 7) (F 8) (F 9))) [17, 18, 19, 20, 21, 22, 23] rfl
      have hDc := hD.sub (ws' := (sU cI 1600 (o 14) (o 7) (o 8) (o 9) (r 7) (r 8) (r 9) (n 7) (n 8) (n 9) (z 7) (z 8) (z 9) (F 7) (F 8) (F 9))) [17, 18, 19, 20, 21, 22, 23] (by decide) rfl
      have hFc := va_free (wc := (sU cI 1600 (o 14) (o 7) (o 8) (o 9) (r 7) (r 8) (r 9) (n 7) (n 8) (n 9) (z 7) (z 8) (z 9) (F 7) (F 8) (F 9))) hD hS hA [17, 18, 19, 20, 21, 22, 23] rfl
      refine xk_call (va_runV (As := [.int (iz p0), .int (iz p1), .int (iz p2)]) (rest := []) ⟨hx, hb, hml, hown, hts⟩ (x_sadd l dC dI cI cB cE 1600 (o 14) (o 7) (o 8) (o 9) (r 7) (r 8) (r 9) (n 7) (n 8) (n 9) (z 7) (z 8) (z 9) (F 7) (F 8) (F 9) p0 p1 p2 s.heap.size (by omega) (hok.2.2.1 7) (by omega) (hok.2.2.1 8) (by omega) (hok.2.2.1 9) (by omega) (by omega) (by omega) (by omega) (by omega)) (cwV 3 hts (kx_gV kq_19_xouts_1 kq_15_xspan_72 kq_15_xspan_73 kq_15_xspan_53 kq_15_xspan_74 rfl) rfl rfl rfl (by decide +kernel) ⟨Nat.le_of_ble_eq_true rfl, Nat.le_of_ble_eq_true rfl⟩) ⟨kx_blind, va_recv hK hPc (ci := 3) (q0 := 0) rfl rfl, kx_give (ws := []) (tys := []) hPc hDc hK hG hZ hS hFc⟩ rfl rfl hl.1 rfl (lv_room (Nat.le_of_ble_eq_true rfl)) dX5_addLocators_23 ⟨show 0 + 3 ≤ 150 from (by omega), show 0 + 4800 ≤ 60000 from (by omega)⟩) hS (fun q _ h => hFc q h) hFc (fun u dn_7 dm_8 t H locs ht hvm hq_6 hB hk1 hS => ?_)
      obtain ⟨r1_9, n1_10, z1_11, F1_12, r2_13, n2_14, z2_15, F2_16, r3_17, n3_18, z3_19, F3_20⟩ := u
      obtain ⟨hP1, hK1, hD1⟩ := hB
      rw [ht] at hP1
      obtain ⟨hP, hD⟩ := xj_pool (wr := [(o 15, .inr (5, [.ref (o 16), .ref (Eo 0 0), .int (iz (z 12)), .int (iz (z 13)), .int (iz (z 14)), .ref (o 0), .ref (o 1), .int (iz (z 15)), .ref (o 13), .ref (o 14), .int (iz (z 16)), .ref (o 2), .ref (o 12), .ref (o 3), .ref (o 10), .ref (o 11)])), (o 16, .inl (cE, 80, .inr (.inr (.inr (.inr G))))), (o 0, .inr (1, [.int (iz 80), .ref (r 0), .int (iz (z 0))])), (r 0, .inl (cI, n 0, .inl (iA (F 0)))), (o 1, .inr (1, [.int (iz 80), .ref (r 1), .int (iz (z 1))])), (r 1, .inl (cI, n 1, .inl (iA (F 1)))), (o 2, .inr (1, [.int (iz 80), .ref (r 2), .int (iz (z 2))])), (r 2, .inl (cI, n 2, .inl (iA (F 2)))), (o 3, .inr (1, [.int (iz 80), .ref (r 3), .int (iz (z 3))])), (r 3, .inl (cI, n 3, .inl (iA (F 3)))), (o 13, .inr (3, [.ref (o 4), .ref (o 5), .ref (o 6)])), (o 4, .inr (1, [.int (iz 1600), .ref (r 4), .int (iz (z 4))])), (r 4, .inl (cI, n 4, .inl (iA (F 4)))), (o 5, .inr (1, [.int (iz 1600), .ref (r 5), .int (iz (z 5))])), (r 5, .inl (cI, n 5, .inl (iA (F 5)))), (o 6, .inr (1, [.int (iz 1600), .ref (r 6), .int (iz (z 6))])), (r 6, .inl (cI, n 6, .inl (iA (F 6)))), (o 12, .inr (4, [.int (iz (z 17)), .int (iz (z 18)), .int (iz (z 19)), .int (iz (z 20)), .int (iz (z 21))])), (o 10, .inr (2, [.ref (r 10), .int (iz (z 10)), .int (iz (z 22))])), (r 10, .inl (cB, n 10, .inl (iA (F 10)))), (o 11, .inr (2, [.ref (r 11), .int (iz (z 11)), .int (iz (z 23))])), (r 11, .inl (cB, n 11, .inl (iA (F 11))))]) (w1 := (sU cI 1600 (o 14) (o 7) (o 8) (o 9) r1_9 r2_13 r3_17 n1_10 n2_14 n3_18 z1_11 z2_15 z3_19 F1_12 F2_16 F3_20)) (ws' := (xU cI cB cE o (va_up (va_up (va_up r 7 r1_9) 8 r2_13) 9 r3_17) (va_up (va_up (va_up n 7 n1_10) 8 n2_14) 9 n3_18) (va_up (va_up (va_up z 7 z1_11) 8 z2_15) 9 z3_19) (va_up (va_up (va_up F 7 F1_12) 8 F2_16) 9 F3_20) G (Eo 0 0))) hP hD [17, 18, 19, 20, 21, 22, 23] [0, 1, 2, 3, 4, 5, 6, 7, 8, 9, 10, 11, 12, 13, 14, 15, 16, 24, 25, 26, 27, 28] [0, 1, 2, 3, 4, 5, 6, 7, 8, 9, 10, 11, 12, 13, 14, 15, 16, 22, 23, 24, 25, 26, 27, 28, 17, 18, 19, 20, 21] rfl rfl (by decide) (by decide) hk1 hFc hP1 hD1 rfl (by decide)
      refine W.eq (g2 := F0 m 26 ls []) rfl ?_
      try dsimp only at hq_6
      obtain ⟨ha21, hb121, hb21, hb221, hc21, hb321, hd21, hA21, hAA21⟩ := hq_6
      have hax21 := hA21.1
      have hpg121 := psg_le 1600 (n 7)
      have hpj121 := psj_le (L := 1600) (by omega) (n 7)
      have hpg221 := psg_le 1600 (n 8)
      have hpj221 := psj_le (L := 1600) (by omega) (n 8)
      have hpg321 := psg_le 1600 (n 9)
      have hpj321 := psj_le (L := 1600) (by omega) (n 9)
      obtain ⟨hpl21, hq121, hq221, hq321⟩ := lo_pl_ad hA21 hAA21.1 hAA21.2 (by omega) (by omega) (by omega) (by omega)
      replace hA21 := fun (_ : Unit) => hA21
      have hok22 : xOk (va_up (va_up (va_up n 7 n1_10) 8 n2_14) 9 n3_18) (va_up (va_up (va_up z 7 z1_11) 8 z2_15) 9 z3_19) (va_up (va_up (va_up F 7 F1_12) 8 F2_16) 9 F3_20) := (((hok.i 7 (by decide) (show 0 ≤ z1_11 ∧ z1_11 ≤ ((n1_10 : Nat) : Int) ∧ ((n1_10 : Nat) : Int) ≤ 1600 by omega) hb121).i 8 (by decide) (show 0 ≤ z2_15 ∧ z2_15 ≤ ((n2_14 : Nat) : Int) ∧ ((n2_14 : Nat) : Int) ≤ 1600 by omega) hb221).i 9 (by decide) (show 0 ≤ z3_19 ∧ z3_19 ≤ ((n3_18 : Nat) : Int) ∧ ((n3_18 : Nat) : Int) ≤ 1600 by omega) hb321)
      have hfr22 : xFr [7, 8, 9] [7, 8, 9] z F (va_up (va_up (va_up z 7 z1_11) 8 z2_15) 9 z3_19) (va_up (va_up (va_up F 7 F1_12) 8 F2_16) 9 F3_20) := ((((((hfr.uz 7 (by decide) _).uz 8 (by decide) _).uz 9 (by decide) _).uf 7 (by decide) _).uf 8 (by decide) _).uf 9 (by decide) _)
      have hcg22 : (dn_7) + xg (va_up (va_up (va_up n 7 n1_10) 8 n2_14) 9 n3_18) ≤ xg n := by unfold xg; simp (decide := true) only [va_ev, ↓reduceIte]; omega
      have hcp22 : (dm_8) + xp (va_up (va_up (va_up n 7 n1_10) 8 n2_14) 9 n3_18) ≤ xp n := by unfold xp; simp (decide := true) only [va_ev, ↓reduceIte]; omega
      exact xk_vret (ov := (fun _ : (Nat → Nat) × (Nat → Nat) × (Nat → Int) × (Nat → Int → Int) × (Nat → Nat → Nat) × (Nat → Nat → Nat) × (Nat → Nat → Int) × (Nat → Nat → Int → Int) => none)) (post := (fun (u : (Nat → Nat) × (Nat → Nat) × (Nat → Int) × (Nat → Int → Int) × (Nat → Nat → Nat) × (Nat → Nat → Nat) × (Nat → Nat → Int) × (Nat → Nat → Int → Int)) (dn dm : Nat) => match u with | (r', n', z', F', Er', En', Ez', EF') => xR [7, 8, 9] [7, 8, 9] [] [] N z F En Ez EF n' z' F' En' Ez' EF' ∧ (dn + xg n' ≤ xg n + 0 ∧ dm + xp n' ≤ xp n + 0) ∧ n' 11 = n 11 ∧ ((lo_pl (F' 7) (F' 8) (z' 7).toNat 0) = (lo_pl (F 7) (F 8) (z 7).toNat 0) ++ lo_Wz p0 p1 p2 ∧ (z' 7 = z' 8 ∧ z' 8 = z' 9) ∧ Er = Er' ∧ En = En' ∧ Ez = Ez' ∧ EF = EF'))) (ws := (fun u : (Nat → Nat) × (Nat → Nat) × (Nat → Int) × (Nat → Int → Int) × (Nat → Nat → Nat) × (Nat → Nat → Nat) × (Nat → Nat → Int) × (Nat → Nat → Int → Int) => match u with | (r', n', z', F', Er', En', Ez', EF') => (xU cI cB cE o r' n' z' F' G (Eo 0 0) ++ eP cI N Eo Er' En' Ez' EF'))) (tys := xT cI cB cE) ((va_up (va_up (va_up r 7 r1_9) 8 r2_13) 9 r3_17), (va_up (va_up (va_up n 7 n1_10) 8 n2_14) 9 n3_18), (va_up (va_up (va_up z 7 z1_11) 8 z2_15) 9 z3_19), (va_up (va_up (va_up F 7 F1_12) 8 F2_16) 9 F3_20), Er, En, Ez, EF) hx hb hr hlocks rfl hP hD hK hS dX5_addLocators_26 (fun dn dm hdn hdm => ⟨⟨hok22, hfr22, hPE, hef⟩, ⟨by omega, by omega⟩, ⟨(show n 11 = n 11 by omega), ⟨(by show lo_pl (F1_12) (F2_16) (z1_11).toNat 0 = (lo_pl (F 7) (F 8) (z 7).toNat 0) ++ lo_Wz p0 p1 p2; first | (rw [hpl21, lo_Wz_1 (by omega), lo_W_p (by omega)]) | (rw [hpl21, lo_Wz_1 (by omega), lo_W_1 (by omega) (by omega)])), (show z1_11 = z2_15 ∧ z2_15 = z3_19 by omega), rfl, rfl, rfl, rfl⟩⟩⟩) (by omega) (by omega)
    · skip
      refine lv_iload_n hx hb dX5_addLocators_9 rfl (lv_at hl 2 rfl) ?_
      refine lv_iload_n hx hb dX5_addLocators_10 rfl (lv_at hl 1 rfl) ?_
      refine ki_isub hx hb dX5_addLocators_11 ?_
      refine lv_iconst (v := iz 2) hx hb dX5_addLocators_12 (by decide) ?_
      refine ki_icmp_lt (tgt := 27) hx hb dX5_addLocators_13 (by decide) (by omega) (by omega) (by omega) (by omega) (fun c_23 => ?_) (fun c_23 => ?_)
      · skip
        refine lv_aload_n hx hb dX5_addLocators_27 rfl (lv_at hl 0 rfl) ?_
        refine va_get (D := (dC, dI)) (ci := 5) (v := .ref (o 14)) (C := RX5) (T := TX5) (N := 16) hx hb hts kt_X5 hown hK hP 0 rfl rfl 9 (by decide) (kx_word hG kq_19_xouts_0 rfl) (fun _ h9 => h9) rfl dX5_addLocators_28 ?_
        refine lv_iload_n hx hb dX5_addLocators_31 rfl (lv_at hl 1 rfl) ?_
        refine lv_iload_n hx hb dX5_addLocators_32 rfl (lv_at hl 1 rfl) ?_
        refine lv_iconst (v := iz 0) hx hb dX5_addLocators_33 (by decide) ?_
        have hxi_24 : 0 ≤ z 7 ∧ z 7 ≤ ((n 7 : Nat) : Int) ∧ ((n 7 : Nat) : Int) ≤ 1600 := hok.1 7 (by decide)
        have hxi_25 : 0 ≤ z 8 ∧ z 8 ≤ ((n 8 : Nat) : Int) ∧ ((n 8 : Nat) : Int) ≤ 1600 := hok.1 8 (by decide)
        have hxi_26 : 0 ≤ z 9 ∧ z 9 ≤ ((n 9 : Nat) : Int) ∧ ((n 9 : Nat) : Int) ≤ 1600 := hok.1 9 (by decide)
        have hPc := hP.sub (ws' := (sU cI 1600 (o 14) (o 7) (o 8) (o 9) (r 7) (r 8) (r 9) (n 7) (n 8) (n 9) (z 7) (z 8) (z 9) (F 7) (F 8) (F 9))) [17, 18, 19, 20, 21, 22, 23] rfl
        have hDc := hD.sub (ws' := (sU cI 1600 (o 14) (o 7) (o 8) (o 9) (r 7) (r 8) (r 9) (n 7) (n 8) (n 9) (z 7) (z 8) (z 9) (F 7) (F 8) (F 9))) [17, 18, 19, 20, 21, 22, 23] (by decide) rfl
        have hFc := va_free (wc := (sU cI 1600 (o 14) (o 7) (o 8) (o 9) (r 7) (r 8) (r 9) (n 7) (n 8) (n 9) (z 7) (z 8) (z 9) (F 7) (F 8) (F 9))) hD hS hA [17, 18, 19, 20, 21, 22, 23] rfl
        refine xk_call (va_runV (As := [.int (iz p0), .int (iz p0), .int (iz 0)]) (rest := []) ⟨hx, hb, hml, hown, hts⟩ (x_sadd l dC dI cI cB cE 1600 (o 14) (o 7) (o 8) (o 9) (r 7) (r 8) (r 9) (n 7) (n 8) (n 9) (z 7) (z 8) (z 9) (F 7) (F 8) (F 9) p0 p0 0 s.heap.size (by omega) (hok.2.2.1 7) (by omega) (hok.2.2.1 8) (by omega) (hok.2.2.1 9) (by omega) (by omega) (by omega) (by omega) (by omega)) (cwV 3 hts (kx_gV kq_19_xouts_1 kq_15_xspan_72 kq_15_xspan_73 kq_15_xspan_53 kq_15_xspan_74 rfl) rfl rfl rfl (by decide +kernel) ⟨Nat.le_of_ble_eq_true rfl, Nat.le_of_ble_eq_true rfl⟩) ⟨kx_blind, va_recv hK hPc (ci := 3) (q0 := 0) rfl rfl, kx_give (ws := []) (tys := []) hPc hDc hK hG hZ hS hFc⟩ rfl rfl hl.1 rfl (lv_room (Nat.le_of_ble_eq_true rfl)) dX5_addLocators_34 ⟨show 0 + 3 ≤ 150 from (by omega), show 0 + 4800 ≤ 60000 from (by omega)⟩) hS (fun q _ h => hFc q h) hFc (fun u dn_28 dm_29 t H locs ht hvm hq_27 hB hk1 hS => ?_)
        obtain ⟨r1_30, n1_31, z1_32, F1_33, r2_34, n2_35, z2_36, F2_37, r3_38, n3_39, z3_40, F3_41⟩ := u
        obtain ⟨hP1, hK1, hD1⟩ := hB
        rw [ht] at hP1
        obtain ⟨hP, hD⟩ := xj_pool (wr := [(o 15, .inr (5, [.ref (o 16), .ref (Eo 0 0), .int (iz (z 12)), .int (iz (z 13)), .int (iz (z 14)), .ref (o 0), .ref (o 1), .int (iz (z 15)), .ref (o 13), .ref (o 14), .int (iz (z 16)), .ref (o 2), .ref (o 12), .ref (o 3), .ref (o 10), .ref (o 11)])), (o 16, .inl (cE, 80, .inr (.inr (.inr (.inr G))))), (o 0, .inr (1, [.int (iz 80), .ref (r 0), .int (iz (z 0))])), (r 0, .inl (cI, n 0, .inl (iA (F 0)))), (o 1, .inr (1, [.int (iz 80), .ref (r 1), .int (iz (z 1))])), (r 1, .inl (cI, n 1, .inl (iA (F 1)))), (o 2, .inr (1, [.int (iz 80), .ref (r 2), .int (iz (z 2))])), (r 2, .inl (cI, n 2, .inl (iA (F 2)))), (o 3, .inr (1, [.int (iz 80), .ref (r 3), .int (iz (z 3))])), (r 3, .inl (cI, n 3, .inl (iA (F 3)))), (o 13, .inr (3, [.ref (o 4), .ref (o 5), .ref (o 6)])), (o 4, .inr (1, [.int (iz 1600), .ref (r 4), .int (iz (z 4))])), (r 4, .inl (cI, n 4, .inl (iA (F 4)))), (o 5, .inr (1, [.int (iz 1600), .ref (r 5), .int (iz (z 5))])), (r 5, .inl (cI, n 5, .inl (iA (F 5)))), (o 6, .inr (1, [.int (iz 1600), .ref (r 6), .int (iz (z 6))])), (r 6, .inl (cI, n 6, .inl (iA (F 6)))), (o 12, .inr (4, [.int (iz (z 17)), .int (iz (z 18)), .int (iz (z 19)), .int (iz (z 20)), .int (iz (z 21))])), (o 10, .inr (2, [.ref (r 10), .int (iz (z 10)), .int (iz (z 22))])), (r 10, .inl (cB, n 10, .inl (iA (F 10)))), (o 11, .inr (2, [.ref (r 11), .int (iz (z 11)), .int (iz (z 23))])), (r 11, .inl (cB, n 11, .inl (iA (F 11))))]) (w1 := (sU cI 1600 (o 14) (o 7) (o 8) (o 9) r1_30 r2_34 r3_38 n1_31 n2_35 n3_39 z1_32 z2_36 z3_40 F1_33 F2_37 F3_41)) (ws' := (xU cI cB cE o (va_up (va_up (va_up r 7 r1_30) 8 r2_34) 9 r3_38) (va_up (va_up (va_up n 7 n1_31) 8 n2_35) 9 n3_39) (va_up (va_up (va_up z 7 z1_32) 8 z2_36) 9 z3_40) (va_up (va_up (va_up F 7 F1_33) 8 F2_37) 9 F3_41) G (Eo 0 0))) hP hD [17, 18, 19, 20, 21, 22, 23] [0, 1, 2, 3, 4, 5, 6, 7, 8, 9, 10, 11, 12, 13, 14, 15, 16, 24, 25, 26, 27, 28] [0, 1, 2, 3, 4, 5, 6, 7, 8, 9, 10, 11, 12, 13, 14, 15, 16, 22, 23, 24, 25, 26, 27, 28, 17, 18, 19, 20, 21] rfl rfl (by decide) (by decide) hk1 hFc hP1 hD1 rfl (by decide)
        refine W.eq (g2 := F0 m 37 ls []) rfl ?_
        try dsimp only at hq_27
        obtain ⟨ha42, hb142, hb42, hb242, hc42, hb342, hd42, hA42, hAA42⟩ := hq_27
        have hax42 := hA42.1
        have hpg142 := psg_le 1600 (n 7)
        have hpj142 := psj_le (L := 1600) (by omega) (n 7)
        have hpg242 := psg_le 1600 (n 8)
        have hpj242 := psj_le (L := 1600) (by omega) (n 8)
        have hpg342 := psg_le 1600 (n 9)
        have hpj342 := psj_le (L := 1600) (by omega) (n 9)
        obtain ⟨hpl42, hq142, hq242, hq342⟩ := lo_pl_ad hA42 hAA42.1 hAA42.2 (by omega) (by omega) (by omega) (by omega)
        replace hA42 := fun (_ : Unit) => hA42
        refine lv_iload_n hx hb dX5_addLocators_37 rfl (lv_at hl 2 rfl) ?_
        refine lv_iload_n hx hb dX5_addLocators_38 rfl (lv_at hl 1 rfl) ?_
        refine ki_icmp_eq (tgt := 52) hx hb dX5_addLocators_39 (by decide) (by omega) (by omega) (by omega) (by omega) (fun c_43 => ?_) (fun c_43 => ?_)
        · skip
          have hok44 : xOk (va_up (va_up (va_up n 7 n1_31) 8 n2_35) 9 n3_39) (va_up (va_up (va_up z 7 z1_32) 8 z2_36) 9 z3_40) (va_up (va_up (va_up F 7 F1_33) 8 F2_37) 9 F3_41) := (((hok.i 7 (by decide) (show 0 ≤ z1_32 ∧ z1_32 ≤ ((n1_31 : Nat) : Int) ∧ ((n1_31 : Nat) : Int) ≤ 1600 by omega) hb142).i 8 (by decide) (show 0 ≤ z2_36 ∧ z2_36 ≤ ((n2_35 : Nat) : Int) ∧ ((n2_35 : Nat) : Int) ≤ 1600 by omega) hb242).i 9 (by decide) (show 0 ≤ z3_40 ∧ z3_40 ≤ ((n3_39 : Nat) : Int) ∧ ((n3_39 : Nat) : Int) ≤ 1600 by omega) hb342)
          have hfr44 : xFr [7, 8, 9] [7, 8, 9] z F (va_up (va_up (va_up z 7 z1_32) 8 z2_36) 9 z3_40) (va_up (va_up (va_up F 7 F1_33) 8 F2_37) 9 F3_41) := ((((((hfr.uz 7 (by decide) _).uz 8 (by decide) _).uz 9 (by decide) _).uf 7 (by decide) _).uf 8 (by decide) _).uf 9 (by decide) _)
          have hcg44 : (dn_28) + xg (va_up (va_up (va_up n 7 n1_31) 8 n2_35) 9 n3_39) ≤ xg n := by unfold xg; simp (decide := true) only [va_ev, ↓reduceIte]; omega
          have hcp44 : (dm_29) + xp (va_up (va_up (va_up n 7 n1_31) 8 n2_35) 9 n3_39) ≤ xp n := by unfold xp; simp (decide := true) only [va_ev, ↓reduceIte]; omega
          exact xk_vret (ov := (fun _ : (Nat → Nat) × (Nat → Nat) × (Nat → Int) × (Nat → Int → Int) × (Nat → Nat → Nat) × (Nat → Nat → Nat) × (Nat → Nat → Int) × (Nat → Nat → Int → Int) => none)) (post := (fun (u : (Nat → Nat) × (Nat → Nat) × (Nat → Int) × (Nat → Int → Int) × (Nat → Nat → Nat) × (Nat → Nat → Nat) × (Nat → Nat → Int) × (Nat → Nat → Int → Int)) (dn dm : Nat) => match u with | (r', n', z', F', Er', En', Ez', EF') => xR [7, 8, 9] [7, 8, 9] [] [] N z F En Ez EF n' z' F' En' Ez' EF' ∧ (dn + xg n' ≤ xg n + 0 ∧ dm + xp n' ≤ xp n + 0) ∧ n' 11 = n 11 ∧ ((lo_pl (F' 7) (F' 8) (z' 7).toNat 0) = (lo_pl (F 7) (F 8) (z 7).toNat 0) ++ lo_Wz p0 p1 p2 ∧ (z' 7 = z' 8 ∧ z' 8 = z' 9) ∧ Er = Er' ∧ En = En' ∧ Ez = Ez' ∧ EF = EF'))) (ws := (fun u : (Nat → Nat) × (Nat → Nat) × (Nat → Int) × (Nat → Int → Int) × (Nat → Nat → Nat) × (Nat → Nat → Nat) × (Nat → Nat → Int) × (Nat → Nat → Int → Int) => match u with | (r', n', z', F', Er', En', Ez', EF') => (xU cI cB cE o r' n' z' F' G (Eo 0 0) ++ eP cI N Eo Er' En' Ez' EF'))) (tys := xT cI cB cE) ((va_up (va_up (va_up r 7 r1_30) 8 r2_34) 9 r3_38), (va_up (va_up (va_up n 7 n1_31) 8 n2_35) 9 n3_39), (va_up (va_up (va_up z 7 z1_32) 8 z2_36) 9 z3_40), (va_up (va_up (va_up F 7 F1_33) 8 F2_37) 9 F3_41), Er, En, Ez, EF) hx hb hr hlocks rfl hP hD hK hS dX5_addLocators_52 (fun dn dm hdn hdm => ⟨⟨hok44, hfr44, hPE, hef⟩, ⟨by omega, by omega⟩, ⟨(show n 11 = n 11 by omega), ⟨(by show lo_pl (F1_33) (F2_37) (z1_32).toNat 0 = (lo_pl (F 7) (F 8) (z 7).toNat 0) ++ lo_Wz p0 p1 p2; first | (rw [hpl42, lo_Wz_1 (by omega), lo_W_p (by omega)]) | (rw [hpl42, lo_Wz_1 (by omega), lo_W_1 (by omega) (by omega)])), (show z1_32 = z2_36 ∧ z2_36 = z3_40 by omega), rfl, rfl, rfl, rfl⟩⟩⟩) (by omega) (by omega)
        · skip
          refine lv_aload_n hx hb dX5_addLocators_42 rfl (lv_at hl 0 rfl) ?_
          refine va_get (D := (dC, dI)) (ci := 5) (v := .ref (o 14)) (C := RX5) (T := TX5) (N := 16) hx hb hts kt_X5 hown hK hP 0 rfl rfl 9 (by decide) (kx_word hG kq_19_xouts_0 rfl) (fun _ h9 => h9) rfl dX5_addLocators_43 ?_
          refine lv_iload_n hx hb dX5_addLocators_46 rfl (lv_at hl 2 rfl) ?_
          refine lv_iload_n hx hb dX5_addLocators_47 rfl (lv_at hl 2 rfl) ?_
          refine lv_iconst (v := iz 0) hx hb dX5_addLocators_48 (by decide) ?_
          have hPc := hP.sub (ws' := (sU cI 1600 (o 14) (o 7) (o 8) (o 9) r1_30 r2_34 r3_38 n1_31 n2_35 n3_39 z1_32 z2_36 z3_40 F1_33 F2_37 F3_41)) [17, 18, 19, 20, 21, 22, 23] rfl
          have hDc := hD.sub (ws' := (sU cI 1600 (o 14) (o 7) (o 8) (o 9) r1_30 r2_34 r3_38 n1_31 n2_35 n3_39 z1_32 z2_36 z3_40 F1_33 F2_37 F3_41)) [17, 18, 19, 20, 21, 22, 23] (by decide) rfl
          have hFc := va_free (wc := (sU cI 1600 (o 14) (o 7) (o 8) (o 9) r1_30 r2_34 r3_38 n1_31 n2_35 n3_39 z1_32 z2_36 z3_40 F1_33 F2_37 F3_41)) hD hS hA [17, 18, 19, 20, 21, 22, 23] rfl
          refine xk_call (va_runV (As := [.int (iz p1), .int (iz p1), .int (iz 0)]) (rest := []) ⟨hx, hb, hml, hown, hts⟩ (x_sadd l dC dI cI cB cE 1600 (o 14) (o 7) (o 8) (o 9) r1_30 r2_34 r3_38 n1_31 n2_35 n3_39 z1_32 z2_36 z3_40 F1_33 F2_37 F3_41 p1 p1 0 H.size (by omega) hb142 (by omega) hb242 (by omega) hb342 (by omega) (by omega) (by omega) (by omega) (by omega)) (cwV 3 hts (kx_gV kq_19_xouts_1 kq_15_xspan_72 kq_15_xspan_73 kq_15_xspan_53 kq_15_xspan_74 rfl) rfl rfl rfl (by decide +kernel) ⟨Nat.le_of_ble_eq_true rfl, Nat.le_of_ble_eq_true rfl⟩) ⟨kx_blind, va_recv hK hPc (ci := 3) (q0 := 0) rfl rfl, kx_give (ws := []) (tys := []) hPc hDc hK hG hZ hS hFc⟩ rfl rfl hl.1 rfl (lv_room (Nat.le_of_ble_eq_true rfl)) dX5_addLocators_49 ⟨show (0 + dn_28) + 3 ≤ 150 from (by omega), show (0 + dm_29) + 4800 ≤ 60000 from (by omega)⟩) hS (fun q _ h => hFc q h) hFc (fun u dn_46 dm_47 t H locs ht hvm hq_45 hB hk1 hS => ?_)
          obtain ⟨r1_48, n1_49, z1_50, F1_51, r2_52, n2_53, z2_54, F2_55, r3_56, n3_57, z3_58, F3_59⟩ := u
          obtain ⟨hP1, hK1, hD1⟩ := hB
          rw [ht] at hP1
          obtain ⟨hP, hD⟩ := xj_pool (wr := [(o 15, .inr (5, [.ref (o 16), .ref (Eo 0 0), .int (iz (z 12)), .int (iz (z 13)), .int (iz (z 14)), .ref (o 0), .ref (o 1), .int (iz (z 15)), .ref (o 13), .ref (o 14), .int (iz (z 16)), .ref (o 2), .ref (o 12), .ref (o 3), .ref (o 10), .ref (o 11)])), (o 16, .inl (cE, 80, .inr (.inr (.inr (.inr G))))), (o 0, .inr (1, [.int (iz 80), .ref (r 0), .int (iz (z 0))])), (r 0, .inl (cI, n 0, .inl (iA (F 0)))), (o 1, .inr (1, [.int (iz 80), .ref (r 1), .int (iz (z 1))])), (r 1, .inl (cI, n 1, .inl (iA (F 1)))), (o 2, .inr (1, [.int (iz 80), .ref (r 2), .int (iz (z 2))])), (r 2, .inl (cI, n 2, .inl (iA (F 2)))), (o 3, .inr (1, [.int (iz 80), .ref (r 3), .int (iz (z 3))])), (r 3, .inl (cI, n 3, .inl (iA (F 3)))), (o 13, .inr (3, [.ref (o 4), .ref (o 5), .ref (o 6)])), (o 4, .inr (1, [.int (iz 1600), .ref (r 4), .int (iz (z 4))])), (r 4, .inl (cI, n 4, .inl (iA (F 4)))), (o 5, .inr (1, [.int (iz 1600), .ref (r 5), .int (iz (z 5))])), (r 5, .inl (cI, n 5, .inl (iA (F 5)))), (o 6, .inr (1, [.int (iz 1600), .ref (r 6), .int (iz (z 6))])), (r 6, .inl (cI, n 6, .inl (iA (F 6)))), (o 12, .inr (4, [.int (iz (z 17)), .int (iz (z 18)), .int (iz (z 19)), .int (iz (z 20)), .int (iz (z 21))])), (o 10, .inr (2, [.ref (r 10), .int (iz (z 10)), .int (iz (z 22))])), (r 10, .inl (cB, n 10, .inl (iA (F 10)))), (o 11, .inr (2, [.ref (r 11), .int (iz (z 11)), .int (iz (z 23))])), (r 11, .inl (cB, n 11, .inl (iA (F 11))))]) (w1 := (sU cI 1600 (o 14) (o 7) (o 8) (o 9) r1_48 r2_52 r3_56 n1_49 n2_53 n3_57 z1_50 z2_54 z3_58 F1_51 F2_55 F3_59)) (ws' := (xU cI cB cE o (va_up (va_up (va_up r 7 r1_48) 8 r2_52) 9 r3_56) (va_up (va_up (va_up n 7 n1_49) 8 n2_53) 9 n3_57) (va_up (va_up (va_up z 7 z1_50) 8 z2_54) 9 z3_58) (va_up (va_up (va_up F 7 F1_51) 8 F2_55) 9 F3_59) G (Eo 0 0))) hP hD [17, 18, 19, 20, 21, 22, 23] [0, 1, 2, 3, 4, 5, 6, 7, 8, 9, 10, 11, 12, 13, 14, 15, 16, 24, 25, 26, 27, 28] [0, 1, 2, 3, 4, 5, 6, 7, 8, 9, 10, 11, 12, 13, 14, 15, 16, 22, 23, 24, 25, 26, 27, 28, 17, 18, 19, 20, 21] rfl rfl (by decide) (by decide) hk1 hFc hP1 hD1 rfl (by decide)
          refine W.eq (g2 := F0 m 52 ls []) rfl ?_
          try dsimp only at hq_45
          obtain ⟨ha60, hb160, hb60, hb260, hc60, hb360, hd60, hA60, hAA60⟩ := hq_45
          have hax60 := hA60.1
          have hpg160 := psg_le 1600 (n1_31)
          have hpj160 := psj_le (L := 1600) (by omega) (n1_31)
          have hpg260 := psg_le 1600 (n2_35)
          have hpj260 := psj_le (L := 1600) (by omega) (n2_35)
          have hpg360 := psg_le 1600 (n3_39)
          have hpj360 := psj_le (L := 1600) (by omega) (n3_39)
          obtain ⟨hpl60, hq160, hq260, hq360⟩ := lo_pl_ad hA60 hAA60.1 hAA60.2 (by omega) (by omega) (by omega) (by omega)
          replace hA60 := fun (_ : Unit) => hA60
          have hok61 : xOk (va_up (va_up (va_up n 7 n1_49) 8 n2_53) 9 n3_57) (va_up (va_up (va_up z 7 z1_50) 8 z2_54) 9 z3_58) (va_up (va_up (va_up F 7 F1_51) 8 F2_55) 9 F3_59) := (((hok.i 7 (by decide) (show 0 ≤ z1_50 ∧ z1_50 ≤ ((n1_49 : Nat) : Int) ∧ ((n1_49 : Nat) : Int) ≤ 1600 by omega) hb160).i 8 (by decide) (show 0 ≤ z2_54 ∧ z2_54 ≤ ((n2_53 : Nat) : Int) ∧ ((n2_53 : Nat) : Int) ≤ 1600 by omega) hb260).i 9 (by decide) (show 0 ≤ z3_58 ∧ z3_58 ≤ ((n3_57 : Nat) : Int) ∧ ((n3_57 : Nat) : Int) ≤ 1600 by omega) hb360)
          have hfr61 : xFr [7, 8, 9] [7, 8, 9] z F (va_up (va_up (va_up z 7 z1_50) 8 z2_54) 9 z3_58) (va_up (va_up (va_up F 7 F1_51) 8 F2_55) 9 F3_59) := ((((((hfr.uz 7 (by decide) _).uz 8 (by decide) _).uz 9 (by decide) _).uf 7 (by decide) _).uf 8 (by decide) _).uf 9 (by decide) _)
          have hcg61 : (dn_28 + dn_46) + xg (va_up (va_up (va_up n 7 n1_49) 8 n2_53) 9 n3_57) ≤ xg n := by unfold xg; simp (decide := true) only [va_ev, ↓reduceIte]; omega
          have hcp61 : (dm_29 + dm_47) + xp (va_up (va_up (va_up n 7 n1_49) 8 n2_53) 9 n3_57) ≤ xp n := by unfold xp; simp (decide := true) only [va_ev, ↓reduceIte]; omega
          exact xk_vret (ov := (fun _ : (Nat → Nat) × (Nat → Nat) × (Nat → Int) × (Nat → Int → Int) × (Nat → Nat → Nat) × (Nat → Nat → Nat) × (Nat → Nat → Int) × (Nat → Nat → Int → Int) => none)) (post := (fun (u : (Nat → Nat) × (Nat → Nat) × (Nat → Int) × (Nat → Int → Int) × (Nat → Nat → Nat) × (Nat → Nat → Nat) × (Nat → Nat → Int) × (Nat → Nat → Int → Int)) (dn dm : Nat) => match u with | (r', n', z', F', Er', En', Ez', EF') => xR [7, 8, 9] [7, 8, 9] [] [] N z F En Ez EF n' z' F' En' Ez' EF' ∧ (dn + xg n' ≤ xg n + 0 ∧ dm + xp n' ≤ xp n + 0) ∧ n' 11 = n 11 ∧ ((lo_pl (F' 7) (F' 8) (z' 7).toNat 0) = (lo_pl (F 7) (F 8) (z 7).toNat 0) ++ lo_Wz p0 p1 p2 ∧ (z' 7 = z' 8 ∧ z' 8 = z' 9) ∧ Er = Er' ∧ En = En' ∧ Ez = Ez' ∧ EF = EF'))) (ws := (fun u : (Nat → Nat) × (Nat → Nat) × (Nat → Int) × (Nat → Int → Int) × (Nat → Nat → Nat) × (Nat → Nat → Nat) × (Nat → Nat → Int) × (Nat → Nat → Int → Int) => match u with | (r', n', z', F', Er', En', Ez', EF') => (xU cI cB cE o r' n' z' F' G (Eo 0 0) ++ eP cI N Eo Er' En' Ez' EF'))) (tys := xT cI cB cE) ((va_up (va_up (va_up r 7 r1_48) 8 r2_52) 9 r3_56), (va_up (va_up (va_up n 7 n1_49) 8 n2_53) 9 n3_57), (va_up (va_up (va_up z 7 z1_50) 8 z2_54) 9 z3_58), (va_up (va_up (va_up F 7 F1_51) 8 F2_55) 9 F3_59), Er, En, Ez, EF) hx hb hr hlocks rfl hP hD hK hS dX5_addLocators_52 (fun dn dm hdn hdm => ⟨⟨hok61, hfr61, hPE, hef⟩, ⟨by omega, by omega⟩, ⟨(show n 11 = n 11 by omega), ⟨(by show lo_pl (F1_51) (F2_55) (z1_50).toNat 0 = (lo_pl (F 7) (F 8) (z 7).toNat 0) ++ lo_Wz p0 p1 p2; rw [hpl60, hpl42, List.append_assoc, lo_Wz_1 (by omega), lo_W_2 (by omega) (by omega)]; rfl), (show z1_50 = z2_54 ∧ z2_54 = z3_58 by omega), rfl, rfl, rfl, rfl⟩⟩⟩) (by omega) (by omega)
      · skip
        refine lv_aload_n hx hb dX5_addLocators_16 rfl (lv_at hl 0 rfl) ?_
        refine va_get (D := (dC, dI)) (ci := 5) (v := .ref (o 14)) (C := RX5) (T := TX5) (N := 16) hx hb hts kt_X5 hown hK hP 0 rfl rfl 9 (by decide) (kx_word hG kq_19_xouts_0 rfl) (fun _ h9 => h9) rfl dX5_addLocators_17 ?_
        refine lv_iload_n hx hb dX5_addLocators_20 rfl (lv_at hl 1 rfl) ?_
        refine lv_iload_n hx hb dX5_addLocators_21 rfl (lv_at hl 2 rfl) ?_
        refine lv_iload_n hx hb dX5_addLocators_22 rfl (lv_at hl 3 rfl) ?_
        have hxi_62 : 0 ≤ z 7 ∧ z 7 ≤ ((n 7 : Nat) : Int) ∧ ((n 7 : Nat) : Int) ≤ 1600 := hok.1 7 (by decide)
        have hxi_63 : 0 ≤ z 8 ∧ z 8 ≤ ((n 8 : Nat) : Int) ∧ ((n 8 : Nat) : Int) ≤ 1600 := hok.1 8 (by decide)
        have hxi_64 : 0 ≤ z 9 ∧ z 9 ≤ ((n 9 : Nat) : Int) ∧ ((n 9 : Nat) : Int) ≤ 1600 := hok.1 9 (by decide)
        have hPc := hP.sub (ws' := (sU cI 1600 (o 14) (o 7) (o 8) (o 9) (r 7) (r 8) (r 9) (n 7) (n 8) (n 9) (z 7) (z 8) (z 9) (F 7) (F 8) (F 9))) [17, 18, 19, 20, 21, 22, 23] rfl
        have hDc := hD.sub (ws' := (sU cI 1600 (o 14) (o 7) (o 8) (o 9) (r 7) (r 8) (r 9) (n 7) (n 8) (n 9) (z 7) (z 8) (z 9) (F 7) (F 8) (F 9))) [17, 18, 19, 20, 21, 22, 23] (by decide) rfl
        have hFc := va_free (wc := (sU cI 1600 (o 14) (o 7) (o 8) (o 9) (r 7) (r 8) (r 9) (n 7) (n 8) (n 9) (z 7) (z 8) (z 9) (F 7) (F 8) (F 9))) hD hS hA [17, 18, 19, 20, 21, 22, 23] rfl
        refine xk_call (va_runV (As := [.int (iz p0), .int (iz p1), .int (iz p2)]) (rest := []) ⟨hx, hb, hml, hown, hts⟩ (x_sadd l dC dI cI cB cE 1600 (o 14) (o 7) (o 8) (o 9) (r 7) (r 8) (r 9) (n 7) (n 8) (n 9) (z 7) (z 8) (z 9) (F 7) (F 8) (F 9) p0 p1 p2 s.heap.size (by omega) (hok.2.2.1 7) (by omega) (hok.2.2.1 8) (by omega) (hok.2.2.1 9) (by omega) (by omega) (by omega) (by omega) (by omega)) (cwV 3 hts (kx_gV kq_19_xouts_1 kq_15_xspan_72 kq_15_xspan_73 kq_15_xspan_53 kq_15_xspan_74 rfl) rfl rfl rfl (by decide +kernel) ⟨Nat.le_of_ble_eq_true rfl, Nat.le_of_ble_eq_true rfl⟩) ⟨kx_blind, va_recv hK hPc (ci := 3) (q0 := 0) rfl rfl, kx_give (ws := []) (tys := []) hPc hDc hK hG hZ hS hFc⟩ rfl rfl hl.1 rfl (lv_room (Nat.le_of_ble_eq_true rfl)) dX5_addLocators_23 ⟨show 0 + 3 ≤ 150 from (by omega), show 0 + 4800 ≤ 60000 from (by omega)⟩) hS (fun q _ h => hFc q h) hFc (fun u dn_66 dm_67 t H locs ht hvm hq_65 hB hk1 hS => ?_)
        obtain ⟨r1_68, n1_69, z1_70, F1_71, r2_72, n2_73, z2_74, F2_75, r3_76, n3_77, z3_78, F3_79⟩ := u
        obtain ⟨hP1, hK1, hD1⟩ := hB
        rw [ht] at hP1
        obtain ⟨hP, hD⟩ := xj_pool (wr := [(o 15, .inr (5, [.ref (o 16), .ref (Eo 0 0), .int (iz (z 12)), .int (iz (z 13)), .int (iz (z 14)), .ref (o 0), .ref (o 1), .int (iz (z 15)), .ref (o 13), .ref (o 14), .int (iz (z 16)), .ref (o 2), .ref (o 12), .ref (o 3), .ref (o 10), .ref (o 11)])), (o 16, .inl (cE, 80, .inr (.inr (.inr (.inr G))))), (o 0, .inr (1, [.int (iz 80), .ref (r 0), .int (iz (z 0))])), (r 0, .inl (cI, n 0, .inl (iA (F 0)))), (o 1, .inr (1, [.int (iz 80), .ref (r 1), .int (iz (z 1))])), (r 1, .inl (cI, n 1, .inl (iA (F 1)))), (o 2, .inr (1, [.int (iz 80), .ref (r 2), .int (iz (z 2))])), (r 2, .inl (cI, n 2, .inl (iA (F 2)))), (o 3, .inr (1, [.int (iz 80), .ref (r 3), .int (iz (z 3))])), (r 3, .inl (cI, n 3, .inl (iA (F 3)))), (o 13, .inr (3, [.ref (o 4), .ref (o 5), .ref (o 6)])), (o 4, .inr (1, [.int (iz 1600), .ref (r 4), .int (iz (z 4))])), (r 4, .inl (cI, n 4, .inl (iA (F 4)))), (o 5, .inr (1, [.int (iz 1600), .ref (r 5), .int (iz (z 5))])), (r 5, .inl (cI, n 5, .inl (iA (F 5)))), (o 6, .inr (1, [.int (iz 1600), .ref (r 6), .int (iz (z 6))])), (r 6, .inl (cI, n 6, .inl (iA (F 6)))), (o 12, .inr (4, [.int (iz (z 17)), .int (iz (z 18)), .int (iz (z 19)), .int (iz (z 20)), .int (iz (z 21))])), (o 10, .inr (2, [.ref (r 10), .int (iz (z 10)), .int (iz (z 22))])), (r 10, .inl (cB, n 10, .inl (iA (F 10)))), (o 11, .inr (2, [.ref (r 11), .int (iz (z 11)), .int (iz (z 23))])), (r 11, .inl (cB, n 11, .inl (iA (F 11))))]) (w1 := (sU cI 1600 (o 14) (o 7) (o 8) (o 9) r1_68 r2_72 r3_76 n1_69 n2_73 n3_77 z1_70 z2_74 z3_78 F1_71 F2_75 F3_79)) (ws' := (xU cI cB cE o (va_up (va_up (va_up r 7 r1_68) 8 r2_72) 9 r3_76) (va_up (va_up (va_up n 7 n1_69) 8 n2_73) 9 n3_77) (va_up (va_up (va_up z 7 z1_70) 8 z2_74) 9 z3_78) (va_up (va_up (va_up F 7 F1_71) 8 F2_75) 9 F3_79) G (Eo 0 0))) hP hD [17, 18, 19, 20, 21, 22, 23] [0, 1, 2, 3, 4, 5, 6, 7, 8, 9, 10, 11, 12, 13, 14, 15, 16, 24, 25, 26, 27, 28] [0, 1, 2, 3, 4, 5, 6, 7, 8, 9, 10, 11, 12, 13, 14, 15, 16, 22, 23, 24, 25, 26, 27, 28, 17, 18, 19, 20, 21] rfl rfl (by decide) (by decide) hk1 hFc hP1 hD1 rfl (by decide)
        refine W.eq (g2 := F0 m 26 ls []) rfl ?_
        try dsimp only at hq_65
        obtain ⟨ha80, hb180, hb80, hb280, hc80, hb380, hd80, hA80, hAA80⟩ := hq_65
        have hax80 := hA80.1
        have hpg180 := psg_le 1600 (n 7)
        have hpj180 := psj_le (L := 1600) (by omega) (n 7)
        have hpg280 := psg_le 1600 (n 8)
        have hpj280 := psj_le (L := 1600) (by omega) (n 8)
        have hpg380 := psg_le 1600 (n 9)
        have hpj380 := psj_le (L := 1600) (by omega) (n 9)
        obtain ⟨hpl80, hq180, hq280, hq380⟩ := lo_pl_ad hA80 hAA80.1 hAA80.2 (by omega) (by omega) (by omega) (by omega)
        replace hA80 := fun (_ : Unit) => hA80
        have hok81 : xOk (va_up (va_up (va_up n 7 n1_69) 8 n2_73) 9 n3_77) (va_up (va_up (va_up z 7 z1_70) 8 z2_74) 9 z3_78) (va_up (va_up (va_up F 7 F1_71) 8 F2_75) 9 F3_79) := (((hok.i 7 (by decide) (show 0 ≤ z1_70 ∧ z1_70 ≤ ((n1_69 : Nat) : Int) ∧ ((n1_69 : Nat) : Int) ≤ 1600 by omega) hb180).i 8 (by decide) (show 0 ≤ z2_74 ∧ z2_74 ≤ ((n2_73 : Nat) : Int) ∧ ((n2_73 : Nat) : Int) ≤ 1600 by omega) hb280).i 9 (by decide) (show 0 ≤ z3_78 ∧ z3_78 ≤ ((n3_77 : Nat) : Int) ∧ ((n3_77 : Nat) : Int) ≤ 1600 by omega) hb380)
        have hfr81 : xFr [7, 8, 9] [7, 8, 9] z F (va_up (va_up (va_up z 7 z1_70) 8 z2_74) 9 z3_78) (va_up (va_up (va_up F 7 F1_71) 8 F2_75) 9 F3_79) := ((((((hfr.uz 7 (by decide) _).uz 8 (by decide) _).uz 9 (by decide) _).uf 7 (by decide) _).uf 8 (by decide) _).uf 9 (by decide) _)
        have hcg81 : (dn_66) + xg (va_up (va_up (va_up n 7 n1_69) 8 n2_73) 9 n3_77) ≤ xg n := by unfold xg; simp (decide := true) only [va_ev, ↓reduceIte]; omega
        have hcp81 : (dm_67) + xp (va_up (va_up (va_up n 7 n1_69) 8 n2_73) 9 n3_77) ≤ xp n := by unfold xp; simp (decide := true) only [va_ev, ↓reduceIte]; omega
        exact xk_vret (ov := (fun _ : (Nat → Nat) × (Nat → Nat) × (Nat → Int) × (Nat → Int → Int) × (Nat → Nat → Nat) × (Nat → Nat → Nat) × (Nat → Nat → Int) × (Nat → Nat → Int → Int) => none)) (post := (fun (u : (Nat → Nat) × (Nat → Nat) × (Nat → Int) × (Nat → Int → Int) × (Nat → Nat → Nat) × (Nat → Nat → Nat) × (Nat → Nat → Int) × (Nat → Nat → Int → Int)) (dn dm : Nat) => match u with | (r', n', z', F', Er', En', Ez', EF') => xR [7, 8, 9] [7, 8, 9] [] [] N z F En Ez EF n' z' F' En' Ez' EF' ∧ (dn + xg n' ≤ xg n + 0 ∧ dm + xp n' ≤ xp n + 0) ∧ n' 11 = n 11 ∧ ((lo_pl (F' 7) (F' 8) (z' 7).toNat 0) = (lo_pl (F 7) (F 8) (z 7).toNat 0) ++ lo_Wz p0 p1 p2 ∧ (z' 7 = z' 8 ∧ z' 8 = z' 9) ∧ Er = Er' ∧ En = En' ∧ Ez = Ez' ∧ EF = EF'))) (ws := (fun u : (Nat → Nat) × (Nat → Nat) × (Nat → Int) × (Nat → Int → Int) × (Nat → Nat → Nat) × (Nat → Nat → Nat) × (Nat → Nat → Int) × (Nat → Nat → Int → Int) => match u with | (r', n', z', F', Er', En', Ez', EF') => (xU cI cB cE o r' n' z' F' G (Eo 0 0) ++ eP cI N Eo Er' En' Ez' EF'))) (tys := xT cI cB cE) ((va_up (va_up (va_up r 7 r1_68) 8 r2_72) 9 r3_76), (va_up (va_up (va_up n 7 n1_69) 8 n2_73) 9 n3_77), (va_up (va_up (va_up z 7 z1_70) 8 z2_74) 9 z3_78), (va_up (va_up (va_up F 7 F1_71) 8 F2_75) 9 F3_79), Er, En, Ez, EF) hx hb hr hlocks rfl hP hD hK hS dX5_addLocators_26 (fun dn dm hdn hdm => ⟨⟨hok81, hfr81, hPE, hef⟩, ⟨by omega, by omega⟩, ⟨(show n 11 = n 11 by omega), ⟨(by show lo_pl (F1_71) (F2_75) (z1_70).toNat 0 = (lo_pl (F 7) (F 8) (z 7).toNat 0) ++ lo_Wz p0 p1 p2; first | (rw [hpl80, lo_Wz_1 (by omega), lo_W_p (by omega)]) | (rw [hpl80, lo_Wz_1 (by omega), lo_W_1 (by omega) (by omega)])), (show z1_70 = z2_74 ∧ z2_74 = z3_78 by omega), rfl, rfl, rfl, rfl⟩⟩⟩) (by omega) (by omega)
  · skip
    exact xk_vret (ov := (fun _ : (Nat → Nat) × (Nat → Nat) × (Nat → Int) × (Nat → Int → Int) × (Nat → Nat → Nat) × (Nat → Nat → Nat) × (Nat → Nat → Int) × (Nat → Nat → Int → Int) => none)) (post := (fun (u : (Nat → Nat) × (Nat → Nat) × (Nat → Int) × (Nat → Int → Int) × (Nat → Nat → Nat) × (Nat → Nat → Nat) × (Nat → Nat → Int) × (Nat → Nat → Int → Int)) (dn dm : Nat) => match u with | (r', n', z', F', Er', En', Ez', EF') => xR [7, 8, 9] [7, 8, 9] [] [] N z F En Ez EF n' z' F' En' Ez' EF' ∧ (dn + xg n' ≤ xg n + 0 ∧ dm + xp n' ≤ xp n + 0) ∧ n' 11 = n 11 ∧ ((lo_pl (F' 7) (F' 8) (z' 7).toNat 0) = (lo_pl (F 7) (F 8) (z 7).toNat 0) ++ lo_Wz p0 p1 p2 ∧ (z' 7 = z' 8 ∧ z' 8 = z' 9) ∧ Er = Er' ∧ En = En' ∧ Ez = Ez' ∧ EF = EF'))) (ws := (fun u : (Nat → Nat) × (Nat → Nat) × (Nat → Int) × (Nat → Int → Int) × (Nat → Nat → Nat) × (Nat → Nat → Nat) × (Nat → Nat → Int) × (Nat → Nat → Int → Int) => match u with | (r', n', z', F', Er', En', Ez', EF') => (xU cI cB cE o r' n' z' F' G (Eo 0 0) ++ eP cI N Eo Er' En' Ez' EF'))) (tys := xT cI cB cE) (r, n, z, F, Er, En, Ez, EF) hx hb hr hlocks rfl hP hD hK hS dX5_addLocators_4 (fun dn dm hdn hdm => ⟨⟨hok, hfr, hPE, hef⟩, ⟨by omega, by omega⟩, ⟨(show n 11 = n 11 by omega), ⟨(by show lo_pl (F 7) (F 8) (z 7).toNat 0 = (lo_pl (F 7) (F 8) (z 7).toNat 0) ++ lo_Wz p0 p1 p2; rw [lo_Wz_0 (by omega), List.append_nil]), (show z 7 = z 8 ∧ z 8 = z 9 by omega), rfl, rfl, rfl, rfl⟩⟩⟩) (by omega) (by omega)
set_option maxHeartbeats 4000000 in
set_option maxRecDepth 100000 in
theorem y_joinGathered7 (l : Launch) (dC : Nat → ClassId) (dI : Nat → Nat → Nat) (cI cB cE : ClassId) (o r n : Nat → Nat) (z : Nat → Int) (F : Nat → Int → Int) (G : Nat → Option Nat) (N : Nat) (Eo Er En : Nat → Nat → Nat) (Ez : Nat → Nat → Int) (EF : Nat → Nat → Int → Int) (sz : Nat) (hok : xOk n z F) (hxG : xG N (z 12) G Eo) (hPE : eA N En Ez EF) (hgz : z 4 = z 5 ∧ z 5 = z 6 ∧ z 4 ≤ 1580) (hvv : ∀ x, x ∈ (lo_ls (F 4) (F 5) (F 6) (z 4).toNat 0) → lo_v x) (hl0 : z 7 = 0 ∧ z 8 = 0 ∧ z 9 = 0) : Met l yX5_joinGathered [.code yX5_joinGathered cX5_joinGathered 5 none] ({ frames := 5, cells := 250, slots := 110000, locals := 149 }) (va_Pc [.ref (o 15)] (kx_Pre dC dI (xU cI cB cE o r n z F G (Eo 0 0) ++ eP cI N Eo Er En Ez EF) (xT cI cB cE) sz)) (xQ (fun _ : (Nat → Nat) × (Nat → Nat) × (Nat → Int) × (Nat → Int → Int) × (Nat → Nat → Nat) × (Nat → Nat → Nat) × (Nat → Nat → Int) × (Nat → Nat → Int → Int) => none) (fun (u : (Nat → Nat) × (Nat → Nat) × (Nat → Int) × (Nat → Int → Int) × (Nat → Nat → Nat) × (Nat → Nat → Nat) × (Nat → Nat → Int) × (Nat → Nat → Int → Int)) (dn dm : Nat) => match u with | (r', n', z', F', Er', En', Ez', EF') => xR [7, 8, 9] [7, 8, 9] [] [] N z F En Ez EF n' z' F' En' Ez' EF' ∧ (dn + xg n' ≤ xg n + 0 ∧ dm + xp n' ≤ xp n + 0) ∧ n' 11 = n 11 ∧ ((lo_pl (F' 7) (F' 8) (z' 7).toNat 0) = lo_L (lo_J (lo_ls (F 4) (F 5) (F 6) (z 4).toNat 0)) ∧ (z' 7 = z' 8 ∧ z' 8 = z' 9) ∧ Er = Er' ∧ En = En' ∧ Ez = Ez' ∧ EF = EF')) (fun u t => kx_At dC dI (va_A (xU cI cB cE o r n z F G (Eo 0 0) ++ eP cI N Eo Er En Ez EF) sz) ((fun u : (Nat → Nat) × (Nat → Nat) × (Nat → Int) × (Nat → Int → Int) × (Nat → Nat → Nat) × (Nat → Nat → Nat) × (Nat → Nat → Int) × (Nat → Nat → Int → Int) => match u with | (r', n', z', F', Er', En', Ez', EF') => (xU cI cB cE o r' n' z' F' G (Eo 0 0) ++ eP cI N Eo Er' En' Ez' EF')) u) (xT cI cB cE) t) (va_A (xU cI cB cE o r n z F G (Eo 0 0) ++ eP cI N Eo Er En Ez EF) sz)) 250 110000 (va_A (xU cI cB cE o r n z F G (Eo 0 0) ++ eP cI N Eo Er En Ez EF) sz) := by
  refine Met.ofW (cc := cX5_joinGathered) (maxL := 5) (ret := none) (by decide) rfl ?_
  intro p e s m args below meth c s₁ B hml hv
  obtain ⟨rfl, hsz, hP, hK, hD0, hG, hZ⟩ := hv
  have hx := B.exec
  have hb := B.bytes
  have hr := B.returns
  have hts := kx_hts (a := ([.ref (o 15)] : List Value).toArray) hG
  have hown : s.vm.findClass RX5 = some m.cls := findClass_of_methodNamed B.named
  have hlocks := B.notSynchronized
  subst hsz
  have hD := hD0.self (sz := s.heap.size)
  generalize hAe : va_A (xU cI cB cE o r n z F G (Eo 0 0) ++ eP cI N Eo Er En Ez EF) s.heap.size = A at hD hZ ⊢
  have hA : ∀ q : Nat, s.heap.size ≤ q → A q := fun q h => by rw [← hAe]; exact Or.inr h
  have hS : va_S A s.heap s.heap [] := va_S.rf
  have hl := lv_entry ([.ref (o 15)]) (n := 5) (Nat.le_of_ble_eq_true rfl)
  rw [lg_entry_eq]
  generalize (lg_sl ([.ref (o 15)]) ++ List.replicate (5 - (lg_sl ([.ref (o 15)])).length) Slot.unset).toArray = ls at hl ⊢
  obtain ⟨hN1, hN2, hN3, hN4⟩ := hxG
  have hef : eFr [] [] En Ez EF En Ez EF := eFr.rf
  have hfr : xFr [7, 8, 9] [7, 8, 9] z F z F := xFr.rf
  have hxgl := xg_le n
  have hxpl := xp_le n
  have hl : lv_has ls 5 [(0, .ref (o 15))] := hl
  generalize hQe : MQ below (xQ (fun _ : (Nat → Nat) × (Nat → Nat) × (Nat → Int) × (Nat → Int → Int) × (Nat → Nat → Nat) × (Nat → Nat → Nat) × (Nat → Nat → Int) × (Nat → Nat → Int → Int) => none) (fun (u : (Nat → Nat) × (Nat → Nat) × (Nat → Int) × (Nat → Int → Int) × (Nat → Nat → Nat) × (Nat → Nat → Nat) × (Nat → Nat → Int) × (Nat → Nat → Int → Int)) (dn dm : Nat) => match u with | (r', n', z', F', Er', En', Ez', EF') => xR [7, 8, 9] [7, 8, 9] [] [] N z F En Ez EF n' z' F' En' Ez' EF' ∧ (dn + xg n' ≤ xg n + 0 ∧ dm + xp n' ≤ xp n + 0) ∧ n' 11 = n 11 ∧ ((lo_pl (F' 7) (F' 8) (z' 7).toNat 0) = lo_L (lo_J (lo_ls (F 4) (F 5) (F 6) (z 4).toNat 0)) ∧ (z' 7 = z' 8 ∧ z' 8 = z' 9) ∧ Er = Er' ∧ En = En' ∧ Ez = Ez' ∧ EF = EF')) (fun u t => kx_At dC dI A ((fun u : (Nat → Nat) × (Nat → Nat) × (Nat → Int) × (Nat → Int → Int) × (Nat → Nat → Nat) × (Nat → Nat → Nat) × (Nat → Nat → Int) × (Nat → Nat → Int → Int) => match u with | (r', n', z', F', Er', En', Ez', EF') => (xU cI cB cE o r' n' z' F' G (Eo 0 0) ++ eP cI N Eo Er' En' Ez' EF')) u) (xT cI cB cE) t) A) ([.ref (o 15)] : List Value).toArray s 250 110000 A = QQ
  have hz4 : 0 ≤ z 4 ∧ z 4 ≤ (n 4 : Int) ∧ (n 4 : Int) ≤ 1600 := hok.1 4 (by decide)
  refine lv_iconst (v := iz 0) hx hb dX5_joinGathered_0 (by decide) ?_
  refine lv_istore_n (lv' := [(1, .int (iz 0)), (0, .ref (o 15))]) hx hb dX5_joinGathered_1 rfl hl (by decide) rfl (fun ls hl => ?_)
  refine lv_iconst (v := iz 0) hx hb dX5_joinGathered_2 (by decide) ?_
  refine lv_istore_n (lv' := [(2, .int (iz 0)), (1, .int (iz 0)), (0, .ref (o 15))]) hx hb dX5_joinGathered_3 rfl hl (by decide) rfl (fun ls hl => ?_)
  refine lv_iconst (v := iz 0) hx hb dX5_joinGathered_4 (by decide) ?_
  refine lv_istore_n (lv' := [(3, .int (iz 0)), (2, .int (iz 0)), (1, .int (iz 0)), (0, .ref (o 15))]) hx hb dX5_joinGathered_5 rfl hl (by decide) rfl (fun ls hl => ?_)
  refine lv_iconst (v := iz 0) hx hb dX5_joinGathered_6 (by decide) ?_
  refine lv_istore (lv' := [(4, .int (iz 0)), (3, .int (iz 0)), (2, .int (iz 0)), (1, .int (iz 0)), (0, .ref (o 15))]) hx hb dX5_joinGathered_7 hl (by decide) rfl (fun ls hl => ?_)
  have lp9 : ∀ (n0 : Nat) (fv : Int) (tv : Int) (bv : Int) (k : Int) (rL9 : Nat → Nat) (nL9 : Nat → Nat) (zL9 : Nat → Int) (FL9 : Nat → Int → Int) (cv : Nat) (sv : Nat), ((xR [7, 8, 9] [7, 8, 9] [] [] N z F En Ez EF nL9 zL9 FL9 En Ez EF) ∧ (cv + xg nL9 ≤ xg n + (0) ∧ sv + xp nL9 ≤ xp n + (0)) ∧ (zL9 12 = z 12) ∧ (nL9 11 = n 11) ∧ (0 ≤ fv ∧ fv < 300000) ∧ (0 ≤ tv ∧ tv < 300000) ∧ (bv = 0 ∨ bv = 1) ∧ (0 ≤ k ∧ k ≤ z 4) ∧ ((zL9 7 = zL9 8 ∧ zL9 8 = zL9 9)) ∧ (lo_I (F 4) (F 5) (F 6) (z 4) k fv tv bv (lo_pl (FL9 7) (FL9 8) (zL9 7).toNat 0))) → (z 4 - k).toNat < n0 → ∀ (H : Heap) (locs : List Loc), va_P (dC, dI) kxCl ((xU cI cB cE o rL9 nL9 zL9 FL9 G (Eo 0 0)) ++ (eP cI N Eo Er En Ez EF)) H → va_D A ((xU cI cB cE o rL9 nL9 zL9 FL9 G (Eo 0 0)) ++ (eP cI N Eo Er En Ez EF)) → va_S A s.heap H locs → ∀ ls : Array Slot, lv_has ls 5 [(4, .int (iz k)), (3, .int (iz bv)), (2, .int (iz tv)), (1, .int (iz fv)), (0, .ref (o 15))] → W p l e (headSpec [.code yX5_joinGathered cX5_joinGathered 5 none] ({ frames := 5, cells := 250, slots := 110000, locals := 149 })).room s m ([.ref (o 15)] : List Value).toArray below meth c H locs cv sv QQ (F0 m 9 ls []) := by
    intro n0
    induction n0 with
    | zero => intro fv tv bv k rL9 nL9 zL9 FL9 cv sv hinv hm0; exact absurd hm0 (Nat.not_lt_zero _)
    | succ n0 ih9 =>
      intro fv tv bv k rL9 nL9 zL9 FL9 cv sv hinv hm0 H locs hP hD hS ls hl
      obtain ⟨hRLL9, hCLL9, hZLL9, hn11L9, hfv, htv, hbv, hk, hlz9, hJ⟩ := hinv
      have hkzL9_4 : zL9 4 = z 4 := hRLL9.2.1.1 4 (by decide)
      have hkzL9_5 : zL9 5 = z 5 := hRLL9.2.1.1 5 (by decide)
      have hkzL9_6 : zL9 6 = z 6 := hRLL9.2.1.1 6 (by decide)
      have hF49 : FL9 4 = F 4 := hRLL9.2.1.2 4 (by decide)
      have hF59 : FL9 5 = F 5 := hRLL9.2.1.2 5 (by decide)
      have hF69 : FL9 6 = F 6 := hRLL9.2.1.2 6 (by decide)
      have hz79 : 0 ≤ zL9 7 ∧ zL9 7 ≤ (nL9 7 : Int) ∧ (nL9 7 : Int) ≤ 1600 := hRLL9.1.1 7 (by decide)
      refine lv_iload hx hb dX5_joinGathered_9 (lv_at hl 0 rfl) ?_
      refine lv_aload_n hx hb dX5_joinGathered_11 rfl (lv_at hl 4 rfl) ?_
      refine va_get (D := (dC, dI)) (ci := 5) (v := .ref (o 13)) (C := RX5) (T := TX5) (N := 16) hx hb hts kt_X5 hown hK hP 0 rfl rfl 8 (by decide) (kx_word hG kq_19_xouts_2 rfl) (fun _ h9 => h9) rfl dX5_joinGathered_12 ?_
      have hxi_1 : 0 ≤ zL9 4 ∧ zL9 4 ≤ ((nL9 4 : Nat) : Int) ∧ ((nL9 4 : Nat) : Int) ≤ 1600 := hRLL9.1.1 4 (by decide)
      have hxi_2 : 0 ≤ zL9 5 ∧ zL9 5 ≤ ((nL9 5 : Nat) : Int) ∧ ((nL9 5 : Nat) : Int) ≤ 1600 := hRLL9.1.1 5 (by decide)
      have hxi_3 : 0 ≤ zL9 6 ∧ zL9 6 ≤ ((nL9 6 : Nat) : Int) ∧ ((nL9 6 : Nat) : Int) ≤ 1600 := hRLL9.1.1 6 (by decide)
      have hPc := hP.sub (ws' := (sU cI 1600 (o 13) (o 4) (o 5) (o 6) (rL9 4) (rL9 5) (rL9 6) (nL9 4) (nL9 5) (nL9 6) (zL9 4) (zL9 5) (zL9 6) (FL9 4) (FL9 5) (FL9 6))) [10, 11, 12, 13, 14, 15, 16] rfl
      refine xk_pure (va_runV (As := []) (rest := [.int (iz k)]) ⟨hx, hb, hml, hown, hts⟩ (x_ssize l dC dI cI cB cE 1600 (o 13) (o 4) (o 5) (o 6) (rL9 4) (rL9 5) (rL9 6) (nL9 4) (nL9 5) (nL9 6) (zL9 4) (zL9 5) (zL9 6) (FL9 4) (FL9 5) (FL9 6)  H.size ) (cwV 0 hts (kx_gV kq_19_xouts_3 kq_15_xspan_51 kq_15_xspan_52 kq_15_xspan_53 kq_15_xspan_54 rfl) rfl rfl rfl (by decide +kernel) ⟨Nat.le_of_ble_eq_true rfl, Nat.le_of_ble_eq_true rfl⟩) ⟨pPre_blind, va_recv hK hPc (ci := 3) (q0 := 0) rfl rfl, pPre_give hPc hK hG⟩ rfl rfl hl.1 rfl (lv_room (Nat.le_of_ble_eq_true rfl)) dX5_joinGathered_15 ⟨show cv + 0 ≤ 250 from (by omega), show sv + 0 ≤ 110000 from (by omega)⟩) hS (fun z_5 locs hq_4 hS => ?_)
      refine W.eq (g2 := F0 m 18 ls [.int (iz z_5), .int (iz k)]) rfl ?_
      try dsimp only at hq_4
      have hq_4 := hq_4.symm
      subst hq_4
      refine ki_icmp_ge (tgt := 123) hx hb dX5_joinGathered_18 (by decide) (by omega) (by omega) (by omega) (by omega) (fun c_6 => ?_) (fun c_6 => ?_)
      · skip
        refine lv_aload_n hx hb dX5_joinGathered_123 rfl (lv_at hl 4 rfl) ?_
        refine lv_iload_n hx hb dX5_joinGathered_124 rfl (lv_at hl 3 rfl) ?_
        refine lv_iload_n hx hb dX5_joinGathered_125 rfl (lv_at hl 2 rfl) ?_
        refine lv_iload_n hx hb dX5_joinGathered_126 rfl (lv_at hl 1 rfl) ?_
        have hxz_7 : -2147483648 ≤ zL9 12 ∧ zL9 12 < 2147483648 := hRLL9.1.2.2.2.1 12
        have hxG9 : xG N (zL9 12) G Eo := ⟨by omega, by omega, by omega, fun e9 h9 => hN4 e9 (by omega)⟩
        have hP : va_P (dC, dI) kxCl (xU cI cB cE o rL9 nL9 zL9 FL9 G (Eo 0 0) ++ eP cI N Eo Er En Ez EF) H := hP
        have hD : va_D A (xU cI cB cE o rL9 nL9 zL9 FL9 G (Eo 0 0) ++ eP cI N Eo Er En Ez EF) := hD
        have hFc := xw_free hD hS hA
        refine xk_call (va_runV (As := [.int (iz fv), .int (iz tv), .int (iz bv)]) (rest := []) ⟨hx, hb, hml, hown, hts⟩ (y_addLocators7 l dC dI cI cB cE o rL9 nL9 zL9 FL9 G N Eo Er En Ez EF fv tv bv H.size hRLL9.1 hxG9 hRLL9.2.2.1 (by omega) (by omega) (by omega) (show (zL9 7 = zL9 8 ∧ zL9 8 = zL9 9) ∧ zL9 7 ≤ 1598 by have q9 := lo_I_len hJ (by omega); rw [lo_pl_len] at q9; omega)) (cwV 3 hts (kx_gV kq_19_xouts_4 kq_19_xouts_5 kq_19_xouts_6 kq_18_xrows_4 kq_19_xouts_7 rfl) rfl rfl rfl (by decide +kernel) ⟨Nat.le_of_ble_eq_true rfl, Nat.le_of_ble_eq_true rfl⟩) ⟨kx_blind, va_recv hK hP (ci := 5) (q0 := 0) rfl rfl, kx_give (ws := []) (tys := []) hP hD hK hG hZ hS hFc⟩ rfl rfl hl.1 rfl (lv_room (Nat.le_of_ble_eq_true rfl)) dX5_joinGathered_127 ⟨show cv + 150 ≤ 250 from (by omega), show sv + 60000 ≤ 110000 from (by omega)⟩) hS (fun q _ h => hFc q h) hFc (fun u dn_10 dm_11 t H locs ht hvm hq_8 hB hk1 hS => ?_)
        obtain ⟨r_12, n_13, z_14, F_15, Er_16, En_17, Ez_18, EF_19⟩ := u
        obtain ⟨hP, hK1, hD1⟩ := hB
        rw [ht] at hP
        have hD := hD1.weaken (fun _ q _ h => hFc _ h)
        obtain ⟨hR20, hC20, hq_8⟩ := hq_8
        obtain ⟨hn1120, hq_8⟩ := hq_8
        have hn1120 : n_13 11 = nL9 11 := hn1120
        have hok20 := hR20.1
        have hfr20 := hRLL9.2.1.tr (hR20.2.1.mono (S' := [7, 8, 9]) (T' := [7, 8, 9]) (by decide) (by decide))
        have hPE20 := hR20.2.2.1
        have hef20 := hRLL9.2.2.2.tr (hR20.2.2.2.mono (S' := []) (T' := []) (by decide) (by decide))
        have hz20 : z_14 12 = (zL9 12) := hR20.2.1.1 12 (by decide)
        have hkz20_4 : z_14 4 = z 4 := hfr20.1 4 (by decide)
        have hkz20_5 : z_14 5 = z 5 := hfr20.1 5 (by decide)
        have hkz20_6 : z_14 6 = z 6 := hfr20.1 6 (by decide)
        refine W.eq (g2 := F0 m 130 ls []) rfl ?_
        try dsimp only at hq_8
        obtain ⟨hap21, haz21, hpp21⟩ := hq_8
        obtain ⟨rfl, rfl, rfl, rfl⟩ := hpp21
        have hIe21 := lo_I_end hJ (by omega) (show k = z 4 by omega)
        rw [← hap21] at hIe21
        rw [← hQe]
        exact xk_vret (ov := (fun _ : (Nat → Nat) × (Nat → Nat) × (Nat → Int) × (Nat → Int → Int) × (Nat → Nat → Nat) × (Nat → Nat → Nat) × (Nat → Nat → Int) × (Nat → Nat → Int → Int) => none)) (post := (fun (u : (Nat → Nat) × (Nat → Nat) × (Nat → Int) × (Nat → Int → Int) × (Nat → Nat → Nat) × (Nat → Nat → Nat) × (Nat → Nat → Int) × (Nat → Nat → Int → Int)) (dn dm : Nat) => match u with | (r', n', z', F', Er', En', Ez', EF') => xR [7, 8, 9] [7, 8, 9] [] [] N z F En Ez EF n' z' F' En' Ez' EF' ∧ (dn + xg n' ≤ xg n + 0 ∧ dm + xp n' ≤ xp n + 0) ∧ n' 11 = n 11 ∧ ((lo_pl (F' 7) (F' 8) (z' 7).toNat 0) = lo_L (lo_J (lo_ls (F 4) (F 5) (F 6) (z 4).toNat 0)) ∧ (z' 7 = z' 8 ∧ z' 8 = z' 9) ∧ Er = Er' ∧ En = En' ∧ Ez = Ez' ∧ EF = EF'))) (ws := (fun u : (Nat → Nat) × (Nat → Nat) × (Nat → Int) × (Nat → Int → Int) × (Nat → Nat → Nat) × (Nat → Nat → Nat) × (Nat → Nat → Int) × (Nat → Nat → Int → Int) => match u with | (r', n', z', F', Er', En', Ez', EF') => (xU cI cB cE o r' n' z' F' G (Eo 0 0) ++ eP cI N Eo Er' En' Ez' EF'))) (tys := xT cI cB cE) (r_12, n_13, z_14, F_15, Er, En, Ez, EF) hx hb hr hlocks rfl hP hD hK hS dX5_joinGathered_130 (fun dn dm hdn hdm => ⟨⟨hok20, hfr20, hPE20, hef20⟩, ⟨by omega, by omega⟩, ⟨(show n_13 11 = n 11 by omega), ⟨hIe21, (show z_14 7 = z_14 8 ∧ z_14 8 = z_14 9 by omega), rfl, rfl, rfl, rfl⟩⟩⟩) (by omega) (by omega)
      · skip
        have hvk := lo_vk hvv (show 0 ≤ k by omega) (show k < z 4 by omega)
        obtain ⟨hvk1, hvk2, hvk3, hvk4, hvk5, hvk6⟩ := id hvk
        replace hvk3 : 1 ≤ F 4 k % 100000 := hvk3
        replace hvk2 : F 4 k ≤ F 5 k := hvk2
        replace hvk4 : F 4 k / 100000 = F 5 k / 100000 := hvk4
        replace hvk1 : F 6 k = 1 ∨ (F 6 k = 0 ∧ F 4 k = F 5 k) := hvk1
        replace hvk5 : 0 ≤ F 4 k := hvk5
        replace hvk6 : F 4 k < 300000 := hvk6.1
        have hh6 : F 6 k = 0 ∨ F 6 k = 1 := by omega
        replace hvk1 := fun (_ : Unit) => hvk1
        have hg5 : 0 ≤ F 5 k ∧ F 5 k < 300000 := by omega
        refine lv_iload hx hb dX5_joinGathered_21 (lv_at hl 0 rfl) ?_
        refine ki_if_le (tgt := 80) hx hb dX5_joinGathered_23 (by decide) (by omega) (by omega) (fun c_22 => ?_) (fun c_22 => ?_)
        · skip
          refine lv_aload_n hx hb dX5_joinGathered_80 rfl (lv_at hl 4 rfl) ?_
          refine lv_iload_n hx hb dX5_joinGathered_81 rfl (lv_at hl 3 rfl) ?_
          refine lv_iload_n hx hb dX5_joinGathered_82 rfl (lv_at hl 2 rfl) ?_
          refine lv_iload_n hx hb dX5_joinGathered_83 rfl (lv_at hl 1 rfl) ?_
          have hxz_23 : -2147483648 ≤ zL9 12 ∧ zL9 12 < 2147483648 := hRLL9.1.2.2.2.1 12
          have hxG9 : xG N (zL9 12) G Eo := ⟨by omega, by omega, by omega, fun e9 h9 => hN4 e9 (by omega)⟩
          have hP : va_P (dC, dI) kxCl (xU cI cB cE o rL9 nL9 zL9 FL9 G (Eo 0 0) ++ eP cI N Eo Er En Ez EF) H := hP
          have hD : va_D A (xU cI cB cE o rL9 nL9 zL9 FL9 G (Eo 0 0) ++ eP cI N Eo Er En Ez EF) := hD
          have hFc := xw_free hD hS hA
          refine xk_call (va_runV (As := [.int (iz fv), .int (iz tv), .int (iz bv)]) (rest := []) ⟨hx, hb, hml, hown, hts⟩ (y_addLocators7 l dC dI cI cB cE o rL9 nL9 zL9 FL9 G N Eo Er En Ez EF fv tv bv H.size hRLL9.1 hxG9 hRLL9.2.2.1 (by omega) (by omega) (by omega) (show (zL9 7 = zL9 8 ∧ zL9 8 = zL9 9) ∧ zL9 7 ≤ 1598 by have q9 := lo_I_len hJ (by omega); rw [lo_pl_len] at q9; omega)) (cwV 3 hts (kx_gV kq_19_xouts_4 kq_19_xouts_5 kq_19_xouts_6 kq_18_xrows_4 kq_19_xouts_7 rfl) rfl rfl rfl (by decide +kernel) ⟨Nat.le_of_ble_eq_true rfl, Nat.le_of_ble_eq_true rfl⟩) ⟨kx_blind, va_recv hK hP (ci := 5) (q0 := 0) rfl rfl, kx_give (ws := []) (tys := []) hP hD hK hG hZ hS hFc⟩ rfl rfl hl.1 rfl (lv_room (Nat.le_of_ble_eq_true rfl)) dX5_joinGathered_84 ⟨show cv + 150 ≤ 250 from (by omega), show sv + 60000 ≤ 110000 from (by omega)⟩) hS (fun q _ h => hFc q h) hFc (fun u dn_26 dm_27 t H locs ht hvm hq_24 hB hk1 hS => ?_)
          obtain ⟨r_28, n_29, z_30, F_31, Er_32, En_33, Ez_34, EF_35⟩ := u
          obtain ⟨hP, hK1, hD1⟩ := hB
          rw [ht] at hP
          have hD := hD1.weaken (fun _ q _ h => hFc _ h)
          obtain ⟨hR36, hC36, hq_24⟩ := hq_24
          obtain ⟨hn1136, hq_24⟩ := hq_24
          have hn1136 : n_29 11 = nL9 11 := hn1136
          have hok36 := hR36.1
          have hfr36 := hRLL9.2.1.tr (hR36.2.1.mono (S' := [7, 8, 9]) (T' := [7, 8, 9]) (by decide) (by decide))
          have hPE36 := hR36.2.2.1
          have hef36 := hRLL9.2.2.2.tr (hR36.2.2.2.mono (S' := []) (T' := []) (by decide) (by decide))
          have hz36 : z_30 12 = (zL9 12) := hR36.2.1.1 12 (by decide)
          have hkz36_4 : z_30 4 = z 4 := hfr36.1 4 (by decide)
          have hkz36_5 : z_30 5 = z 5 := hfr36.1 5 (by decide)
          have hkz36_6 : z_30 6 = z 6 := hfr36.1 6 (by decide)
          refine W.eq (g2 := F0 m 87 ls []) rfl ?_
          try dsimp only at hq_24
          obtain ⟨hap37, haz37, hpp37⟩ := hq_24
          obtain ⟨rfl, rfl, rfl, rfl⟩ := hpp37
          have hIn37 := lo_I_out hJ (by omega) (by omega) (by first | exact Or.inl (by omega) | exact Or.inr (by omega)) hvk
          rw [← hap37] at hIn37
          refine lv_aload_n hx hb dX5_joinGathered_87 rfl (lv_at hl 4 rfl) ?_
          refine va_get (D := (dC, dI)) (ci := 5) (v := .ref (o 13)) (C := RX5) (T := TX5) (N := 16) hx hb hts kt_X5 hown hK hP 0 rfl rfl 8 (by decide) (kx_word hG kq_19_xouts_2 rfl) (fun _ h9 => h9) rfl dX5_joinGathered_88 ?_
          refine lv_iload hx hb dX5_joinGathered_91 (lv_at hl 0 rfl) ?_
          have hxi_38 : 0 ≤ z_30 4 ∧ z_30 4 ≤ ((n_29 4 : Nat) : Int) ∧ ((n_29 4 : Nat) : Int) ≤ 1600 := hok36.1 4 (by decide)
          have hxi_39 : 0 ≤ z_30 5 ∧ z_30 5 ≤ ((n_29 5 : Nat) : Int) ∧ ((n_29 5 : Nat) : Int) ≤ 1600 := hok36.1 5 (by decide)
          have hxi_40 : 0 ≤ z_30 6 ∧ z_30 6 ≤ ((n_29 6 : Nat) : Int) ∧ ((n_29 6 : Nat) : Int) ≤ 1600 := hok36.1 6 (by decide)
          have hPc := hP.sub (ws' := (sU cI 1600 (o 13) (o 4) (o 5) (o 6) (r_28 4) (r_28 5) (r_28 6) (n_29 4) (n_29 5) (n_29 6) (z_30 4) (z_30 5) (z_30 6) (F_31 4) (F_31 5) (F_31 6))) [10, 11, 12, 13, 14, 15, 16] rfl
          refine xk_pure (va_runV (As := [.int (iz k)]) (rest := []) ⟨hx, hb, hml, hown, hts⟩ (x_sfrom l dC dI cI cB cE 1600 (o 13) (o 4) (o 5) (o 6) (r_28 4) (r_28 5) (r_28 6) (n_29 4) (n_29 5) (n_29 6) (z_30 4) (z_30 5) (z_30 6) (F_31 4) (F_31 5) (F_31 6) k H.size (by omega) (hok36.2.2.1 4) (by omega) (hok36.2.2.1 5) (by omega) (hok36.2.2.1 6) (by omega) (by omega)) (cwV 1 hts (kx_gV kq_19_xouts_8 kq_15_xspan_56 kq_15_xspan_57 kq_15_xspan_53 kq_15_xspan_58 rfl) rfl rfl rfl (by decide +kernel) ⟨Nat.le_of_ble_eq_true rfl, Nat.le_of_ble_eq_true rfl⟩) ⟨pPre_blind, va_recv hK hPc (ci := 3) (q0 := 0) rfl rfl, pPre_give hPc hK hG⟩ rfl rfl hl.1 rfl (lv_room (Nat.le_of_ble_eq_true rfl)) dX5_joinGathered_93 ⟨show (cv + dn_26) + 0 ≤ 250 from (by omega), show (sv + dm_27) + 0 ≤ 110000 from (by omega)⟩) hS (fun z_42 locs hq_41 hS => ?_)
          refine W.eq (g2 := F0 m 96 ls [.int (iz z_42)]) rfl ?_
          try dsimp only at hq_41
          have e9 := congrFun (hfr36.2 4 (by decide)) k
          have eg_43 : z_42 = F 4 k := by omega
          subst eg_43
          refine W.eq (g2 := F0 m 96 ls [.int (iz (F 4 k))]) rfl ?_
          replace hq_41 := fun (_ : Unit) => hq_41
          refine lv_istore_n (lv' := [(1, .int (iz (F 4 k))), (4, .int (iz k)), (3, .int (iz bv)), (2, .int (iz tv)), (0, .ref (o 15))]) hx hb dX5_joinGathered_96 rfl hl (by decide) rfl (fun ls hl => ?_)
          refine lv_aload_n hx hb dX5_joinGathered_97 rfl (lv_at hl 4 rfl) ?_
          refine va_get (D := (dC, dI)) (ci := 5) (v := .ref (o 13)) (C := RX5) (T := TX5) (N := 16) hx hb hts kt_X5 hown hK hP 0 rfl rfl 8 (by decide) (kx_word hG kq_19_xouts_2 rfl) (fun _ h9 => h9) rfl dX5_joinGathered_98 ?_
          refine lv_iload hx hb dX5_joinGathered_101 (lv_at hl 1 rfl) ?_
          have hPc := hP.sub (ws' := (sU cI 1600 (o 13) (o 4) (o 5) (o 6) (r_28 4) (r_28 5) (r_28 6) (n_29 4) (n_29 5) (n_29 6) (z_30 4) (z_30 5) (z_30 6) (F_31 4) (F_31 5) (F_31 6))) [10, 11, 12, 13, 14, 15, 16] rfl
          refine xk_pure (va_runV (As := [.int (iz k)]) (rest := []) ⟨hx, hb, hml, hown, hts⟩ (x_sto l dC dI cI cB cE 1600 (o 13) (o 4) (o 5) (o 6) (r_28 4) (r_28 5) (r_28 6) (n_29 4) (n_29 5) (n_29 6) (z_30 4) (z_30 5) (z_30 6) (F_31 4) (F_31 5) (F_31 6) k H.size (by omega) (hok36.2.2.1 4) (by omega) (hok36.2.2.1 5) (by omega) (hok36.2.2.1 6) (by omega) (by omega)) (cwV 1 hts (kx_gV kq_19_xouts_9 kq_15_xspan_64 kq_15_xspan_65 kq_15_xspan_53 kq_15_xspan_66 rfl) rfl rfl rfl (by decide +kernel) ⟨Nat.le_of_ble_eq_true rfl, Nat.le_of_ble_eq_true rfl⟩) ⟨pPre_blind, va_recv hK hPc (ci := 3) (q0 := 0) rfl rfl, pPre_give hPc hK hG⟩ rfl rfl hl.1 rfl (lv_room (Nat.le_of_ble_eq_true rfl)) dX5_joinGathered_103 ⟨show (cv + dn_26) + 0 ≤ 250 from (by omega), show (sv + dm_27) + 0 ≤ 110000 from (by omega)⟩) hS (fun z_45 locs hq_44 hS => ?_)
          refine W.eq (g2 := F0 m 106 ls [.int (iz z_45)]) rfl ?_
          try dsimp only at hq_44
          have e9 := congrFun (hfr36.2 5 (by decide)) k
          have eg_46 : z_45 = F 5 k := by omega
          subst eg_46
          refine W.eq (g2 := F0 m 106 ls [.int (iz (F 5 k))]) rfl ?_
          replace hq_44 := fun (_ : Unit) => hq_44
          refine lv_istore_n (lv' := [(2, .int (iz (F 5 k))), (1, .int (iz (F 4 k))), (4, .int (iz k)), (3, .int (iz bv)), (0, .ref (o 15))]) hx hb dX5_joinGathered_106 rfl hl (by decide) rfl (fun ls hl => ?_)
          refine lv_aload_n hx hb dX5_joinGathered_107 rfl (lv_at hl 4 rfl) ?_
          refine va_get (D := (dC, dI)) (ci := 5) (v := .ref (o 13)) (C := RX5) (T := TX5) (N := 16) hx hb hts kt_X5 hown hK hP 0 rfl rfl 8 (by decide) (kx_word hG kq_19_xouts_2 rfl) (fun _ h9 => h9) rfl dX5_joinGathered_108 ?_
          refine lv_iload hx hb dX5_joinGathered_111 (lv_at hl 2 rfl) ?_
          have hPc := hP.sub (ws' := (sU cI 1600 (o 13) (o 4) (o 5) (o 6) (r_28 4) (r_28 5) (r_28 6) (n_29 4) (n_29 5) (n_29 6) (z_30 4) (z_30 5) (z_30 6) (F_31 4) (F_31 5) (F_31 6))) [10, 11, 12, 13, 14, 15, 16] rfl
          refine xk_pure (va_runV (As := [.int (iz k)]) (rest := []) ⟨hx, hb, hml, hown, hts⟩ (x_stold2 l dC dI cI cB cE 1600 (o 13) (o 4) (o 5) (o 6) (r_28 4) (r_28 5) (r_28 6) (n_29 4) (n_29 5) (n_29 6) (z_30 4) (z_30 5) (z_30 6) (F_31 4) (F_31 5) (F_31 6) k H.size (by omega) (hok36.2.2.1 4) (by omega) (hok36.2.2.1 5) (by omega) (hok36.2.2.1 6) (by omega) (by omega) (by omega)) (cwV 1 hts (kx_gV kq_19_xouts_10 kq_15_xspan_68 kq_15_xspan_69 kq_15_xspan_53 kq_15_xspan_70 rfl) rfl rfl rfl (by decide +kernel) ⟨Nat.le_of_ble_eq_true rfl, Nat.le_of_ble_eq_true rfl⟩) ⟨pPre_blind, va_recv hK hPc (ci := 3) (q0 := 0) rfl rfl, pPre_give hPc hK hG⟩ rfl rfl hl.1 rfl (lv_room (Nat.le_of_ble_eq_true rfl)) dX5_joinGathered_113 ⟨show (cv + dn_26) + 0 ≤ 250 from (by omega), show (sv + dm_27) + 0 ≤ 110000 from (by omega)⟩) hS (fun z_48 locs hq_47 hS => ?_)
          refine W.eq (g2 := F0 m 116 ls [.int (iz z_48)]) rfl ?_
          try dsimp only at hq_47
          have e9 := congrFun (hfr36.2 6 (by decide)) k
          have eg_49 : z_48 = F 6 k := by omega
          subst eg_49
          refine W.eq (g2 := F0 m 116 ls [.int (iz (F 6 k))]) rfl ?_
          replace hq_47 := fun (_ : Unit) => hq_47
          refine lv_istore_n (lv' := [(3, .int (iz (F 6 k))), (2, .int (iz (F 5 k))), (1, .int (iz (F 4 k))), (4, .int (iz k)), (0, .ref (o 15))]) hx hb dX5_joinGathered_116 rfl hl (by decide) rfl (fun ls hl => ?_)
          refine lv_iinc (v := iz (k + 1)) (lv' := [(4, .int (iz (k + 1))), (3, .int (iz (F 6 k))), (2, .int (iz (F 5 k))), (1, .int (iz (F 4 k))), (0, .ref (o 15))]) hx hb dX5_joinGathered_117 hl (k := 3) rfl (iz_add k 1) (by decide) rfl (fun ls hl => ?_)
          refine lv_goto (tgt := 9) hx hb dX5_joinGathered_120 (by decide) ?_
          exact ih9 (F 4 k) (F 5 k) (F 6 k) (k + 1) r_28 n_29 z_30 F_31 (cv + dn_26) (sv + dm_27) ⟨⟨hok36, hfr36, hPE36, hef36⟩, ⟨by omega, by omega⟩, (show z_30 12 = z 12 by omega), (show n_29 11 = n 11 by omega), by omega, by omega, by omega, by omega, (show z_30 7 = z_30 8 ∧ z_30 8 = z_30 9 by omega), hIn37⟩ (by omega) _ _ hP hD hS ls (lv_sub hl [0, 1, 2, 3, 4] rfl)
        · skip
          refine lv_aload_n hx hb dX5_joinGathered_26 rfl (lv_at hl 4 rfl) ?_
          refine va_get (D := (dC, dI)) (ci := 5) (v := .ref (o 13)) (C := RX5) (T := TX5) (N := 16) hx hb hts kt_X5 hown hK hP 0 rfl rfl 8 (by decide) (kx_word hG kq_19_xouts_2 rfl) (fun _ h9 => h9) rfl dX5_joinGathered_27 ?_
          refine lv_iload hx hb dX5_joinGathered_30 (lv_at hl 0 rfl) ?_
          have hPc := hP.sub (ws' := (sU cI 1600 (o 13) (o 4) (o 5) (o 6) (rL9 4) (rL9 5) (rL9 6) (nL9 4) (nL9 5) (nL9 6) (zL9 4) (zL9 5) (zL9 6) (FL9 4) (FL9 5) (FL9 6))) [10, 11, 12, 13, 14, 15, 16] rfl
          refine xk_pure (va_runV (As := [.int (iz k)]) (rest := []) ⟨hx, hb, hml, hown, hts⟩ (x_sfrom l dC dI cI cB cE 1600 (o 13) (o 4) (o 5) (o 6) (rL9 4) (rL9 5) (rL9 6) (nL9 4) (nL9 5) (nL9 6) (zL9 4) (zL9 5) (zL9 6) (FL9 4) (FL9 5) (FL9 6) k H.size (by omega) (hRLL9.1.2.2.1 4) (by omega) (hRLL9.1.2.2.1 5) (by omega) (hRLL9.1.2.2.1 6) (by omega) (by omega)) (cwV 1 hts (kx_gV kq_19_xouts_8 kq_15_xspan_56 kq_15_xspan_57 kq_15_xspan_53 kq_15_xspan_58 rfl) rfl rfl rfl (by decide +kernel) ⟨Nat.le_of_ble_eq_true rfl, Nat.le_of_ble_eq_true rfl⟩) ⟨pPre_blind, va_recv hK hPc (ci := 3) (q0 := 0) rfl rfl, pPre_give hPc hK hG⟩ rfl rfl hl.1 rfl (lv_room (Nat.le_of_ble_eq_true rfl)) dX5_joinGathered_32 ⟨show cv + 0 ≤ 250 from (by omega), show sv + 0 ≤ 110000 from (by omega)⟩) hS (fun z_51 locs hq_50 hS => ?_)
          refine W.eq (g2 := F0 m 35 ls [.int (iz z_51)]) rfl ?_
          try dsimp only at hq_50
          have e9 := congrFun (hRLL9.2.1.2 4 (by decide)) k
          have eg_52 : z_51 = F 4 k := by omega
          subst eg_52
          refine W.eq (g2 := F0 m 35 ls [.int (iz (F 4 k))]) rfl ?_
          replace hq_50 := fun (_ : Unit) => hq_50
          refine lv_iload_n hx hb dX5_joinGathered_35 rfl (lv_at hl 2 rfl) ?_
          refine lv_iconst (v := iz 1) hx hb dX5_joinGathered_36 (by decide) ?_
          refine ki_iadd hx hb dX5_joinGathered_37 ?_
          refine ki_icmp_gt (tgt := 80) hx hb dX5_joinGathered_38 (by decide) (by omega) (by omega) (by omega) (by omega) (fun c_53 => ?_) (fun c_53 => ?_)
          · skip
            refine lv_aload_n hx hb dX5_joinGathered_80 rfl (lv_at hl 4 rfl) ?_
            refine lv_iload_n hx hb dX5_joinGathered_81 rfl (lv_at hl 3 rfl) ?_
            refine lv_iload_n hx hb dX5_joinGathered_82 rfl (lv_at hl 2 rfl) ?_
            refine lv_iload_n hx hb dX5_joinGathered_83 rfl (lv_at hl 1 rfl) ?_
            have hxz_54 : -2147483648 ≤ zL9 12 ∧ zL9 12 < 2147483648 := hRLL9.1.2.2.2.1 12
            have hxG9 : xG N (zL9 12) G Eo := ⟨by omega, by omega, by omega, fun e9 h9 => hN4 e9 (by omega)⟩
            have hP : va_P (dC, dI) kxCl (xU cI cB cE o rL9 nL9 zL9 FL9 G (Eo 0 0) ++ eP cI N Eo Er En Ez EF) H := hP
            have hD : va_D A (xU cI cB cE o rL9 nL9 zL9 FL9 G (Eo 0 0) ++ eP cI N Eo Er En Ez EF) := hD
            have hFc := xw_free hD hS hA
            refine xk_call (va_runV (As := [.int (iz fv), .int (iz tv), .int (iz bv)]) (rest := []) ⟨hx, hb, hml, hown, hts⟩ (y_addLocators7 l dC dI cI cB cE o rL9 nL9 zL9 FL9 G N Eo Er En Ez EF fv tv bv H.size hRLL9.1 hxG9 hRLL9.2.2.1 (by omega) (by omega) (by omega) (show (zL9 7 = zL9 8 ∧ zL9 8 = zL9 9) ∧ zL9 7 ≤ 1598 by have q9 := lo_I_len hJ (by omega); rw [lo_pl_len] at q9; omega)) (cwV 3 hts (kx_gV kq_19_xouts_4 kq_19_xouts_5 kq_19_xouts_6 kq_18_xrows_4 kq_19_xouts_7 rfl) rfl rfl rfl (by decide +kernel) ⟨Nat.le_of_ble_eq_true rfl, Nat.le_of_ble_eq_true rfl⟩) ⟨kx_blind, va_recv hK hP (ci := 5) (q0 := 0) rfl rfl, kx_give (ws := []) (tys := []) hP hD hK hG hZ hS hFc⟩ rfl rfl hl.1 rfl (lv_room (Nat.le_of_ble_eq_true rfl)) dX5_joinGathered_84 ⟨show cv + 150 ≤ 250 from (by omega), show sv + 60000 ≤ 110000 from (by omega)⟩) hS (fun q _ h => hFc q h) hFc (fun u dn_57 dm_58 t H locs ht hvm hq_55 hB hk1 hS => ?_)
            obtain ⟨r_59, n_60, z_61, F_62, Er_63, En_64, Ez_65, EF_66⟩ := u
            obtain ⟨hP, hK1, hD1⟩ := hB
            rw [ht] at hP
            have hD := hD1.weaken (fun _ q _ h => hFc _ h)
            obtain ⟨hR67, hC67, hq_55⟩ := hq_55
            obtain ⟨hn1167, hq_55⟩ := hq_55
            have hn1167 : n_60 11 = nL9 11 := hn1167
            have hok67 := hR67.1
            have hfr67 := hRLL9.2.1.tr (hR67.2.1.mono (S' := [7, 8, 9]) (T' := [7, 8, 9]) (by decide) (by decide))
            have hPE67 := hR67.2.2.1
            have hef67 := hRLL9.2.2.2.tr (hR67.2.2.2.mono (S' := []) (T' := []) (by decide) (by decide))
            have hz67 : z_61 12 = (zL9 12) := hR67.2.1.1 12 (by decide)
            have hkz67_4 : z_61 4 = z 4 := hfr67.1 4 (by decide)
            have hkz67_5 : z_61 5 = z 5 := hfr67.1 5 (by decide)
            have hkz67_6 : z_61 6 = z 6 := hfr67.1 6 (by decide)
            refine W.eq (g2 := F0 m 87 ls []) rfl ?_
            try dsimp only at hq_55
            obtain ⟨hap68, haz68, hpp68⟩ := hq_55
            obtain ⟨rfl, rfl, rfl, rfl⟩ := hpp68
            have hIn68 := lo_I_out hJ (by omega) (by omega) (by first | exact Or.inl (by omega) | exact Or.inr (by omega)) hvk
            rw [← hap68] at hIn68
            refine lv_aload_n hx hb dX5_joinGathered_87 rfl (lv_at hl 4 rfl) ?_
            refine va_get (D := (dC, dI)) (ci := 5) (v := .ref (o 13)) (C := RX5) (T := TX5) (N := 16) hx hb hts kt_X5 hown hK hP 0 rfl rfl 8 (by decide) (kx_word hG kq_19_xouts_2 rfl) (fun _ h9 => h9) rfl dX5_joinGathered_88 ?_
            refine lv_iload hx hb dX5_joinGathered_91 (lv_at hl 0 rfl) ?_
            have hxi_69 : 0 ≤ z_61 4 ∧ z_61 4 ≤ ((n_60 4 : Nat) : Int) ∧ ((n_60 4 : Nat) : Int) ≤ 1600 := hok67.1 4 (by decide)
            have hxi_70 : 0 ≤ z_61 5 ∧ z_61 5 ≤ ((n_60 5 : Nat) : Int) ∧ ((n_60 5 : Nat) : Int) ≤ 1600 := hok67.1 5 (by decide)
            have hxi_71 : 0 ≤ z_61 6 ∧ z_61 6 ≤ ((n_60 6 : Nat) : Int) ∧ ((n_60 6 : Nat) : Int) ≤ 1600 := hok67.1 6 (by decide)
            have hPc := hP.sub (ws' := (sU cI 1600 (o 13) (o 4) (o 5) (o 6) (r_59 4) (r_59 5) (r_59 6) (n_60 4) (n_60 5) (n_60 6) (z_61 4) (z_61 5) (z_61 6) (F_62 4) (F_62 5) (F_62 6))) [10, 11, 12, 13, 14, 15, 16] rfl
            refine xk_pure (va_runV (As := [.int (iz k)]) (rest := []) ⟨hx, hb, hml, hown, hts⟩ (x_sfrom l dC dI cI cB cE 1600 (o 13) (o 4) (o 5) (o 6) (r_59 4) (r_59 5) (r_59 6) (n_60 4) (n_60 5) (n_60 6) (z_61 4) (z_61 5) (z_61 6) (F_62 4) (F_62 5) (F_62 6) k H.size (by omega) (hok67.2.2.1 4) (by omega) (hok67.2.2.1 5) (by omega) (hok67.2.2.1 6) (by omega) (by omega)) (cwV 1 hts (kx_gV kq_19_xouts_8 kq_15_xspan_56 kq_15_xspan_57 kq_15_xspan_53 kq_15_xspan_58 rfl) rfl rfl rfl (by decide +kernel) ⟨Nat.le_of_ble_eq_true rfl, Nat.le_of_ble_eq_true rfl⟩) ⟨pPre_blind, va_recv hK hPc (ci := 3) (q0 := 0) rfl rfl, pPre_give hPc hK hG⟩ rfl rfl hl.1 rfl (lv_room (Nat.le_of_ble_eq_true rfl)) dX5_joinGathered_93 ⟨show (cv + dn_57) + 0 ≤ 250 from (by omega), show (sv + dm_58) + 0 ≤ 110000 from (by omega)⟩) hS (fun z_73 locs hq_72 hS => ?_)
            refine W.eq (g2 := F0 m 96 ls [.int (iz z_73)]) rfl ?_
            try dsimp only at hq_72
            have e9 := congrFun (hfr67.2 4 (by decide)) k
            have eg_74 : z_73 = F 4 k := by omega
            subst eg_74
            refine W.eq (g2 := F0 m 96 ls [.int (iz (F 4 k))]) rfl ?_
            replace hq_72 := fun (_ : Unit) => hq_72
            refine lv_istore_n (lv' := [(1, .int (iz (F 4 k))), (4, .int (iz k)), (3, .int (iz bv)), (2, .int (iz tv)), (0, .ref (o 15))]) hx hb dX5_joinGathered_96 rfl hl (by decide) rfl (fun ls hl => ?_)
            refine lv_aload_n hx hb dX5_joinGathered_97 rfl (lv_at hl 4 rfl) ?_
            refine va_get (D := (dC, dI)) (ci := 5) (v := .ref (o 13)) (C := RX5) (T := TX5) (N := 16) hx hb hts kt_X5 hown hK hP 0 rfl rfl 8 (by decide) (kx_word hG kq_19_xouts_2 rfl) (fun _ h9 => h9) rfl dX5_joinGathered_98 ?_
            refine lv_iload hx hb dX5_joinGathered_101 (lv_at hl 1 rfl) ?_
            have hPc := hP.sub (ws' := (sU cI 1600 (o 13) (o 4) (o 5) (o 6) (r_59 4) (r_59 5) (r_59 6) (n_60 4) (n_60 5) (n_60 6) (z_61 4) (z_61 5) (z_61 6) (F_62 4) (F_62 5) (F_62 6))) [10, 11, 12, 13, 14, 15, 16] rfl
            refine xk_pure (va_runV (As := [.int (iz k)]) (rest := []) ⟨hx, hb, hml, hown, hts⟩ (x_sto l dC dI cI cB cE 1600 (o 13) (o 4) (o 5) (o 6) (r_59 4) (r_59 5) (r_59 6) (n_60 4) (n_60 5) (n_60 6) (z_61 4) (z_61 5) (z_61 6) (F_62 4) (F_62 5) (F_62 6) k H.size (by omega) (hok67.2.2.1 4) (by omega) (hok67.2.2.1 5) (by omega) (hok67.2.2.1 6) (by omega) (by omega)) (cwV 1 hts (kx_gV kq_19_xouts_9 kq_15_xspan_64 kq_15_xspan_65 kq_15_xspan_53 kq_15_xspan_66 rfl) rfl rfl rfl (by decide +kernel) ⟨Nat.le_of_ble_eq_true rfl, Nat.le_of_ble_eq_true rfl⟩) ⟨pPre_blind, va_recv hK hPc (ci := 3) (q0 := 0) rfl rfl, pPre_give hPc hK hG⟩ rfl rfl hl.1 rfl (lv_room (Nat.le_of_ble_eq_true rfl)) dX5_joinGathered_103 ⟨show (cv + dn_57) + 0 ≤ 250 from (by omega), show (sv + dm_58) + 0 ≤ 110000 from (by omega)⟩) hS (fun z_76 locs hq_75 hS => ?_)
            refine W.eq (g2 := F0 m 106 ls [.int (iz z_76)]) rfl ?_
            try dsimp only at hq_75
            have e9 := congrFun (hfr67.2 5 (by decide)) k
            have eg_77 : z_76 = F 5 k := by omega
            subst eg_77
            refine W.eq (g2 := F0 m 106 ls [.int (iz (F 5 k))]) rfl ?_
            replace hq_75 := fun (_ : Unit) => hq_75
            refine lv_istore_n (lv' := [(2, .int (iz (F 5 k))), (1, .int (iz (F 4 k))), (4, .int (iz k)), (3, .int (iz bv)), (0, .ref (o 15))]) hx hb dX5_joinGathered_106 rfl hl (by decide) rfl (fun ls hl => ?_)
            refine lv_aload_n hx hb dX5_joinGathered_107 rfl (lv_at hl 4 rfl) ?_
            refine va_get (D := (dC, dI)) (ci := 5) (v := .ref (o 13)) (C := RX5) (T := TX5) (N := 16) hx hb hts kt_X5 hown hK hP 0 rfl rfl 8 (by decide) (kx_word hG kq_19_xouts_2 rfl) (fun _ h9 => h9) rfl dX5_joinGathered_108 ?_
            refine lv_iload hx hb dX5_joinGathered_111 (lv_at hl 2 rfl) ?_
            have hPc := hP.sub (ws' := (sU cI 1600 (o 13) (o 4) (o 5) (o 6) (r_59 4) (r_59 5) (r_59 6) (n_60 4) (n_60 5) (n_60 6) (z_61 4) (z_61 5) (z_61 6) (F_62 4) (F_62 5) (F_62 6))) [10, 11, 12, 13, 14, 15, 16] rfl
            refine xk_pure (va_runV (As := [.int (iz k)]) (rest := []) ⟨hx, hb, hml, hown, hts⟩ (x_stold2 l dC dI cI cB cE 1600 (o 13) (o 4) (o 5) (o 6) (r_59 4) (r_59 5) (r_59 6) (n_60 4) (n_60 5) (n_60 6) (z_61 4) (z_61 5) (z_61 6) (F_62 4) (F_62 5) (F_62 6) k H.size (by omega) (hok67.2.2.1 4) (by omega) (hok67.2.2.1 5) (by omega) (hok67.2.2.1 6) (by omega) (by omega) (by omega)) (cwV 1 hts (kx_gV kq_19_xouts_10 kq_15_xspan_68 kq_15_xspan_69 kq_15_xspan_53 kq_15_xspan_70 rfl) rfl rfl rfl (by decide +kernel) ⟨Nat.le_of_ble_eq_true rfl, Nat.le_of_ble_eq_true rfl⟩) ⟨pPre_blind, va_recv hK hPc (ci := 3) (q0 := 0) rfl rfl, pPre_give hPc hK hG⟩ rfl rfl hl.1 rfl (lv_room (Nat.le_of_ble_eq_true rfl)) dX5_joinGathered_113 ⟨show (cv + dn_57) + 0 ≤ 250 from (by omega), show (sv + dm_58) + 0 ≤ 110000 from (by omega)⟩) hS (fun z_79 locs hq_78 hS => ?_)
            refine W.eq (g2 := F0 m 116 ls [.int (iz z_79)]) rfl ?_
            try dsimp only at hq_78
            have e9 := congrFun (hfr67.2 6 (by decide)) k
            have eg_80 : z_79 = F 6 k := by omega
            subst eg_80
            refine W.eq (g2 := F0 m 116 ls [.int (iz (F 6 k))]) rfl ?_
            replace hq_78 := fun (_ : Unit) => hq_78
            refine lv_istore_n (lv' := [(3, .int (iz (F 6 k))), (2, .int (iz (F 5 k))), (1, .int (iz (F 4 k))), (4, .int (iz k)), (0, .ref (o 15))]) hx hb dX5_joinGathered_116 rfl hl (by decide) rfl (fun ls hl => ?_)
            refine lv_iinc (v := iz (k + 1)) (lv' := [(4, .int (iz (k + 1))), (3, .int (iz (F 6 k))), (2, .int (iz (F 5 k))), (1, .int (iz (F 4 k))), (0, .ref (o 15))]) hx hb dX5_joinGathered_117 hl (k := 3) rfl (iz_add k 1) (by decide) rfl (fun ls hl => ?_)
            refine lv_goto (tgt := 9) hx hb dX5_joinGathered_120 (by decide) ?_
            exact ih9 (F 4 k) (F 5 k) (F 6 k) (k + 1) r_59 n_60 z_61 F_62 (cv + dn_57) (sv + dm_58) ⟨⟨hok67, hfr67, hPE67, hef67⟩, ⟨by omega, by omega⟩, (show z_61 12 = z 12 by omega), (show n_60 11 = n 11 by omega), by omega, by omega, by omega, by omega, (show z_61 7 = z_61 8 ∧ z_61 8 = z_61 9 by omega), hIn68⟩ (by omega) _ _ hP hD hS ls (lv_sub hl [0, 1, 2, 3, 4] rfl)
          · skip
            refine lv_iload_n hx hb dX5_joinGathered_41 rfl (lv_at hl 2 rfl) ?_
            refine lv_aload_n hx hb dX5_joinGathered_42 rfl (lv_at hl 4 rfl) ?_
            refine va_get (D := (dC, dI)) (ci := 5) (v := .ref (o 13)) (C := RX5) (T := TX5) (N := 16) hx hb hts kt_X5 hown hK hP 0 rfl rfl 8 (by decide) (kx_word hG kq_19_xouts_2 rfl) (fun _ h9 => h9) rfl dX5_joinGathered_43 ?_
            refine lv_iload hx hb dX5_joinGathered_46 (lv_at hl 0 rfl) ?_
            have hPc := hP.sub (ws' := (sU cI 1600 (o 13) (o 4) (o 5) (o 6) (rL9 4) (rL9 5) (rL9 6) (nL9 4) (nL9 5) (nL9 6) (zL9 4) (zL9 5) (zL9 6) (FL9 4) (FL9 5) (FL9 6))) [10, 11, 12, 13, 14, 15, 16] rfl
            refine xk_pure (va_runV (As := [.int (iz k)]) (rest := [.int (iz tv)]) ⟨hx, hb, hml, hown, hts⟩ (x_sto l dC dI cI cB cE 1600 (o 13) (o 4) (o 5) (o 6) (rL9 4) (rL9 5) (rL9 6) (nL9 4) (nL9 5) (nL9 6) (zL9 4) (zL9 5) (zL9 6) (FL9 4) (FL9 5) (FL9 6) k H.size (by omega) (hRLL9.1.2.2.1 4) (by omega) (hRLL9.1.2.2.1 5) (by omega) (hRLL9.1.2.2.1 6) (by omega) (by omega)) (cwV 1 hts (kx_gV kq_19_xouts_9 kq_15_xspan_64 kq_15_xspan_65 kq_15_xspan_53 kq_15_xspan_66 rfl) rfl rfl rfl (by decide +kernel) ⟨Nat.le_of_ble_eq_true rfl, Nat.le_of_ble_eq_true rfl⟩) ⟨pPre_blind, va_recv hK hPc (ci := 3) (q0 := 0) rfl rfl, pPre_give hPc hK hG⟩ rfl rfl hl.1 rfl (lv_room (Nat.le_of_ble_eq_true rfl)) dX5_joinGathered_48 ⟨show cv + 0 ≤ 250 from (by omega), show sv + 0 ≤ 110000 from (by omega)⟩) hS (fun z_82 locs hq_81 hS => ?_)
            refine W.eq (g2 := F0 m 51 ls [.int (iz z_82), .int (iz tv)]) rfl ?_
            try dsimp only at hq_81
            have e9 := congrFun (hRLL9.2.1.2 5 (by decide)) k
            have eg_83 : z_82 = F 5 k := by omega
            subst eg_83
            refine W.eq (g2 := F0 m 51 ls [.int (iz (F 5 k)), .int (iz tv)]) rfl ?_
            replace hq_81 := fun (_ : Unit) => hq_81
            refine va_mmax hx hb (by rw [hml]; exact hl.1.symm) hown (kx_word hG kq_19_xouts_11 rfl) (kx_word hG kq_19_xouts_12 rfl) (kx_word hG kq_14_xadd_3 rfl) (kx_word hG kq_19_xouts_13 rfl) (Nat.le_of_ble_eq_true rfl) (Nat.le_of_ble_eq_true rfl) (show cv ≤ 250 from (by omega)) (show sv ≤ 110000 from (by omega)) dX5_joinGathered_51 ?_
            refine ki_is (z := max tv (F 5 k)) (iz_max (by omega) (by omega) (by omega) (by omega)) ?_
            obtain ⟨z_84, ez_84⟩ : ∃ x : Int, x = max tv (F 5 k) := ⟨_, rfl⟩
            rw [← ez_84]
            refine lv_istore_n (lv' := [(2, .int (iz z_84)), (4, .int (iz k)), (3, .int (iz bv)), (1, .int (iz fv)), (0, .ref (o 15))]) hx hb dX5_joinGathered_54 rfl hl (by decide) rfl (fun ls hl => ?_)
            refine lv_iload_n hx hb dX5_joinGathered_55 rfl (lv_at hl 2 rfl) ?_
            refine ki_if_ne (tgt := 71) hx hb dX5_joinGathered_56 (by decide) (by omega) (by omega) (fun c_85 => ?_) (fun c_85 => ?_)
            · skip
              refine lv_iconst (v := iz 1) hx hb dX5_joinGathered_71 (by decide) ?_
              refine lv_goto (tgt := 76) hx hb dX5_joinGathered_72 (by decide) ?_
              refine lv_istore_n (lv' := [(3, .int (iz 1)), (2, .int (iz z_84)), (4, .int (iz k)), (1, .int (iz fv)), (0, .ref (o 15))]) hx hb dX5_joinGathered_76 rfl hl (by decide) rfl (fun ls hl => ?_)
              refine lv_goto (tgt := 117) hx hb dX5_joinGathered_77 (by decide) ?_
              refine lv_iinc (v := iz (k + 1)) (lv' := [(4, .int (iz (k + 1))), (3, .int (iz 1)), (2, .int (iz z_84)), (1, .int (iz fv)), (0, .ref (o 15))]) hx hb dX5_joinGathered_117 hl (k := 2) rfl (iz_add k 1) (by decide) rfl (fun ls hl => ?_)
              refine lv_goto (tgt := 9) hx hb dX5_joinGathered_120 (by decide) ?_
              exact ih9 fv z_84 1 (k + 1) rL9 nL9 zL9 FL9 cv sv ⟨⟨hRLL9.1, hRLL9.2.1, hRLL9.2.2.1, hRLL9.2.2.2⟩, ⟨by omega, by omega⟩, (show zL9 12 = z 12 by omega), (show nL9 11 = n 11 by omega), by omega, by omega, by omega, by omega, hlz9, (by have q9 := lo_I_in hJ (by omega) (by omega) (show F 4 k ≤ tv + 1 by omega); rw [show lo_mx tv (F 5 k) = z_84 by unfold lo_mx; split <;> omega, show lo_or bv (F 6 k) = 1 by unfold lo_or; (first | exact if_pos (by omega) | exact if_neg (by omega))] at q9; exact q9)⟩ (by omega) _ _ hP hD hS ls (lv_sub hl [0, 1, 2, 3, 4] rfl)
            · skip
              refine lv_aload_n hx hb dX5_joinGathered_59 rfl (lv_at hl 4 rfl) ?_
              refine va_get (D := (dC, dI)) (ci := 5) (v := .ref (o 13)) (C := RX5) (T := TX5) (N := 16) hx hb hts kt_X5 hown hK hP 0 rfl rfl 8 (by decide) (kx_word hG kq_19_xouts_2 rfl) (fun _ h9 => h9) rfl dX5_joinGathered_60 ?_
              refine lv_iload hx hb dX5_joinGathered_63 (lv_at hl 1 rfl) ?_
              have hPc := hP.sub (ws' := (sU cI 1600 (o 13) (o 4) (o 5) (o 6) (rL9 4) (rL9 5) (rL9 6) (nL9 4) (nL9 5) (nL9 6) (zL9 4) (zL9 5) (zL9 6) (FL9 4) (FL9 5) (FL9 6))) [10, 11, 12, 13, 14, 15, 16] rfl
              refine xk_pure (va_runV (As := [.int (iz k)]) (rest := []) ⟨hx, hb, hml, hown, hts⟩ (x_stold2 l dC dI cI cB cE 1600 (o 13) (o 4) (o 5) (o 6) (rL9 4) (rL9 5) (rL9 6) (nL9 4) (nL9 5) (nL9 6) (zL9 4) (zL9 5) (zL9 6) (FL9 4) (FL9 5) (FL9 6) k H.size (by omega) (hRLL9.1.2.2.1 4) (by omega) (hRLL9.1.2.2.1 5) (by omega) (hRLL9.1.2.2.1 6) (by omega) (by omega) (by omega)) (cwV 1 hts (kx_gV kq_19_xouts_10 kq_15_xspan_68 kq_15_xspan_69 kq_15_xspan_53 kq_15_xspan_70 rfl) rfl rfl rfl (by decide +kernel) ⟨Nat.le_of_ble_eq_true rfl, Nat.le_of_ble_eq_true rfl⟩) ⟨pPre_blind, va_recv hK hPc (ci := 3) (q0 := 0) rfl rfl, pPre_give hPc hK hG⟩ rfl rfl hl.1 rfl (lv_room (Nat.le_of_ble_eq_true rfl)) dX5_joinGathered_65 ⟨show cv + 0 ≤ 250 from (by omega), show sv + 0 ≤ 110000 from (by omega)⟩) hS (fun z_87 locs hq_86 hS => ?_)
              refine W.eq (g2 := F0 m 68 ls [.int (iz z_87)]) rfl ?_
              try dsimp only at hq_86
              have e9 := congrFun hF69 k
              refine ki_if_eq (tgt := 75) hx hb dX5_joinGathered_68 (by decide) (by omega) (by omega) (fun c_88 => ?_) (fun c_88 => ?_)
              · skip
                refine lv_iconst (v := iz 0) hx hb dX5_joinGathered_75 (by decide) ?_
                refine lv_istore_n (lv' := [(3, .int (iz 0)), (2, .int (iz z_84)), (4, .int (iz k)), (1, .int (iz fv)), (0, .ref (o 15))]) hx hb dX5_joinGathered_76 rfl hl (by decide) rfl (fun ls hl => ?_)
                refine lv_goto (tgt := 117) hx hb dX5_joinGathered_77 (by decide) ?_
                refine lv_iinc (v := iz (k + 1)) (lv' := [(4, .int (iz (k + 1))), (3, .int (iz 0)), (2, .int (iz z_84)), (1, .int (iz fv)), (0, .ref (o 15))]) hx hb dX5_joinGathered_117 hl (k := 2) rfl (iz_add k 1) (by decide) rfl (fun ls hl => ?_)
                refine lv_goto (tgt := 9) hx hb dX5_joinGathered_120 (by decide) ?_
                exact ih9 fv z_84 0 (k + 1) rL9 nL9 zL9 FL9 cv sv ⟨⟨hRLL9.1, hRLL9.2.1, hRLL9.2.2.1, hRLL9.2.2.2⟩, ⟨by omega, by omega⟩, (show zL9 12 = z 12 by omega), (show nL9 11 = n 11 by omega), by omega, by omega, by omega, by omega, hlz9, (by have q9 := lo_I_in hJ (by omega) (by omega) (show F 4 k ≤ tv + 1 by omega); rw [show lo_mx tv (F 5 k) = z_84 by unfold lo_mx; split <;> omega, show lo_or bv (F 6 k) = 0 by unfold lo_or; (first | exact if_pos (by omega) | exact if_neg (by omega))] at q9; exact q9)⟩ (by omega) _ _ hP hD hS ls (lv_sub hl [0, 1, 2, 3, 4] rfl)
              · skip
                refine lv_iconst (v := iz 1) hx hb dX5_joinGathered_71 (by decide) ?_
                refine lv_goto (tgt := 76) hx hb dX5_joinGathered_72 (by decide) ?_
                refine lv_istore_n (lv' := [(3, .int (iz 1)), (2, .int (iz z_84)), (4, .int (iz k)), (1, .int (iz fv)), (0, .ref (o 15))]) hx hb dX5_joinGathered_76 rfl hl (by decide) rfl (fun ls hl => ?_)
                refine lv_goto (tgt := 117) hx hb dX5_joinGathered_77 (by decide) ?_
                refine lv_iinc (v := iz (k + 1)) (lv' := [(4, .int (iz (k + 1))), (3, .int (iz 1)), (2, .int (iz z_84)), (1, .int (iz fv)), (0, .ref (o 15))]) hx hb dX5_joinGathered_117 hl (k := 2) rfl (iz_add k 1) (by decide) rfl (fun ls hl => ?_)
                refine lv_goto (tgt := 9) hx hb dX5_joinGathered_120 (by decide) ?_
                exact ih9 fv z_84 1 (k + 1) rL9 nL9 zL9 FL9 cv sv ⟨⟨hRLL9.1, hRLL9.2.1, hRLL9.2.2.1, hRLL9.2.2.2⟩, ⟨by omega, by omega⟩, (show zL9 12 = z 12 by omega), (show nL9 11 = n 11 by omega), by omega, by omega, by omega, by omega, hlz9, (by have q9 := lo_I_in hJ (by omega) (by omega) (show F 4 k ≤ tv + 1 by omega); rw [show lo_mx tv (F 5 k) = z_84 by unfold lo_mx; split <;> omega, show lo_or bv (F 6 k) = 1 by unfold lo_or; (first | exact if_pos (by omega) | exact if_neg (by omega))] at q9; exact q9)⟩ (by omega) _ _ hP hD hS ls (lv_sub hl [0, 1, 2, 3, 4] rfl)
  exact lp9 _ 0 0 0 0 r n z F 0 0 ⟨⟨hok, hfr, hPE, hef⟩, ⟨by omega, by omega⟩, (show z 12 = z 12 by omega), (show n 11 = n 11 by omega), by omega, by omega, by omega, by omega, by omega, (by show lo_I (F 4) (F 5) (F 6) (z 4) 0 0 0 0 (lo_pl (F 7) (F 8) (z 7).toNat 0); rw [hl0.1]; exact lo_I_0 _ _ _ _ _ _)⟩ (Nat.lt_succ_self _) _ _ hP hD hS ls (lv_sub hl [0, 1, 2, 3, 4] rfl)
set_option maxHeartbeats 4000000 in
set_option maxRecDepth 100000 in
theorem y_findLocators7 (l : Launch) (dC : Nat → ClassId) (dI : Nat → Nat → Nat) (cI cB cE : ClassId) (o r n : Nat → Nat) (z : Nat → Int) (F : Nat → Int → Int) (G : Nat → Option Nat) (N : Nat) (Eo Er En : Nat → Nat → Nat) (Ez : Nat → Nat → Int) (EF : Nat → Nat → Int → Int) (p0 : Int) (sz : Nat) (hok : xOk n z F) (hxG : xG N (z 12) G Eo) (hPE : eA N En Ez EF) (hp0 : 0 ≤ p0 ∧ p0 < z 12) (hs : ∀ e, 0 ≤ e → e < z 12 → 0 ≤ rs_sE Ez e ∧ rs_sE Ez e ≤ e) (h79 : z 12 ≤ 78) (lH : lo_H (z 12) Ez EF) (hca : (z 16 = -1 ∨ ((z 7 = z 8 ∧ z 8 = z 9) ∧ lo_Q (z 12) (rs_sE Ez) Ez EF (z 16) (lo_pl (F 7) (F 8) (z 7).toNat 0)))) : Met l yX5_findLocators [.code yX5_findLocators cX5_findLocators 3 none] ({ frames := 6, cells := 400, slots := 170000, locals := 173 }) (va_Pc [.ref (o 15), .int (iz p0)] (kx_Pre dC dI (xU cI cB cE o r n z F G (Eo 0 0) ++ eP cI N Eo Er En Ez EF) (xT cI cB cE) sz)) (xQ (fun _ : (Nat → Nat) × (Nat → Nat) × (Nat → Int) × (Nat → Int → Int) × (Nat → Nat → Nat) × (Nat → Nat → Nat) × (Nat → Nat → Int) × (Nat → Nat → Int → Int) => none) (fun (u : (Nat → Nat) × (Nat → Nat) × (Nat → Int) × (Nat → Int → Int) × (Nat → Nat → Nat) × (Nat → Nat → Nat) × (Nat → Nat → Int) × (Nat → Nat → Int → Int)) (dn dm : Nat) => match u with | (r', n', z', F', Er', En', Ez', EF') => xR [4, 5, 6, 7, 8, 9, 16] [4, 5, 6, 7, 8, 9] [] [] N z F En Ez EF n' z' F' En' Ez' EF' ∧ (dn + xg n' ≤ xg n + 0 ∧ dm + xp n' ≤ xp n + 0) ∧ n' 11 = n 11 ∧ (z' 16 = p0 ∧ (z' 7 = z' 8 ∧ z' 8 = z' 9) ∧ lo_Q (z 12) (rs_sE Ez) Ez EF p0 (lo_pl (F' 7) (F' 8) (z' 7).toNat 0) ∧ Er = Er' ∧ En = En' ∧ Ez = Ez' ∧ EF = EF')) (fun u t => kx_At dC dI (va_A (xU cI cB cE o r n z F G (Eo 0 0) ++ eP cI N Eo Er En Ez EF) sz) ((fun u : (Nat → Nat) × (Nat → Nat) × (Nat → Int) × (Nat → Int → Int) × (Nat → Nat → Nat) × (Nat → Nat → Nat) × (Nat → Nat → Int) × (Nat → Nat → Int → Int) => match u with | (r', n', z', F', Er', En', Ez', EF') => (xU cI cB cE o r' n' z' F' G (Eo 0 0) ++ eP cI N Eo Er' En' Ez' EF')) u) (xT cI cB cE) t) (va_A (xU cI cB cE o r n z F G (Eo 0 0) ++ eP cI N Eo Er En Ez EF) sz)) 400 170000 (va_A (xU cI cB cE o r n z F G (Eo 0 0) ++ eP cI N Eo Er En Ez EF) sz) := by
  refine Met.ofW (cc := cX5_findLocators) (maxL := 3) (ret := none) (by decide) rfl ?_
  intro p e s m args below meth c s₁ B hml hv
  obtain ⟨rfl, hsz, hP, hK, hD0, hG, hZ⟩ := hv
  have hx := B.exec
  have hb := B.bytes
  have hr := B.returns
  have hts := kx_hts (a := ([.ref (o 15), .int (iz p0)] : List Value).toArray) hG
  have hown : s.vm.findClass RX5 = some m.cls := findClass_of_methodNamed B.named
  have hlocks := B.notSynchronized
  subst hsz
  have hD := hD0.self (sz := s.heap.size)
  generalize hAe : va_A (xU cI cB cE o r n z F G (Eo 0 0) ++ eP cI N Eo Er En Ez EF) s.heap.size = A at hD hZ ⊢
  have hA : ∀ q : Nat, s.heap.size ≤ q → A q := fun q h => by rw [← hAe]; exact Or.inr h
  have hS : va_S A s.heap s.heap [] := va_S.rf
  have hl := lv_entry ([.ref (o 15), .int (iz p0)]) (n := 3) (Nat.le_of_ble_eq_true rfl)
  rw [lg_entry_eq]
  generalize (lg_sl ([.ref (o 15), .int (iz p0)]) ++ List.replicate (3 - (lg_sl ([.ref (o 15), .int (iz p0)])).length) Slot.unset).toArray = ls at hl ⊢
  obtain ⟨hN1, hN2, hN3, hN4⟩ := hxG
  have hef : eFr [] [] En Ez EF En Ez EF := eFr.rf
  have hfr : xFr [4, 5, 6, 7, 8, 9, 16] [4, 5, 6, 7, 8, 9] z F z F := xFr.rf
  have hxgl := xg_le n
  have hxpl := xp_le n
  have hl : lv_has ls 3 [(0, .ref (o 15)), (1, .int (iz p0))] := hl
  generalize hQe : MQ below (xQ (fun _ : (Nat → Nat) × (Nat → Nat) × (Nat → Int) × (Nat → Int → Int) × (Nat → Nat → Nat) × (Nat → Nat → Nat) × (Nat → Nat → Int) × (Nat → Nat → Int → Int) => none) (fun (u : (Nat → Nat) × (Nat → Nat) × (Nat → Int) × (Nat → Int → Int) × (Nat → Nat → Nat) × (Nat → Nat → Nat) × (Nat → Nat → Int) × (Nat → Nat → Int → Int)) (dn dm : Nat) => match u with | (r', n', z', F', Er', En', Ez', EF') => xR [4, 5, 6, 7, 8, 9, 16] [4, 5, 6, 7, 8, 9] [] [] N z F En Ez EF n' z' F' En' Ez' EF' ∧ (dn + xg n' ≤ xg n + 0 ∧ dm + xp n' ≤ xp n + 0) ∧ n' 11 = n 11 ∧ (z' 16 = p0 ∧ (z' 7 = z' 8 ∧ z' 8 = z' 9) ∧ lo_Q (z 12) (rs_sE Ez) Ez EF p0 (lo_pl (F' 7) (F' 8) (z' 7).toNat 0) ∧ Er = Er' ∧ En = En' ∧ Ez = Ez' ∧ EF = EF')) (fun u t => kx_At dC dI A ((fun u : (Nat → Nat) × (Nat → Nat) × (Nat → Int) × (Nat → Int → Int) × (Nat → Nat → Nat) × (Nat → Nat → Nat) × (Nat → Nat → Int) × (Nat → Nat → Int → Int) => match u with | (r', n', z', F', Er', En', Ez', EF') => (xU cI cB cE o r' n' z' F' G (Eo 0 0) ++ eP cI N Eo Er' En' Ez' EF')) u) (xT cI cB cE) t) A) ([.ref (o 15), .int (iz p0)] : List Value).toArray s 400 170000 A = QQ
  refine lv_aload_n hx hb dX5_findLocators_0 rfl (lv_at hl 0 rfl) ?_
  have hxz_1 : -2147483648 ≤ z 16 ∧ z 16 < 2147483648 := hok.2.2.2.1 16
  refine va_get (D := (dC, dI)) (ci := 5) (v := .int (iz (z 16))) (C := RX5) (T := TX5) (N := 16) hx hb hts kt_X5 hown hK hP 0 rfl rfl 10 (by decide) (kx_word hG kq_18_xrows_26 rfl) (fun _ h9 => h9) rfl dX5_findLocators_1 ?_
  refine lv_iload_n hx hb dX5_findLocators_4 rfl (lv_at hl 1 rfl) ?_
  refine ki_icmp_ne (tgt := 9) hx hb dX5_findLocators_5 (by decide) (by omega) (by omega) (by omega) (by omega) (fun c_2 => ?_) (fun c_2 => ?_)
  · skip
    refine lv_aload_n hx hb dX5_findLocators_9 rfl (lv_at hl 0 rfl) ?_
    refine va_get (D := (dC, dI)) (ci := 5) (v := .ref (o 13)) (C := RX5) (T := TX5) (N := 16) hx hb hts kt_X5 hown hK hP 0 rfl rfl 8 (by decide) (kx_word hG kq_19_xouts_2 rfl) (fun _ h9 => h9) rfl dX5_findLocators_10 ?_
    have hxi_3 : 0 ≤ z 4 ∧ z 4 ≤ ((n 4 : Nat) : Int) ∧ ((n 4 : Nat) : Int) ≤ 1600 := hok.1 4 (by decide)
    have hxi_4 : 0 ≤ z 5 ∧ z 5 ≤ ((n 5 : Nat) : Int) ∧ ((n 5 : Nat) : Int) ≤ 1600 := hok.1 5 (by decide)
    have hxi_5 : 0 ≤ z 6 ∧ z 6 ≤ ((n 6 : Nat) : Int) ∧ ((n 6 : Nat) : Int) ≤ 1600 := hok.1 6 (by decide)
    have hPc := hP.sub (ws' := (sU cI 1600 (o 13) (o 4) (o 5) (o 6) (r 4) (r 5) (r 6) (n 4) (n 5) (n 6) (z 4) (z 5) (z 6) (F 4) (F 5) (F 6))) [10, 11, 12, 13, 14, 15, 16] rfl
    have hDc := hD.sub (ws' := (sU cI 1600 (o 13) (o 4) (o 5) (o 6) (r 4) (r 5) (r 6) (n 4) (n 5) (n 6) (z 4) (z 5) (z 6) (F 4) (F 5) (F 6))) [10, 11, 12, 13, 14, 15, 16] (by decide) rfl
    have hFc := va_free (wc := (sU cI 1600 (o 13) (o 4) (o 5) (o 6) (r 4) (r 5) (r 6) (n 4) (n 5) (n 6) (z 4) (z 5) (z 6) (F 4) (F 5) (F 6))) hD hS hA [10, 11, 12, 13, 14, 15, 16] rfl
    refine xk_call (va_runV (As := []) (rest := []) ⟨hx, hb, hml, hown, hts⟩ (x_sclear l dC dI cI cB cE 1600 (o 13) (o 4) (o 5) (o 6) (r 4) (r 5) (r 6) (n 4) (n 5) (n 6) (z 4) (z 5) (z 6) (F 4) (F 5) (F 6)  s.heap.size ) (cwV 0 hts (kx_gV kq_19_xouts_14 kq_19_xouts_15 kq_19_xouts_16 kq_15_xspan_53 kq_19_xouts_17 rfl) rfl rfl rfl (by decide +kernel) ⟨Nat.le_of_ble_eq_true rfl, Nat.le_of_ble_eq_true rfl⟩) ⟨kx_blind, va_recv hK hPc (ci := 3) (q0 := 0) rfl rfl, kx_give (ws := []) (tys := []) hPc hDc hK hG hZ hS hFc⟩ rfl rfl hl.1 rfl (lv_room (Nat.le_of_ble_eq_true rfl)) dX5_findLocators_13 ⟨show 0 + 0 ≤ 400 from (by omega), show 0 + 0 ≤ 170000 from (by omega)⟩) hS (fun q _ h => hFc q h) hFc (fun u dn_7 dm_8 t H locs ht hvm hq_6 hB hk1 hS => ?_)
    obtain ⟨z1_9, z2_10, z3_11⟩ := u
    obtain ⟨hP1, hK1, hD1⟩ := hB
    rw [ht] at hP1
    obtain ⟨hP, hD⟩ := xj_pool (wr := [(o 15, .inr (5, [.ref (o 16), .ref (Eo 0 0), .int (iz (z 12)), .int (iz (z 13)), .int (iz (z 14)), .ref (o 0), .ref (o 1), .int (iz (z 15)), .ref (o 13), .ref (o 14), .int (iz (z 16)), .ref (o 2), .ref (o 12), .ref (o 3), .ref (o 10), .ref (o 11)])), (o 16, .inl (cE, 80, .inr (.inr (.inr (.inr G))))), (o 0, .inr (1, [.int (iz 80), .ref (r 0), .int (iz (z 0))])), (r 0, .inl (cI, n 0, .inl (iA (F 0)))), (o 1, .inr (1, [.int (iz 80), .ref (r 1), .int (iz (z 1))])), (r 1, .inl (cI, n 1, .inl (iA (F 1)))), (o 2, .inr (1, [.int (iz 80), .ref (r 2), .int (iz (z 2))])), (r 2, .inl (cI, n 2, .inl (iA (F 2)))), (o 3, .inr (1, [.int (iz 80), .ref (r 3), .int (iz (z 3))])), (r 3, .inl (cI, n 3, .inl (iA (F 3)))), (o 14, .inr (3, [.ref (o 7), .ref (o 8), .ref (o 9)])), (o 7, .inr (1, [.int (iz 1600), .ref (r 7), .int (iz (z 7))])), (r 7, .inl (cI, n 7, .inl (iA (F 7)))), (o 8, .inr (1, [.int (iz 1600), .ref (r 8), .int (iz (z 8))])), (r 8, .inl (cI, n 8, .inl (iA (F 8)))), (o 9, .inr (1, [.int (iz 1600), .ref (r 9), .int (iz (z 9))])), (r 9, .inl (cI, n 9, .inl (iA (F 9)))), (o 12, .inr (4, [.int (iz (z 17)), .int (iz (z 18)), .int (iz (z 19)), .int (iz (z 20)), .int (iz (z 21))])), (o 10, .inr (2, [.ref (r 10), .int (iz (z 10)), .int (iz (z 22))])), (r 10, .inl (cB, n 10, .inl (iA (F 10)))), (o 11, .inr (2, [.ref (r 11), .int (iz (z 11)), .int (iz (z 23))])), (r 11, .inl (cB, n 11, .inl (iA (F 11))))]) (w1 := (sU cI 1600 (o 13) (o 4) (o 5) (o 6) (r 4) (r 5) (r 6) (n 4) (n 5) (n 6) z1_9 z2_10 z3_11 (F 4) (F 5) (F 6))) (ws' := (xU cI cB cE o r n (va_up (va_up (va_up z 4 z1_9) 5 z2_10) 6 z3_11) F G (Eo 0 0))) hP hD [10, 11, 12, 13, 14, 15, 16] [0, 1, 2, 3, 4, 5, 6, 7, 8, 9, 17, 18, 19, 20, 21, 22, 23, 24, 25, 26, 27, 28] [0, 1, 2, 3, 4, 5, 6, 7, 8, 9, 22, 23, 24, 25, 26, 27, 28, 10, 11, 12, 13, 14, 15, 16, 17, 18, 19, 20, 21] rfl rfl (by decide) (by decide) hk1 hFc hP1 hD1 rfl (by decide)
    refine W.eq (g2 := F0 m 16 ls []) rfl ?_
    try dsimp only at hq_6
    obtain ⟨hd12, hm12, hx12, hy12, hz12⟩ := hq_6
    subst hd12
    subst hm12
    refine lv_iconst (v := iz 0) hx hb dX5_findLocators_16 (by decide) ?_
    refine lv_istore_n (lv' := [(2, .int (iz 0)), (0, .ref (o 15)), (1, .int (iz p0))]) hx hb dX5_findLocators_17 rfl hl (by decide) rfl (fun ls hl => ?_)
    have hok13 : xOk (va_up (va_up (va_up n 4 (n 4)) 5 (n 5)) 6 (n 6)) (va_up (va_up (va_up z 4 z1_9) 5 z2_10) 6 z3_11) (va_up (va_up (va_up F 4 (F 4)) 5 (F 5)) 6 (F 6)) := (((hok.i 4 (by decide) (show 0 ≤ z1_9 ∧ z1_9 ≤ ((n 4 : Nat) : Int) ∧ ((n 4 : Nat) : Int) ≤ 1600 by omega) (hok.2.2.1 4)).i 5 (by decide) (show 0 ≤ z2_10 ∧ z2_10 ≤ ((n 5 : Nat) : Int) ∧ ((n 5 : Nat) : Int) ≤ 1600 by omega) (hok.2.2.1 5)).i 6 (by decide) (show 0 ≤ z3_11 ∧ z3_11 ≤ ((n 6 : Nat) : Int) ∧ ((n 6 : Nat) : Int) ≤ 1600 by omega) (hok.2.2.1 6))
    have hfr13 : xFr [4, 5, 6, 7, 8, 9, 16] [4, 5, 6, 7, 8, 9] z F (va_up (va_up (va_up z 4 z1_9) 5 z2_10) 6 z3_11) (va_up (va_up (va_up F 4 (F 4)) 5 (F 5)) 6 (F 6)) := ((((((hfr.uz 4 (by decide) _).uz 5 (by decide) _).uz 6 (by decide) _).uf 4 (by decide) _).uf 5 (by decide) _).uf 6 (by decide) _)
    have hcg13 : (0) + xg (va_up (va_up (va_up n 4 (n 4)) 5 (n 5)) 6 (n 6)) ≤ xg n := by unfold xg; simp (decide := true) only [va_ev, ↓reduceIte]; omega
    have hcp13 : (0) + xp (va_up (va_up (va_up n 4 (n 4)) 5 (n 5)) 6 (n 6)) ≤ xp n := by unfold xp; simp (decide := true) only [va_ev, ↓reduceIte]; omega
    have lp18 : ∀ (n0 : Nat) (k : Int) (rL18 : Nat → Nat) (nL18 : Nat → Nat) (zL18 : Nat → Int) (FL18 : Nat → Int → Int) (cv : Nat) (sv : Nat), ((xR [4, 5, 6, 7, 8, 9, 16] [4, 5, 6, 7, 8, 9] [] [] N z F En Ez EF nL18 zL18 FL18 En Ez EF) ∧ (cv + xg nL18 ≤ xg n + (0) ∧ sv + xp nL18 ≤ xp n + (0)) ∧ (zL18 12 = z 12) ∧ (nL18 11 = n 11) ∧ (0 ≤ k ∧ k ≤ 79 ∧ k ≤ z 12) ∧ (zL18 4 = zL18 5 ∧ zL18 5 = zL18 6 ∧ zL18 4 ≤ 20 * k) ∧ (lo_S (lo_row (rs_sE Ez) (lo_P Ez EF) p0 k.toNat) (lo_ls (FL18 4) (FL18 5) (FL18 6) (zL18 4).toNat 0))) → (z 12 - k).toNat < n0 → ∀ (H : Heap) (locs : List Loc), va_P (dC, dI) kxCl ((xU cI cB cE o rL18 nL18 zL18 FL18 G (Eo 0 0)) ++ (eP cI N Eo Er En Ez EF)) H → va_D A ((xU cI cB cE o rL18 nL18 zL18 FL18 G (Eo 0 0)) ++ (eP cI N Eo Er En Ez EF)) → va_S A s.heap H locs → ∀ ls : Array Slot, lv_has ls 3 [(2, .int (iz k)), (0, .ref (o 15)), (1, .int (iz p0))] → W p l e (headSpec [.code yX5_findLocators cX5_findLocators 3 none] ({ frames := 6, cells := 400, slots := 170000, locals := 173 })).room s m ([.ref (o 15), .int (iz p0)] : List Value).toArray below meth c H locs cv sv QQ (F0 m 18 ls []) := by
      intro n0
      induction n0 with
      | zero => intro k rL18 nL18 zL18 FL18 cv sv hinv hm0; exact absurd hm0 (Nat.not_lt_zero _)
      | succ n0 ih18 =>
        intro k rL18 nL18 zL18 FL18 cv sv hinv hm0 H locs hP hD hS ls hl
        obtain ⟨hRLL18, hCLL18, hZLL18, hn11L18, hk, hgz9, hGg⟩ := hinv
        refine lv_iload_n hx hb dX5_findLocators_18 rfl (lv_at hl 0 rfl) ?_
        refine lv_aload_n hx hb dX5_findLocators_19 rfl (lv_at hl 1 rfl) ?_
        have hxz_14 : -2147483648 ≤ zL18 12 ∧ zL18 12 < 2147483648 := hRLL18.1.2.2.2.1 12
        refine va_get (D := (dC, dI)) (ci := 5) (v := .int (iz (zL18 12))) (C := RX5) (T := TX5) (N := 16) hx hb hts kt_X5 hown hK hP 0 rfl rfl 2 (by decide) (kx_word hG kq_18_xrows_0 rfl) (fun _ h9 => h9) rfl dX5_findLocators_20 ?_
        refine ki_icmp_ge (tgt := 56) hx hb dX5_findLocators_23 (by decide) (by omega) (by omega) (by omega) (by omega) (fun c_15 => ?_) (fun c_15 => ?_)
        · skip
          refine lv_aload_n hx hb dX5_findLocators_56 rfl (lv_at hl 1 rfl) ?_
          refine va_get (D := (dC, dI)) (ci := 5) (v := .ref (o 14)) (C := RX5) (T := TX5) (N := 16) hx hb hts kt_X5 hown hK hP 0 rfl rfl 9 (by decide) (kx_word hG kq_19_xouts_0 rfl) (fun _ h9 => h9) rfl dX5_findLocators_57 ?_
          have hxi_16 : 0 ≤ zL18 7 ∧ zL18 7 ≤ ((nL18 7 : Nat) : Int) ∧ ((nL18 7 : Nat) : Int) ≤ 1600 := hRLL18.1.1 7 (by decide)
          have hxi_17 : 0 ≤ zL18 8 ∧ zL18 8 ≤ ((nL18 8 : Nat) : Int) ∧ ((nL18 8 : Nat) : Int) ≤ 1600 := hRLL18.1.1 8 (by decide)
          have hxi_18 : 0 ≤ zL18 9 ∧ zL18 9 ≤ ((nL18 9 : Nat) : Int) ∧ ((nL18 9 : Nat) : Int) ≤ 1600 := hRLL18.1.1 9 (by decide)
          have hPc := hP.sub (ws' := (sU cI 1600 (o 14) (o 7) (o 8) (o 9) (rL18 7) (rL18 8) (rL18 9) (nL18 7) (nL18 8) (nL18 9) (zL18 7) (zL18 8) (zL18 9) (FL18 7) (FL18 8) (FL18 9))) [17, 18, 19, 20, 21, 22, 23] rfl
          have hDc := hD.sub (ws' := (sU cI 1600 (o 14) (o 7) (o 8) (o 9) (rL18 7) (rL18 8) (rL18 9) (nL18 7) (nL18 8) (nL18 9) (zL18 7) (zL18 8) (zL18 9) (FL18 7) (FL18 8) (FL18 9))) [17, 18, 19, 20, 21, 22, 23] (by decide) rfl
          have hFc := va_free (wc := (sU cI 1600 (o 14) (o 7) (o 8) (o 9) (rL18 7) (rL18 8) (rL18 9) (nL18 7) (nL18 8) (nL18 9) (zL18 7) (zL18 8) (zL18 9) (FL18 7) (FL18 8) (FL18 9))) hD hS hA [17, 18, 19, 20, 21, 22, 23] rfl
          refine xk_call (va_runV (As := []) (rest := []) ⟨hx, hb, hml, hown, hts⟩ (x_sclear l dC dI cI cB cE 1600 (o 14) (o 7) (o 8) (o 9) (rL18 7) (rL18 8) (rL18 9) (nL18 7) (nL18 8) (nL18 9) (zL18 7) (zL18 8) (zL18 9) (FL18 7) (FL18 8) (FL18 9)  H.size ) (cwV 0 hts (kx_gV kq_19_xouts_14 kq_19_xouts_15 kq_19_xouts_16 kq_15_xspan_53 kq_19_xouts_17 rfl) rfl rfl rfl (by decide +kernel) ⟨Nat.le_of_ble_eq_true rfl, Nat.le_of_ble_eq_true rfl⟩) ⟨kx_blind, va_recv hK hPc (ci := 3) (q0 := 0) rfl rfl, kx_give (ws := []) (tys := []) hPc hDc hK hG hZ hS hFc⟩ rfl rfl hl.1 rfl (lv_room (Nat.le_of_ble_eq_true rfl)) dX5_findLocators_60 ⟨show cv + 0 ≤ 400 from (by omega), show sv + 0 ≤ 170000 from (by omega)⟩) hS (fun q _ h => hFc q h) hFc (fun u dn_20 dm_21 t H locs ht hvm hq_19 hB hk1 hS => ?_)
          obtain ⟨z1_22, z2_23, z3_24⟩ := u
          obtain ⟨hP1, hK1, hD1⟩ := hB
          rw [ht] at hP1
          obtain ⟨hP, hD⟩ := xj_pool (wr := [(o 15, .inr (5, [.ref (o 16), .ref (Eo 0 0), .int (iz (zL18 12)), .int (iz (zL18 13)), .int (iz (zL18 14)), .ref (o 0), .ref (o 1), .int (iz (zL18 15)), .ref (o 13), .ref (o 14), .int (iz (zL18 16)), .ref (o 2), .ref (o 12), .ref (o 3), .ref (o 10), .ref (o 11)])), (o 16, .inl (cE, 80, .inr (.inr (.inr (.inr G))))), (o 0, .inr (1, [.int (iz 80), .ref (rL18 0), .int (iz (zL18 0))])), (rL18 0, .inl (cI, nL18 0, .inl (iA (FL18 0)))), (o 1, .inr (1, [.int (iz 80), .ref (rL18 1), .int (iz (zL18 1))])), (rL18 1, .inl (cI, nL18 1, .inl (iA (FL18 1)))), (o 2, .inr (1, [.int (iz 80), .ref (rL18 2), .int (iz (zL18 2))])), (rL18 2, .inl (cI, nL18 2, .inl (iA (FL18 2)))), (o 3, .inr (1, [.int (iz 80), .ref (rL18 3), .int (iz (zL18 3))])), (rL18 3, .inl (cI, nL18 3, .inl (iA (FL18 3)))), (o 13, .inr (3, [.ref (o 4), .ref (o 5), .ref (o 6)])), (o 4, .inr (1, [.int (iz 1600), .ref (rL18 4), .int (iz (zL18 4))])), (rL18 4, .inl (cI, nL18 4, .inl (iA (FL18 4)))), (o 5, .inr (1, [.int (iz 1600), .ref (rL18 5), .int (iz (zL18 5))])), (rL18 5, .inl (cI, nL18 5, .inl (iA (FL18 5)))), (o 6, .inr (1, [.int (iz 1600), .ref (rL18 6), .int (iz (zL18 6))])), (rL18 6, .inl (cI, nL18 6, .inl (iA (FL18 6)))), (o 12, .inr (4, [.int (iz (zL18 17)), .int (iz (zL18 18)), .int (iz (zL18 19)), .int (iz (zL18 20)), .int (iz (zL18 21))])), (o 10, .inr (2, [.ref (rL18 10), .int (iz (zL18 10)), .int (iz (zL18 22))])), (rL18 10, .inl (cB, nL18 10, .inl (iA (FL18 10)))), (o 11, .inr (2, [.ref (rL18 11), .int (iz (zL18 11)), .int (iz (zL18 23))])), (rL18 11, .inl (cB, nL18 11, .inl (iA (FL18 11))))]) (w1 := (sU cI 1600 (o 14) (o 7) (o 8) (o 9) (rL18 7) (rL18 8) (rL18 9) (nL18 7) (nL18 8) (nL18 9) z1_22 z2_23 z3_24 (FL18 7) (FL18 8) (FL18 9))) (ws' := (xU cI cB cE o rL18 nL18 (va_up (va_up (va_up zL18 7 z1_22) 8 z2_23) 9 z3_24) FL18 G (Eo 0 0))) hP hD [17, 18, 19, 20, 21, 22, 23] [0, 1, 2, 3, 4, 5, 6, 7, 8, 9, 10, 11, 12, 13, 14, 15, 16, 24, 25, 26, 27, 28] [0, 1, 2, 3, 4, 5, 6, 7, 8, 9, 10, 11, 12, 13, 14, 15, 16, 22, 23, 24, 25, 26, 27, 28, 17, 18, 19, 20, 21] rfl rfl (by decide) (by decide) hk1 hFc hP1 hD1 rfl (by decide)
          refine W.eq (g2 := F0 m 63 ls []) rfl ?_
          try dsimp only at hq_19
          obtain ⟨hd25, hm25, hx25, hy25, hz25⟩ := hq_19
          subst hd25
          subst hm25
          refine lv_aload_n hx hb dX5_findLocators_63 rfl (lv_at hl 1 rfl) ?_
          have hok26 : xOk (va_up (va_up (va_up nL18 7 (nL18 7)) 8 (nL18 8)) 9 (nL18 9)) (va_up (va_up (va_up zL18 7 z1_22) 8 z2_23) 9 z3_24) (va_up (va_up (va_up FL18 7 (FL18 7)) 8 (FL18 8)) 9 (FL18 9)) := (((hRLL18.1.i 7 (by decide) (show 0 ≤ z1_22 ∧ z1_22 ≤ ((nL18 7 : Nat) : Int) ∧ ((nL18 7 : Nat) : Int) ≤ 1600 by omega) (hRLL18.1.2.2.1 7)).i 8 (by decide) (show 0 ≤ z2_23 ∧ z2_23 ≤ ((nL18 8 : Nat) : Int) ∧ ((nL18 8 : Nat) : Int) ≤ 1600 by omega) (hRLL18.1.2.2.1 8)).i 9 (by decide) (show 0 ≤ z3_24 ∧ z3_24 ≤ ((nL18 9 : Nat) : Int) ∧ ((nL18 9 : Nat) : Int) ≤ 1600 by omega) (hRLL18.1.2.2.1 9))
          have hfr26 : xFr [4, 5, 6, 7, 8, 9, 16] [4, 5, 6, 7, 8, 9] z F (va_up (va_up (va_up zL18 7 z1_22) 8 z2_23) 9 z3_24) (va_up (va_up (va_up FL18 7 (FL18 7)) 8 (FL18 8)) 9 (FL18 9)) := ((((((hRLL18.2.1.uz 7 (by decide) _).uz 8 (by decide) _).uz 9 (by decide) _).uf 7 (by decide) _).uf 8 (by decide) _).uf 9 (by decide) _)
          have hcg26 : (0) + xg (va_up (va_up (va_up nL18 7 (nL18 7)) 8 (nL18 8)) 9 (nL18 9)) ≤ xg nL18 := by unfold xg; simp (decide := true) only [va_ev, ↓reduceIte]; omega
          have hcp26 : (0) + xp (va_up (va_up (va_up nL18 7 (nL18 7)) 8 (nL18 8)) 9 (nL18 9)) ≤ xp nL18 := by unfold xp; simp (decide := true) only [va_ev, ↓reduceIte]; omega
          have hxG9 : xG N (zL18 12) G Eo := ⟨by omega, by omega, by omega, fun e9 h9 => hN4 e9 (by omega)⟩
          have hP : va_P (dC, dI) kxCl (xU cI cB cE o rL18 (va_up (va_up (va_up nL18 7 (nL18 7)) 8 (nL18 8)) 9 (nL18 9)) (va_up (va_up (va_up zL18 7 z1_22) 8 z2_23) 9 z3_24) (va_up (va_up (va_up FL18 7 (FL18 7)) 8 (FL18 8)) 9 (FL18 9)) G (Eo 0 0) ++ eP cI N Eo Er En Ez EF) H := hP
          have hD : va_D A (xU cI cB cE o rL18 (va_up (va_up (va_up nL18 7 (nL18 7)) 8 (nL18 8)) 9 (nL18 9)) (va_up (va_up (va_up zL18 7 z1_22) 8 z2_23) 9 z3_24) (va_up (va_up (va_up FL18 7 (FL18 7)) 8 (FL18 8)) 9 (FL18 9)) G (Eo 0 0) ++ eP cI N Eo Er En Ez EF) := hD
          have hFc := xw_free hD hS hA
          refine xk_call (va_runV (As := []) (rest := []) ⟨hx, hb, hml, hown, hts⟩ (y_joinGathered7 l dC dI cI cB cE o rL18 (va_up (va_up (va_up nL18 7 (nL18 7)) 8 (nL18 8)) 9 (nL18 9)) (va_up (va_up (va_up zL18 7 z1_22) 8 z2_23) 9 z3_24) (va_up (va_up (va_up FL18 7 (FL18 7)) 8 (FL18 8)) 9 (FL18 9)) G N Eo Er En Ez EF  H.size hok26 hxG9 hRLL18.2.2.1 (show zL18 4 = zL18 5 ∧ zL18 5 = zL18 6 ∧ zL18 4 ≤ 1580 by omega) (fun x hx => lo_row_all _ (fun e a b => (lH e a (by omega)).2) x (hGg.2.mem_iff.mp hx)) (show z1_22 = 0 ∧ z2_23 = 0 ∧ z3_24 = 0 by omega)) (cwV 0 hts (kx_gV kq_19_xouts_18 kq_19_xouts_19 kq_19_xouts_20 kq_18_xrows_4 kq_19_xouts_21 rfl) rfl rfl rfl (by decide +kernel) ⟨Nat.le_of_ble_eq_true rfl, Nat.le_of_ble_eq_true rfl⟩) ⟨kx_blind, va_recv hK hP (ci := 5) (q0 := 0) rfl rfl, kx_give (ws := []) (tys := []) hP hD hK hG hZ hS hFc⟩ rfl rfl hl.1 rfl (lv_room (Nat.le_of_ble_eq_true rfl)) dX5_findLocators_64 ⟨show (cv + 0) + 250 ≤ 400 from (by omega), show (sv + 0) + 110000 ≤ 170000 from (by omega)⟩) hS (fun q _ h => hFc q h) hFc (fun u dn_29 dm_30 t H locs ht hvm hq_27 hB hk1 hS => ?_)
          obtain ⟨r_31, n_32, z_33, F_34, Er_35, En_36, Ez_37, EF_38⟩ := u
          obtain ⟨hP, hK1, hD1⟩ := hB
          rw [ht] at hP
          have hD := hD1.weaken (fun _ q _ h => hFc _ h)
          obtain ⟨hR39, hC39, hq_27⟩ := hq_27
          obtain ⟨hn1139, hq_27⟩ := hq_27
          have hn1139 : n_32 11 = nL18 11 := hn1139
          have hok39 := hR39.1
          have hfr39 := hfr26.tr (hR39.2.1.mono (S' := [4, 5, 6, 7, 8, 9, 16]) (T' := [4, 5, 6, 7, 8, 9]) (by decide) (by decide))
          have hPE39 := hR39.2.2.1
          have hef39 := hRLL18.2.2.2.tr (hR39.2.2.2.mono (S' := []) (T' := []) (by decide) (by decide))
          have hz39 : z_33 12 = (zL18 12) := hR39.2.1.1 12 (by decide)
          refine W.eq (g2 := F0 m 67 ls []) rfl ?_
          try dsimp only at hq_27
          try simp (decide := true) only [va_ev, ↓reduceIte] at hq_27
          obtain ⟨hjp, hjz, hjk⟩ := hq_27
          obtain ⟨rfl, rfl, rfl, rfl⟩ := hjk
          refine lv_aload_n hx hb dX5_findLocators_67 rfl (lv_at hl 1 rfl) ?_
          refine lv_iload_n hx hb dX5_findLocators_68 rfl (lv_at hl 2 rfl) ?_
          refine va_put (D := (dC, dI)) (ci := 5) (v := .int (iz p0)) (ty := .int) (C := RX5) (T := TX5) (N := 16) hx hb hts kt_X5 tyX5 tyX5_ok nmX5 hown hK hP hD hS 0 rfl rfl 10 (by decide) (kx_word hG kq_18_xrows_26 rfl) (fun _ h9 => h9) rfl (by decide +kernel) rfl rfl (Nat.le_of_ble_eq_true rfl) dX5_findLocators_69 (fun H locs hP hD hS => ?_)
          have hP : va_P (dC, dI) kxCl ((xU cI cB cE o r_31 n_32 (va_up z_33 16 p0) F_34 G (Eo 0 0)) ++ (eP cI N Eo Er En Ez EF)) H := hP
          have hD : va_D A ((xU cI cB cE o r_31 n_32 (va_up z_33 16 p0) F_34 G (Eo 0 0)) ++ (eP cI N Eo Er En Ez EF)) := hD
          have hxz_41 : -2147483648 ≤ z_33 16 ∧ z_33 16 < 2147483648 := hok39.2.2.2.1 16
          have hok42 : xOk n_32 (va_up z_33 16 p0) F_34 := (hok39.s 16 (by decide) (show -2147483648 ≤ p0 ∧ p0 < 2147483648 by omega) (by omega))
          have hfr42 : xFr [4, 5, 6, 7, 8, 9, 16] [4, 5, 6, 7, 8, 9] z F (va_up z_33 16 p0) F_34 := (hfr39.uz 16 (by decide) _)
          rw [← hQe]
          exact xk_vret (ov := (fun _ : (Nat → Nat) × (Nat → Nat) × (Nat → Int) × (Nat → Int → Int) × (Nat → Nat → Nat) × (Nat → Nat → Nat) × (Nat → Nat → Int) × (Nat → Nat → Int → Int) => none)) (post := (fun (u : (Nat → Nat) × (Nat → Nat) × (Nat → Int) × (Nat → Int → Int) × (Nat → Nat → Nat) × (Nat → Nat → Nat) × (Nat → Nat → Int) × (Nat → Nat → Int → Int)) (dn dm : Nat) => match u with | (r', n', z', F', Er', En', Ez', EF') => xR [4, 5, 6, 7, 8, 9, 16] [4, 5, 6, 7, 8, 9] [] [] N z F En Ez EF n' z' F' En' Ez' EF' ∧ (dn + xg n' ≤ xg n + 0 ∧ dm + xp n' ≤ xp n + 0) ∧ n' 11 = n 11 ∧ (z' 16 = p0 ∧ (z' 7 = z' 8 ∧ z' 8 = z' 9) ∧ lo_Q (z 12) (rs_sE Ez) Ez EF p0 (lo_pl (F' 7) (F' 8) (z' 7).toNat 0) ∧ Er = Er' ∧ En = En' ∧ Ez = Ez' ∧ EF = EF'))) (ws := (fun u : (Nat → Nat) × (Nat → Nat) × (Nat → Int) × (Nat → Int → Int) × (Nat → Nat → Nat) × (Nat → Nat → Nat) × (Nat → Nat → Int) × (Nat → Nat → Int → Int) => match u with | (r', n', z', F', Er', En', Ez', EF') => (xU cI cB cE o r' n' z' F' G (Eo 0 0) ++ eP cI N Eo Er' En' Ez' EF'))) (tys := xT cI cB cE) (r_31, n_32, (va_up z_33 16 p0), F_34, Er, En, Ez, EF) hx hb hr hlocks rfl hP hD hK hS dX5_findLocators_72 (fun dn dm hdn hdm => ⟨⟨hok42, hfr42, hPE39, hef39⟩, ⟨by omega, by omega⟩, ⟨(show n_32 11 = n 11 by omega), ⟨rfl, (show z_33 7 = z_33 8 ∧ z_33 8 = z_33 9 by omega), ⟨_, (by rw [show (z 12).toNat = k.toNat by omega]; exact hGg), hjp⟩, rfl, rfl, rfl, rfl⟩⟩⟩) (by omega) (by omega)
        · skip
          refine lv_aload_n hx hb dX5_findLocators_26 rfl (lv_at hl 1 rfl) ?_
          refine lv_iload_n hx hb dX5_findLocators_27 rfl (lv_at hl 0 rfl) ?_
          have hxG9 : xG N (zL18 12) G Eo := ⟨by omega, by omega, by omega, fun e9 h9 => hN4 e9 (by omega)⟩
          have hP : va_P (dC, dI) kxCl (xU cI cB cE o rL18 nL18 zL18 FL18 G (Eo 0 0) ++ eP cI N Eo Er En Ez EF) H := hP
          refine xk_pure (va_runV (As := [.int (iz k)]) (rest := []) ⟨hx, hb, hml, hown, hts⟩ (y_firstOf2 l dC dI cI cB cE o rL18 nL18 zL18 FL18 G N Eo Er En Ez EF k H.size hRLL18.1 hxG9 hRLL18.2.2.1 (by omega) (by omega)) (cwV 1 hts (kx_gV kq_18_xrows_15 kq_18_xrows_16 kq_18_xrows_17 kq_18_xrows_4 kq_18_xrows_18 rfl) rfl rfl rfl (by decide +kernel) ⟨Nat.le_of_ble_eq_true rfl, Nat.le_of_ble_eq_true rfl⟩) ⟨pPre_blind, va_recv hK hP (ci := 5) (q0 := 0) rfl rfl, pPre_give hP hK hG⟩ rfl rfl hl.1 rfl (lv_room (Nat.le_of_ble_eq_true rfl)) dX5_findLocators_28 ⟨show cv + 0 ≤ 400 from (by omega), show sv + 0 ≤ 170000 from (by omega)⟩) hS (fun z_44 locs hq_43 hS => ?_)
          refine W.eq (g2 := F0 m 31 ls [.int (iz z_44)]) rfl ?_
          try dsimp only at hq_43
          obtain ⟨hq_43, hq_43b⟩ := hq_43
          subst hq_43
          refine W.eq (g2 := F0 m 31 ls [.int (iz (rs_fo (zL18 12) Ez k))]) rfl ?_
          have ef9 : rs_fo (zL18 12) Ez k = rs_sE Ez k := if_pos (by omega)
          rw [ef9]
          refine W.eq (g2 := F0 m 31 ls [.int (iz (rs_sE Ez k))]) rfl ?_
          have hsk := hs k (by omega) (by omega)
          refine lv_iload_n hx hb dX5_findLocators_31 rfl (lv_at hl 2 rfl) ?_
          refine ki_icmp_ne (tgt := 50) hx hb dX5_findLocators_32 (by decide) (by omega) (by omega) (by omega) (by omega) (fun c_45 => ?_) (fun c_45 => ?_)
          · skip
            refine lv_iinc (v := iz (k + 1)) (lv' := [(2, .int (iz (k + 1))), (0, .ref (o 15)), (1, .int (iz p0))]) hx hb dX5_findLocators_50 hl (k := 0) rfl (iz_add k 1) (by decide) rfl (fun ls hl => ?_)
            refine lv_goto (tgt := 18) hx hb dX5_findLocators_53 (by decide) ?_
            exact ih18 (k + 1) rL18 nL18 zL18 FL18 cv sv ⟨⟨hRLL18.1, hRLL18.2.1, hRLL18.2.2.1, hRLL18.2.2.2⟩, ⟨by omega, by omega⟩, (show zL18 12 = z 12 by omega), (show nL18 11 = n 11 by omega), by omega, (show zL18 4 = zL18 5 ∧ zL18 5 = zL18 6 ∧ zL18 4 ≤ 20 * (k + 1) by omega), (by rw [lo_row_n (by omega) (show ¬ rs_sE Ez k = p0 by omega)]; exact hGg)⟩ (by omega) _ _ hP hD hS ls (lv_sub hl [0, 1, 2] rfl)
          · skip
            obtain ⟨hlk1, hlk2⟩ := lH k (by omega) (by omega)
            refine lv_aload_n hx hb dX5_findLocators_35 rfl (lv_at hl 1 rfl) ?_
            refine va_get (D := (dC, dI)) (ci := 5) (v := .ref (o 13)) (C := RX5) (T := TX5) (N := 16) hx hb hts kt_X5 hown hK hP 0 rfl rfl 8 (by decide) (kx_word hG kq_19_xouts_2 rfl) (fun _ h9 => h9) rfl dX5_findLocators_36 ?_
            refine lv_aload_n hx hb dX5_findLocators_39 rfl (lv_at hl 1 rfl) ?_
            refine lv_iload_n hx hb dX5_findLocators_40 rfl (lv_at hl 0 rfl) ?_
            have hxG9 : xG N (zL18 12) G Eo := ⟨by omega, by omega, by omega, fun e9 h9 => hN4 e9 (by omega)⟩
            have hP : va_P (dC, dI) kxCl (xU cI cB cE o rL18 nL18 zL18 FL18 G (Eo 0 0) ++ eP cI N Eo Er En Ez EF) H := hP
            refine xk_pure (va_runV (As := [.int (iz k)]) (rest := [.ref (o 13)]) ⟨hx, hb, hml, hown, hts⟩ (y_known l dC dI cI cB cE o rL18 nL18 zL18 FL18 G N Eo Er En Ez EF k H.size hRLL18.1 hxG9 hRLL18.2.2.1 (by omega) (by omega)) (cwV 1 hts (kx_gV kq_18_xrows_8 kq_18_xrows_9 kq_18_xrows_10 kq_18_xrows_4 kq_18_xrows_11 rfl) rfl rfl rfl (by decide +kernel) ⟨Nat.le_of_ble_eq_true rfl, Nat.le_of_ble_eq_true rfl⟩) ⟨pPre_blind, va_recv hK hP (ci := 5) (q0 := 0) rfl rfl, pPre_give hP hK hG⟩ rfl rfl hl.1 rfl (lv_room (Nat.le_of_ble_eq_true rfl)) dX5_findLocators_41 ⟨show cv + 0 ≤ 400 from (by omega), show sv + 0 ≤ 170000 from (by omega)⟩) hS (fun z_47 locs hq_46 hS => ?_)
            refine W.eq (g2 := F0 m 44 ls [.ref z_47.toNat, .ref (o 13)]) rfl ?_
            try dsimp only at hq_46
            obtain ⟨j48, hj48, ez48, hje48⟩ := hq_46
            subst ez48
            refine W.eq (g2 := F0 m 44 ls [.ref (Eo j48 0), .ref (o 13)]) rfl ?_
            have ej48 : j48 = (k + 1).toNat := by omega
            subst ej48
            have hP := eP_foc hj48 hP
            have hD := eD_foc hj48 hD
            refine va_getN (D := (dC, dI)) (ci := 0) (v := .ref (Eo ((k + 1).toNat) 5)) (C := RX0) (T := TX0) (N := 12) hx hb hts kt_X0 hown hK hP 29 rfl rfl 5 (by decide) (va_Nw.use rfl (kx_nf hG kq_19_xouts_22)) (fun _ h9 => h9) rfl dX5_findLocators_44 ?_
            have hxi_49 : 0 ≤ zL18 4 ∧ zL18 4 ≤ ((nL18 4 : Nat) : Int) ∧ ((nL18 4 : Nat) : Int) ≤ 1600 := hRLL18.1.1 4 (by decide)
            have hxi_50 : 0 ≤ zL18 5 ∧ zL18 5 ≤ ((nL18 5 : Nat) : Int) ∧ ((nL18 5 : Nat) : Int) ≤ 1600 := hRLL18.1.1 5 (by decide)
            have hxi_51 : 0 ≤ zL18 6 ∧ zL18 6 ≤ ((nL18 6 : Nat) : Int) ∧ ((nL18 6 : Nat) : Int) ≤ 1600 := hRLL18.1.1 6 (by decide)
            have he_52 : 0 ≤ Ez ((k + 1).toNat) 4 ∧ Ez ((k + 1).toNat) 4 ≤ ((En ((k + 1).toNat) 4 : Nat) : Int) ∧ ((En ((k + 1).toNat) 4 : Nat) : Int) ≤ 20 := (hRLL18.2.2.1 ((k + 1).toNat) hj48).1 4 (by decide)
            have he_53 : 0 ≤ Ez ((k + 1).toNat) 5 ∧ Ez ((k + 1).toNat) 5 ≤ ((En ((k + 1).toNat) 5 : Nat) : Int) ∧ ((En ((k + 1).toNat) 5 : Nat) : Int) ≤ 20 := (hRLL18.2.2.1 ((k + 1).toNat) hj48).1 5 (by decide)
            have he_54 : 0 ≤ Ez ((k + 1).toNat) 6 ∧ Ez ((k + 1).toNat) 6 ≤ ((En ((k + 1).toNat) 6 : Nat) : Int) ∧ ((En ((k + 1).toNat) 6 : Nat) : Int) ≤ 20 := (hRLL18.2.2.1 ((k + 1).toNat) hj48).1 6 (by decide)
            have hPc := hP.sub (ws' := ((sU cI 1600 (o 13) (o 4) (o 5) (o 6) (rL18 4) (rL18 5) (rL18 6) (nL18 4) (nL18 5) (nL18 6) (zL18 4) (zL18 5) (zL18 6) (FL18 4) (FL18 5) (FL18 6)) ++ (sU cI 20 (Eo ((k + 1).toNat) 5) (Eo ((k + 1).toNat) 6) (Eo ((k + 1).toNat) 7) (Eo ((k + 1).toNat) 8) (Er ((k + 1).toNat) 4) (Er ((k + 1).toNat) 5) (Er ((k + 1).toNat) 6) (En ((k + 1).toNat) 4) (En ((k + 1).toNat) 5) (En ((k + 1).toNat) 6) (Ez ((k + 1).toNat) 4) (Ez ((k + 1).toNat) 5) (Ez ((k + 1).toNat) 6) (EF ((k + 1).toNat) 4) (EF ((k + 1).toNat) 5) (EF ((k + 1).toNat) 6)))) [10, 11, 12, 13, 14, 15, 16, 38, 39, 40, 41, 42, 43, 44] rfl
            have hDc := hD.sub (ws' := ((sU cI 1600 (o 13) (o 4) (o 5) (o 6) (rL18 4) (rL18 5) (rL18 6) (nL18 4) (nL18 5) (nL18 6) (zL18 4) (zL18 5) (zL18 6) (FL18 4) (FL18 5) (FL18 6)) ++ (sU cI 20 (Eo ((k + 1).toNat) 5) (Eo ((k + 1).toNat) 6) (Eo ((k + 1).toNat) 7) (Eo ((k + 1).toNat) 8) (Er ((k + 1).toNat) 4) (Er ((k + 1).toNat) 5) (Er ((k + 1).toNat) 6) (En ((k + 1).toNat) 4) (En ((k + 1).toNat) 5) (En ((k + 1).toNat) 6) (Ez ((k + 1).toNat) 4) (Ez ((k + 1).toNat) 5) (Ez ((k + 1).toNat) 6) (EF ((k + 1).toNat) 4) (EF ((k + 1).toNat) 5) (EF ((k + 1).toNat) 6)))) [10, 11, 12, 13, 14, 15, 16, 38, 39, 40, 41, 42, 43, 44] (by decide) rfl
            have hFc := va_free (wc := ((sU cI 1600 (o 13) (o 4) (o 5) (o 6) (rL18 4) (rL18 5) (rL18 6) (nL18 4) (nL18 5) (nL18 6) (zL18 4) (zL18 5) (zL18 6) (FL18 4) (FL18 5) (FL18 6)) ++ (sU cI 20 (Eo ((k + 1).toNat) 5) (Eo ((k + 1).toNat) 6) (Eo ((k + 1).toNat) 7) (Eo ((k + 1).toNat) 8) (Er ((k + 1).toNat) 4) (Er ((k + 1).toNat) 5) (Er ((k + 1).toNat) 6) (En ((k + 1).toNat) 4) (En ((k + 1).toNat) 5) (En ((k + 1).toNat) 6) (Ez ((k + 1).toNat) 4) (Ez ((k + 1).toNat) 5) (Ez ((k + 1).toNat) 6) (EF ((k + 1).toNat) 4) (EF ((k + 1).toNat) 5) (EF ((k + 1).toNat) 6)))) hD hS hA [10, 11, 12, 13, 14, 15, 16, 38, 39, 40, 41, 42, 43, 44] rfl
            refine xk_call (va_runV (As := [.ref (Eo ((k + 1).toNat) 5)]) (rest := []) ⟨hx, hb, hml, hown, hts⟩ (x_sall2 l dC dI cI cB cE 1600 (o 13) (o 4) (o 5) (o 6) (rL18 4) (rL18 5) (rL18 6) (nL18 4) (nL18 5) (nL18 6) (zL18 4) (zL18 5) (zL18 6) (FL18 4) (FL18 5) (FL18 6) 20 (Eo ((k + 1).toNat) 5) (Eo ((k + 1).toNat) 6) (Eo ((k + 1).toNat) 7) (Eo ((k + 1).toNat) 8) (Er ((k + 1).toNat) 4) (Er ((k + 1).toNat) 5) (Er ((k + 1).toNat) 6) (En ((k + 1).toNat) 4) (En ((k + 1).toNat) 5) (En ((k + 1).toNat) 6) (Ez ((k + 1).toNat) 4) (Ez ((k + 1).toNat) 5) (Ez ((k + 1).toNat) 6) (EF ((k + 1).toNat) 4) (EF ((k + 1).toNat) 5) (EF ((k + 1).toNat) 6)  H.size (by omega) (hRLL18.1.2.2.1 4) (by omega) (hRLL18.1.2.2.1 5) (by omega) (hRLL18.1.2.2.1 6) (by omega) ((hRLL18.2.2.1 ((k + 1).toNat) hj48).2.1 4) (by omega) ((hRLL18.2.2.1 ((k + 1).toNat) hj48).2.1 5) (by omega) ((hRLL18.2.2.1 ((k + 1).toNat) hj48).2.1 6) (by omega) (by omega) (by omega) (fun i a b => by have h9 := (lo_vk hlk2 a b).1; have h8 : EF ((k + 1).toNat) 6 i = 1 ∨ (EF ((k + 1).toNat) 6 i = 0 ∧ _) := h9; rcases h8 with h8 | h8; exact Or.inr h8; exact Or.inl h8.1)) (cwV 1 hts (kx_gV kq_19_xouts_23 kq_19_xouts_24 kq_19_xouts_25 kq_15_xspan_53 kq_19_xouts_26 rfl) rfl rfl rfl (by decide +kernel) ⟨Nat.le_of_ble_eq_true rfl, Nat.le_of_ble_eq_true rfl⟩) ⟨kx_blind, va_recv hK hPc (ci := 3) (q0 := 0) rfl rfl, kx_give (ws := []) (tys := []) hPc hDc hK hG hZ hS hFc⟩ rfl rfl hl.1 rfl (lv_room (Nat.le_of_ble_eq_true rfl)) dX5_findLocators_47 ⟨show cv + 30 ≤ 400 from (by omega), show sv + 19200 ≤ 170000 from (by omega)⟩) hS (fun q _ h => hFc q h) hFc (fun u dn_56 dm_57 t H locs ht hvm hq_55 hB hk1 hS => ?_)
            obtain ⟨r1_58, n1_59, z1_60, F1_61, r2_62, n2_63, z2_64, F2_65, r3_66, n3_67, z3_68, F3_69⟩ := u
            obtain ⟨hP1, hK1, hD1⟩ := hB
            rw [ht] at hP1
            obtain ⟨hP, hD⟩ := xj_pool (wr := [(o 15, .inr (5, [.ref (o 16), .ref (Eo 0 0), .int (iz (zL18 12)), .int (iz (zL18 13)), .int (iz (zL18 14)), .ref (o 0), .ref (o 1), .int (iz (zL18 15)), .ref (o 13), .ref (o 14), .int (iz (zL18 16)), .ref (o 2), .ref (o 12), .ref (o 3), .ref (o 10), .ref (o 11)])), (o 16, .inl (cE, 80, .inr (.inr (.inr (.inr G))))), (o 0, .inr (1, [.int (iz 80), .ref (rL18 0), .int (iz (zL18 0))])), (rL18 0, .inl (cI, nL18 0, .inl (iA (FL18 0)))), (o 1, .inr (1, [.int (iz 80), .ref (rL18 1), .int (iz (zL18 1))])), (rL18 1, .inl (cI, nL18 1, .inl (iA (FL18 1)))), (o 2, .inr (1, [.int (iz 80), .ref (rL18 2), .int (iz (zL18 2))])), (rL18 2, .inl (cI, nL18 2, .inl (iA (FL18 2)))), (o 3, .inr (1, [.int (iz 80), .ref (rL18 3), .int (iz (zL18 3))])), (rL18 3, .inl (cI, nL18 3, .inl (iA (FL18 3)))), (o 14, .inr (3, [.ref (o 7), .ref (o 8), .ref (o 9)])), (o 7, .inr (1, [.int (iz 1600), .ref (rL18 7), .int (iz (zL18 7))])), (rL18 7, .inl (cI, nL18 7, .inl (iA (FL18 7)))), (o 8, .inr (1, [.int (iz 1600), .ref (rL18 8), .int (iz (zL18 8))])), (rL18 8, .inl (cI, nL18 8, .inl (iA (FL18 8)))), (o 9, .inr (1, [.int (iz 1600), .ref (rL18 9), .int (iz (zL18 9))])), (rL18 9, .inl (cI, nL18 9, .inl (iA (FL18 9)))), (o 12, .inr (4, [.int (iz (zL18 17)), .int (iz (zL18 18)), .int (iz (zL18 19)), .int (iz (zL18 20)), .int (iz (zL18 21))])), (o 10, .inr (2, [.ref (rL18 10), .int (iz (zL18 10)), .int (iz (zL18 22))])), (rL18 10, .inl (cB, nL18 10, .inl (iA (FL18 10)))), (o 11, .inr (2, [.ref (rL18 11), .int (iz (zL18 11)), .int (iz (zL18 23))])), (rL18 11, .inl (cB, nL18 11, .inl (iA (FL18 11)))), (Eo ((k + 1).toNat) 0, .inr (0, [.int (iz (Ez ((k + 1).toNat) 7)), .int (iz (Ez ((k + 1).toNat) 8)), .ref (Eo ((k + 1).toNat) 1), .ref (Eo ((k + 1).toNat) 2), .ref (Eo ((k + 1).toNat) 3), .ref (Eo ((k + 1).toNat) 5), .ref (Eo ((k + 1).toNat) 4), .int (iz (Ez ((k + 1).toNat) 9)), .int (iz (Ez ((k + 1).toNat) 10)), .int (iz (Ez ((k + 1).toNat) 11)), .int (iz (Ez ((k + 1).toNat) 12)), .int (iz (Ez ((k + 1).toNat) 13))])), (Eo ((k + 1).toNat) 1, .inr (1, [.int (iz 20), .ref (Er ((k + 1).toNat) 0), .int (iz (Ez ((k + 1).toNat) 0))])), (Er ((k + 1).toNat) 0, .inl (cI, En ((k + 1).toNat) 0, .inl (iA (EF ((k + 1).toNat) 0)))), (Eo ((k + 1).toNat) 2, .inr (1, [.int (iz 20), .ref (Er ((k + 1).toNat) 1), .int (iz (Ez ((k + 1).toNat) 1))])), (Er ((k + 1).toNat) 1, .inl (cI, En ((k + 1).toNat) 1, .inl (iA (EF ((k + 1).toNat) 1)))), (Eo ((k + 1).toNat) 3, .inr (1, [.int (iz 40), .ref (Er ((k + 1).toNat) 2), .int (iz (Ez ((k + 1).toNat) 2))])), (Er ((k + 1).toNat) 2, .inl (cI, En ((k + 1).toNat) 2, .inl (iA (EF ((k + 1).toNat) 2)))), (Eo ((k + 1).toNat) 4, .inr (1, [.int (iz 5), .ref (Er ((k + 1).toNat) 3), .int (iz (Ez ((k + 1).toNat) 3))])), (Er ((k + 1).toNat) 3, .inl (cI, En ((k + 1).toNat) 3, .inl (iA (EF ((k + 1).toNat) 3))))]) (w1 := ((sU cI 1600 (o 13) (o 4) (o 5) (o 6) r1_58 r2_62 r3_66 n1_59 n2_63 n3_67 z1_60 z2_64 z3_68 F1_61 F2_65 F3_69) ++ (sU cI 20 (Eo ((k + 1).toNat) 5) (Eo ((k + 1).toNat) 6) (Eo ((k + 1).toNat) 7) (Eo ((k + 1).toNat) 8) (Er ((k + 1).toNat) 4) (Er ((k + 1).toNat) 5) (Er ((k + 1).toNat) 6) (En ((k + 1).toNat) 4) (En ((k + 1).toNat) 5) (En ((k + 1).toNat) 6) (Ez ((k + 1).toNat) 4) (Ez ((k + 1).toNat) 5) (Ez ((k + 1).toNat) 6) (EF ((k + 1).toNat) 4) (EF ((k + 1).toNat) 5) (EF ((k + 1).toNat) 6)))) (ws' := ((xU cI cB cE o (va_up (va_up (va_up rL18 4 r1_58) 5 r2_62) 6 r3_66) (va_up (va_up (va_up nL18 4 n1_59) 5 n2_63) 6 n3_67) (va_up (va_up (va_up zL18 4 z1_60) 5 z2_64) 6 z3_68) (va_up (va_up (va_up FL18 4 F1_61) 5 F2_65) 6 F3_69) G (Eo 0 0)) ++ (eU cI (Eo ((k + 1).toNat)) (Er ((k + 1).toNat)) (En ((k + 1).toNat)) (Ez ((k + 1).toNat)) (EF ((k + 1).toNat))))) hP hD [10, 11, 12, 13, 14, 15, 16, 38, 39, 40, 41, 42, 43, 44] [0, 1, 2, 3, 4, 5, 6, 7, 8, 9, 17, 18, 19, 20, 21, 22, 23, 24, 25, 26, 27, 28, 29, 30, 31, 32, 33, 34, 35, 36, 37] [0, 1, 2, 3, 4, 5, 6, 7, 8, 9, 31, 32, 33, 34, 35, 36, 37, 10, 11, 12, 13, 14, 15, 16, 17, 18, 19, 20, 21, 22, 23, 24, 25, 26, 27, 28, 29, 30, 38, 39, 40, 41, 42, 43, 44] rfl rfl (by decide) (by decide) hk1 hFc hP1 hD1 rfl (by decide)
            refine W.eq (g2 := F0 m 50 ls []) rfl ?_
            try dsimp only at hq_55
            obtain ⟨ha70, hb170, hb70, hb270, hc70, hb370, hd70, hsz70, hXx70⟩ := hq_55
            have hpg170 := psg_le 1600 (nL18 4)
            have hpj170 := psj_le (L := 1600) (by omega) (nL18 4)
            have hpg270 := psg_le 1600 (nL18 5)
            have hpj270 := psj_le (L := 1600) (by omega) (nL18 5)
            have hpg370 := psg_le 1600 (nL18 6)
            have hpj370 := psj_le (L := 1600) (by omega) (nL18 6)
            have hGn := hXx70 _ hGg
            refine lv_iinc (v := iz (k + 1)) (lv' := [(2, .int (iz (k + 1))), (0, .ref (o 15)), (1, .int (iz p0))]) hx hb dX5_findLocators_50 hl (k := 0) rfl (iz_add k 1) (by decide) rfl (fun ls hl => ?_)
            refine lv_goto (tgt := 18) hx hb dX5_findLocators_53 (by decide) ?_
            have hP := eP_un0 hj48 hP
            have hD := eD_un0 hj48 hD
            have hok71 : xOk (va_up (va_up (va_up nL18 4 n1_59) 5 n2_63) 6 n3_67) (va_up (va_up (va_up zL18 4 z1_60) 5 z2_64) 6 z3_68) (va_up (va_up (va_up FL18 4 F1_61) 5 F2_65) 6 F3_69) := (((hRLL18.1.i 4 (by decide) (show 0 ≤ z1_60 ∧ z1_60 ≤ ((n1_59 : Nat) : Int) ∧ ((n1_59 : Nat) : Int) ≤ 1600 by omega) hb170).i 5 (by decide) (show 0 ≤ z2_64 ∧ z2_64 ≤ ((n2_63 : Nat) : Int) ∧ ((n2_63 : Nat) : Int) ≤ 1600 by omega) hb270).i 6 (by decide) (show 0 ≤ z3_68 ∧ z3_68 ≤ ((n3_67 : Nat) : Int) ∧ ((n3_67 : Nat) : Int) ≤ 1600 by omega) hb370)
            have hfr71 : xFr [4, 5, 6, 7, 8, 9, 16] [4, 5, 6, 7, 8, 9] z F (va_up (va_up (va_up zL18 4 z1_60) 5 z2_64) 6 z3_68) (va_up (va_up (va_up FL18 4 F1_61) 5 F2_65) 6 F3_69) := ((((((hRLL18.2.1.uz 4 (by decide) _).uz 5 (by decide) _).uz 6 (by decide) _).uf 4 (by decide) _).uf 5 (by decide) _).uf 6 (by decide) _)
            have hcg71 : (dn_56) + xg (va_up (va_up (va_up nL18 4 n1_59) 5 n2_63) 6 n3_67) ≤ xg nL18 := by unfold xg; simp (decide := true) only [va_ev, ↓reduceIte]; omega
            have hcp71 : (dm_57) + xp (va_up (va_up (va_up nL18 4 n1_59) 5 n2_63) 6 n3_67) ≤ xp nL18 := by unfold xp; simp (decide := true) only [va_ev, ↓reduceIte]; omega
            exact ih18 (k + 1) (va_up (va_up (va_up rL18 4 r1_58) 5 r2_62) 6 r3_66) (va_up (va_up (va_up nL18 4 n1_59) 5 n2_63) 6 n3_67) (va_up (va_up (va_up zL18 4 z1_60) 5 z2_64) 6 z3_68) (va_up (va_up (va_up FL18 4 F1_61) 5 F2_65) 6 F3_69) (cv + dn_56) (sv + dm_57) ⟨⟨hok71, hfr71, hRLL18.2.2.1, hRLL18.2.2.2⟩, ⟨by omega, by omega⟩, (show zL18 12 = z 12 by omega), (show nL18 11 = n 11 by omega), by omega, (show z1_60 = z2_64 ∧ z2_64 = z3_68 ∧ z1_60 ≤ 20 * (k + 1) by omega), (by rw [lo_row_s (by omega) (show rs_sE Ez k = p0 by omega)]; exact hGn)⟩ (by omega) _ _ hP hD hS ls (lv_sub hl [0, 1, 2] rfl)
    exact lp18 _ 0 r (va_up (va_up (va_up n 4 (n 4)) 5 (n 5)) 6 (n 6)) (va_up (va_up (va_up z 4 z1_9) 5 z2_10) 6 z3_11) (va_up (va_up (va_up F 4 (F 4)) 5 (F 5)) 6 (F 6)) (0 + 0) (0 + 0) ⟨⟨hok13, hfr13, hPE, hef⟩, ⟨by omega, by omega⟩, (show z 12 = z 12 by omega), (show n 11 = n 11 by omega), by omega, (show z1_9 = z2_10 ∧ z2_10 = z3_11 ∧ z1_9 ≤ 20 * 0 by omega), (by show lo_S [] (lo_ls (F 4) (F 5) (F 6) (z1_9).toNat 0); rw [show z1_9 = 0 by omega]; exact lo_S_nil)⟩ (Nat.lt_succ_self _) _ _ hP hD hS ls (lv_sub hl [0, 1, 2] rfl)
  · skip
    rw [← hQe]
    exact xk_vret (ov := (fun _ : (Nat → Nat) × (Nat → Nat) × (Nat → Int) × (Nat → Int → Int) × (Nat → Nat → Nat) × (Nat → Nat → Nat) × (Nat → Nat → Int) × (Nat → Nat → Int → Int) => none)) (post := (fun (u : (Nat → Nat) × (Nat → Nat) × (Nat → Int) × (Nat → Int → Int) × (Nat → Nat → Nat) × (Nat → Nat → Nat) × (Nat → Nat → Int) × (Nat → Nat → Int → Int)) (dn dm : Nat) => match u with | (r', n', z', F', Er', En', Ez', EF') => xR [4, 5, 6, 7, 8, 9, 16] [4, 5, 6, 7, 8, 9] [] [] N z F En Ez EF n' z' F' En' Ez' EF' ∧ (dn + xg n' ≤ xg n + 0 ∧ dm + xp n' ≤ xp n + 0) ∧ n' 11 = n 11 ∧ (z' 16 = p0 ∧ (z' 7 = z' 8 ∧ z' 8 = z' 9) ∧ lo_Q (z 12) (rs_sE Ez) Ez EF p0 (lo_pl (F' 7) (F' 8) (z' 7).toNat 0) ∧ Er = Er' ∧ En = En' ∧ Ez = Ez' ∧ EF = EF'))) (ws := (fun u : (Nat → Nat) × (Nat → Nat) × (Nat → Int) × (Nat → Int → Int) × (Nat → Nat → Nat) × (Nat → Nat → Nat) × (Nat → Nat → Int) × (Nat → Nat → Int → Int) => match u with | (r', n', z', F', Er', En', Ez', EF') => (xU cI cB cE o r' n' z' F' G (Eo 0 0) ++ eP cI N Eo Er' En' Ez' EF'))) (tys := xT cI cB cE) (r, n, z, F, Er, En, Ez, EF) hx hb hr hlocks rfl hP hD hK hS dX5_findLocators_8 (fun dn dm hdn hdm => ⟨⟨hok, hfr, hPE, hef⟩, ⟨by omega, by omega⟩, ⟨(show n 11 = n 11 by omega), ⟨by omega, (hca.resolve_left (by omega)).1, (by have h9 := (hca.resolve_left (by omega)).2; rw [show z 16 = p0 by omega] at h9; exact h9), rfl, rfl, rfl, rfl⟩⟩⟩) (by omega) (by omega)
