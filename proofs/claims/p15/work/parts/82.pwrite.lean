/-! the landed class: writing, exact -/

set_option maxHeartbeats 4000000 in
set_option maxRecDepth 100000 in
theorem y_writeLocators2 (l : Launch) (dC : Nat → ClassId) (dI : Nat → Nat → Nat) (cI cB cE : ClassId) (o r n : Nat → Nat) (z : Nat → Int) (F : Nat → Int → Int) (G : Nat → Option Nat) (N : Nat) (Eo Er En : Nat → Nat → Nat) (Ez : Nat → Nat → Int) (EF : Nat → Nat → Int → Int) (sz : Nat) (hok : xOk n z F) (hxG : xG N (z 12) G Eo) (hPE : eA N En Ez EF) (hn6 : n 11 = 6000) (hlz : (z 7 = z 8 ∧ z 8 = z 9)) (hpv : ∀ y, y ∈ (lo_pl (F 7) (F 8) (z 7).toNat 0) → pt_v y.1 ∧ pt_v y.2) : Met l yX5_writeLocators [.code yX5_writeLocators cX5_writeLocators 2 none] ({ frames := 3, cells := 100, slots := 42000, locals := 68 }) (va_Pc [.ref (o 15)] (kx_Pre dC dI (xU cI cB cE o r n z F G (Eo 0 0) ++ eP cI N Eo Er En Ez EF) (xT cI cB cE) sz)) (xQ (fun _ : (Nat → Nat) × (Nat → Nat) × (Nat → Int) × (Nat → Int → Int) × (Nat → Nat → Nat) × (Nat → Nat → Nat) × (Nat → Nat → Int) × (Nat → Nat → Int → Int) => none) (fun (u : (Nat → Nat) × (Nat → Nat) × (Nat → Int) × (Nat → Int → Int) × (Nat → Nat → Nat) × (Nat → Nat → Nat) × (Nat → Nat → Int) × (Nat → Nat → Int → Int)) (dn dm : Nat) => match u with | (r', n', z', F', Er', En', Ez', EF') => xR [11, 23] [11] [] [] N z F En Ez EF n' z' F' En' Ez' EF' ∧ (dn + xg n' ≤ xg n + 0 ∧ dm + xp n' ≤ xp n + 0) ∧ (pt_X (F 11) (z 11) (z 23) (pt_l (pt_bt pt_lo 44 (lo_pl (F 7) (F 8) (z 7).toNat 0))) (F' 11) (z' 11) (z' 23) ∧ n' 11 = 6000 ∧ Er = Er' ∧ En = En' ∧ Ez = Ez' ∧ EF = EF')) (fun u t => kx_At dC dI (va_A (xU cI cB cE o r n z F G (Eo 0 0) ++ eP cI N Eo Er En Ez EF) sz) ((fun u : (Nat → Nat) × (Nat → Nat) × (Nat → Int) × (Nat → Int → Int) × (Nat → Nat → Nat) × (Nat → Nat → Nat) × (Nat → Nat → Int) × (Nat → Nat → Int → Int) => match u with | (r', n', z', F', Er', En', Ez', EF') => (xU cI cB cE o r' n' z' F' G (Eo 0 0) ++ eP cI N Eo Er' En' Ez' EF')) u) (xT cI cB cE) t) (va_A (xU cI cB cE o r n z F G (Eo 0 0) ++ eP cI N Eo Er En Ez EF) sz)) 100 42000 (va_A (xU cI cB cE o r n z F G (Eo 0 0) ++ eP cI N Eo Er En Ez EF) sz) := by
  refine Met.ofW (cc := cX5_writeLocators) (maxL := 2) (ret := none) (by decide) rfl ?_
  intro p e s m args below meth c s₁ B hml hv
  obtain ⟨rfl, hsz, hP, hK, hD0, hG, hZ⟩ := hv
  have hx := B.exec
  have hb := B.bytes
  have hr := B.returns
  have hts := kx_hts (a := ([.ref (o 15)] : List Value).toArray) hG
  have hown : s.vm.findClass RX5 = some m.cls := findClass_of_methodNamed B.named
  have hlocks := B.notSynchronized
  subst hsz
  have hD := hD0.self (sz := s.heap.size)
  generalize hAe : va_A (xU cI cB cE o r n z F G (Eo 0 0) ++ eP cI N Eo Er En Ez EF) s.heap.size = A at hD hZ ⊢
  have hA : ∀ q : Nat, s.heap.size ≤ q → A q := fun q h => by rw [← hAe]; exact Or.inr h
  have hS : va_S A s.heap s.heap [] := va_S.rf
  have hl := lv_entry ([.ref (o 15)]) (n := 2) (Nat.le_of_ble_eq_true rfl)
  rw [lg_entry_eq]
  generalize (lg_sl ([.ref (o 15)]) ++ List.replicate (2 - (lg_sl ([.ref (o 15)])).length) Slot.unset).toArray = ls at hl ⊢
  obtain ⟨hN1, hN2, hN3, hN4⟩ := hxG
  have hef : eFr [] [] En Ez EF En Ez EF := eFr.rf
  have hfr : xFr [11, 23] [11] z F z F := xFr.rf
  have hxgl := xg_le n
  have hxpl := xp_le n
  have hl : lv_has ls 2 [(0, .ref (o 15))] := hl
  generalize hQe : MQ below (xQ (fun _ : (Nat → Nat) × (Nat → Nat) × (Nat → Int) × (Nat → Int → Int) × (Nat → Nat → Nat) × (Nat → Nat → Nat) × (Nat → Nat → Int) × (Nat → Nat → Int → Int) => none) (fun (u : (Nat → Nat) × (Nat → Nat) × (Nat → Int) × (Nat → Int → Int) × (Nat → Nat → Nat) × (Nat → Nat → Nat) × (Nat → Nat → Int) × (Nat → Nat → Int → Int)) (dn dm : Nat) => match u with | (r', n', z', F', Er', En', Ez', EF') => xR [11, 23] [11] [] [] N z F En Ez EF n' z' F' En' Ez' EF' ∧ (dn + xg n' ≤ xg n + 0 ∧ dm + xp n' ≤ xp n + 0) ∧ (pt_X (F 11) (z 11) (z 23) (pt_l (pt_bt pt_lo 44 (lo_pl (F 7) (F 8) (z 7).toNat 0))) (F' 11) (z' 11) (z' 23) ∧ n' 11 = 6000 ∧ Er = Er' ∧ En = En' ∧ Ez = Ez' ∧ EF = EF')) (fun u t => kx_At dC dI A ((fun u : (Nat → Nat) × (Nat → Nat) × (Nat → Int) × (Nat → Int → Int) × (Nat → Nat → Nat) × (Nat → Nat → Nat) × (Nat → Nat → Int) × (Nat → Nat → Int → Int) => match u with | (r', n', z', F', Er', En', Ez', EF') => (xU cI cB cE o r' n' z' F' G (Eo 0 0) ++ eP cI N Eo Er' En' Ez' EF')) u) (xT cI cB cE) t) A) ([.ref (o 15)] : List Value).toArray s 100 42000 A = QQ
  have hX0 := pt_X_nil (F 11) (z 11) (z 23)
  have hz7 : 0 ≤ z 7 ∧ z 7 ≤ (n 7 : Int) ∧ (n 7 : Int) ≤ 1600 := hok.1 7 (by decide)
  refine lv_iconst (v := iz 0) hx hb dX5_writeLocators_0 (by decide) ?_
  refine lv_istore_n (lv' := [(1, .int (iz 0)), (0, .ref (o 15))]) hx hb dX5_writeLocators_1 rfl hl (by decide) rfl (fun ls hl => ?_)
  have lp2 : ∀ (n0 : Nat) (k : Int) (rL2 : Nat → Nat) (nL2 : Nat → Nat) (zL2 : Nat → Int) (FL2 : Nat → Int → Int) (cv : Nat) (sv : Nat), ((xR [11, 23] [11] [] [] N z F En Ez EF nL2 zL2 FL2 En Ez EF) ∧ (cv + xg nL2 ≤ xg n + (0) ∧ sv + xp nL2 ≤ xp n + (0)) ∧ (zL2 12 = z 12) ∧ (0 ≤ k ∧ k ≤ z 7) ∧ (nL2 11 = 6000) ∧ (pt_X (F 11) (z 11) (z 23) (pt_l (pt_bt pt_lo 44 (lo_pl (F 7) (F 8) (k).toNat 0))) (FL2 11) (zL2 11) (zL2 23))) → (z 7 - k).toNat < n0 → ∀ (H : Heap) (locs : List Loc), va_P (dC, dI) kxCl ((xU cI cB cE o rL2 nL2 zL2 FL2 G (Eo 0 0)) ++ (eP cI N Eo Er En Ez EF)) H → va_D A ((xU cI cB cE o rL2 nL2 zL2 FL2 G (Eo 0 0)) ++ (eP cI N Eo Er En Ez EF)) → va_S A s.heap H locs → ∀ ls : Array Slot, lv_has ls 2 [(1, .int (iz k)), (0, .ref (o 15))] → W p l e (headSpec [.code yX5_writeLocators cX5_writeLocators 2 none] ({ frames := 3, cells := 100, slots := 42000, locals := 68 })).room s m ([.ref (o 15)] : List Value).toArray below meth c H locs cv sv QQ (F0 m 2 ls []) := by
    intro n0
    induction n0 with
    | zero => intro k rL2 nL2 zL2 FL2 cv sv hinv hm0; exact absurd hm0 (Nat.not_lt_zero _)
    | succ n0 ih2 =>
      intro k rL2 nL2 zL2 FL2 cv sv hinv hm0 H locs hP hD hS ls hl
      obtain ⟨hRLL2, hCLL2, hZLL2, hk, hnv, hXv⟩ := hinv
      have hkzL2_7 : zL2 7 = z 7 := hRLL2.2.1.1 7 (by decide)
      have hkzL2_8 : zL2 8 = z 8 := hRLL2.2.1.1 8 (by decide)
      have hkzL2_9 : zL2 9 = z 9 := hRLL2.2.1.1 9 (by decide)
      refine lv_iload_n hx hb dX5_writeLocators_2 rfl (lv_at hl 0 rfl) ?_
      refine lv_aload_n hx hb dX5_writeLocators_3 rfl (lv_at hl 1 rfl) ?_
      refine va_get (D := (dC, dI)) (ci := 5) (v := .ref (o 14)) (C := RX5) (T := TX5) (N := 16) hx hb hts kt_X5 hown hK hP 0 rfl rfl 9 (by decide) (kx_word hG kq_19_xouts_0 rfl) (fun _ h9 => h9) rfl dX5_writeLocators_4 ?_
      have hxi_1 : 0 ≤ zL2 7 ∧ zL2 7 ≤ ((nL2 7 : Nat) : Int) ∧ ((nL2 7 : Nat) : Int) ≤ 1600 := hRLL2.1.1 7 (by decide)
      have hxi_2 : 0 ≤ zL2 8 ∧ zL2 8 ≤ ((nL2 8 : Nat) : Int) ∧ ((nL2 8 : Nat) : Int) ≤ 1600 := hRLL2.1.1 8 (by decide)
      have hxi_3 : 0 ≤ zL2 9 ∧ zL2 9 ≤ ((nL2 9 : Nat) : Int) ∧ ((nL2 9 : Nat) : Int) ≤ 1600 := hRLL2.1.1 9 (by decide)
      have hPc := hP.sub (ws' := (sU cI 1600 (o 14) (o 7) (o 8) (o 9) (rL2 7) (rL2 8) (rL2 9) (nL2 7) (nL2 8) (nL2 9) (zL2 7) (zL2 8) (zL2 9) (FL2 7) (FL2 8) (FL2 9))) [17, 18, 19, 20, 21, 22, 23] rfl
      refine xk_pure (va_runV (As := []) (rest := [.int (iz k)]) ⟨hx, hb, hml, hown, hts⟩ (x_ssize l dC dI cI cB cE 1600 (o 14) (o 7) (o 8) (o 9) (rL2 7) (rL2 8) (rL2 9) (nL2 7) (nL2 8) (nL2 9) (zL2 7) (zL2 8) (zL2 9) (FL2 7) (FL2 8) (FL2 9)  H.size ) (cwV 0 hts (kx_gV kq_19_xouts_3 kq_15_xspan_51 kq_15_xspan_52 kq_15_xspan_53 kq_15_xspan_54 rfl) rfl rfl rfl (by decide +kernel) ⟨Nat.le_of_ble_eq_true rfl, Nat.le_of_ble_eq_true rfl⟩) ⟨pPre_blind, va_recv hK hPc (ci := 3) (q0 := 0) rfl rfl, pPre_give hPc hK hG⟩ rfl rfl hl.1 rfl (lv_room (Nat.le_of_ble_eq_true rfl)) dX5_writeLocators_7 ⟨show cv + 0 ≤ 100 from (by omega), show sv + 0 ≤ 42000 from (by omega)⟩) hS (fun z_5 locs hq_4 hS => ?_)
      refine W.eq (g2 := F0 m 10 ls [.int (iz z_5), .int (iz k)]) rfl ?_
      try dsimp only at hq_4
      have hq_4 := hq_4.symm
      subst hq_4
      refine ki_icmp_ge (tgt := 90) hx hb dX5_writeLocators_10 (by decide) (by omega) (by omega) (by omega) (by omega) (fun c_6 => ?_) (fun c_6 => ?_)
      · skip
        rw [← hQe]
        exact xk_vret (ov := (fun _ : (Nat → Nat) × (Nat → Nat) × (Nat → Int) × (Nat → Int → Int) × (Nat → Nat → Nat) × (Nat → Nat → Nat) × (Nat → Nat → Int) × (Nat → Nat → Int → Int) => none)) (post := (fun (u : (Nat → Nat) × (Nat → Nat) × (Nat → Int) × (Nat → Int → Int) × (Nat → Nat → Nat) × (Nat → Nat → Nat) × (Nat → Nat → Int) × (Nat → Nat → Int → Int)) (dn dm : Nat) => match u with | (r', n', z', F', Er', En', Ez', EF') => xR [11, 23] [11] [] [] N z F En Ez EF n' z' F' En' Ez' EF' ∧ (dn + xg n' ≤ xg n + 0 ∧ dm + xp n' ≤ xp n + 0) ∧ (pt_X (F 11) (z 11) (z 23) (pt_l (pt_bt pt_lo 44 (lo_pl (F 7) (F 8) (z 7).toNat 0))) (F' 11) (z' 11) (z' 23) ∧ n' 11 = 6000 ∧ Er = Er' ∧ En = En' ∧ Ez = Ez' ∧ EF = EF'))) (ws := (fun u : (Nat → Nat) × (Nat → Nat) × (Nat → Int) × (Nat → Int → Int) × (Nat → Nat → Nat) × (Nat → Nat → Nat) × (Nat → Nat → Int) × (Nat → Nat → Int → Int) => match u with | (r', n', z', F', Er', En', Ez', EF') => (xU cI cB cE o r' n' z' F' G (Eo 0 0) ++ eP cI N Eo Er' En' Ez' EF'))) (tys := xT cI cB cE) (rL2, nL2, zL2, FL2, Er, En, Ez, EF) hx hb hr hlocks rfl hP hD hK hS dX5_writeLocators_90 (fun dn dm hdn hdm => ⟨⟨hRLL2.1, hRLL2.2.1, hRLL2.2.2.1, hRLL2.2.2.2⟩, ⟨by omega, by omega⟩, ⟨(by rw [show (z 7).toNat = k.toNat by omega]; exact hXv), hnv, rfl, rfl, rfl, rfl⟩⟩) (by omega) (by omega)
      · skip
        have hpk := lo_pl_bd (A := fun y => pt_v y.1 ∧ pt_v y.2) hpv (show 0 ≤ k by omega) (show k < z 7 by omega)
        have hp7 : pt_v (F 7 k) := hpk.1
        have hp8 : pt_v (F 8 k) := hpk.2
        have hp7b := hp7.1
        have hp8b := hp8.1
        have hp7c := hp7.2.1
        have hp8c := hp8.2.1
        refine lv_iload_n hx hb dX5_writeLocators_13 rfl (lv_at hl 0 rfl) ?_
        refine ki_if_le (tgt := 26) hx hb dX5_writeLocators_14 (by decide) (by omega) (by omega) (fun c_7 => ?_) (fun c_7 => ?_)
        · skip
          refine lv_aload_n hx hb dX5_writeLocators_26 rfl (lv_at hl 1 rfl) ?_
          refine va_get (D := (dC, dI)) (ci := 5) (v := .ref (o 11)) (C := RX5) (T := TX5) (N := 16) hx hb hts kt_X5 hown hK hP 0 rfl rfl 15 (by decide) (kx_word hG kq_19_xouts_60 rfl) (fun _ h9 => h9) rfl dX5_writeLocators_27 ?_
          refine lv_aload_n hx hb dX5_writeLocators_30 rfl (lv_at hl 1 rfl) ?_
          refine va_get (D := (dC, dI)) (ci := 5) (v := .ref (o 14)) (C := RX5) (T := TX5) (N := 16) hx hb hts kt_X5 hown hK hP 0 rfl rfl 9 (by decide) (kx_word hG kq_19_xouts_0 rfl) (fun _ h9 => h9) rfl dX5_writeLocators_31 ?_
          refine lv_iload_n hx hb dX5_writeLocators_34 rfl (lv_at hl 0 rfl) ?_
          have hPc := hP.sub (ws' := (sU cI 1600 (o 14) (o 7) (o 8) (o 9) (rL2 7) (rL2 8) (rL2 9) (nL2 7) (nL2 8) (nL2 9) (zL2 7) (zL2 8) (zL2 9) (FL2 7) (FL2 8) (FL2 9))) [17, 18, 19, 20, 21, 22, 23] rfl
          refine xk_pure (va_runV (As := [.int (iz k)]) (rest := [.ref (o 11)]) ⟨hx, hb, hml, hown, hts⟩ (x_sfrom l dC dI cI cB cE 1600 (o 14) (o 7) (o 8) (o 9) (rL2 7) (rL2 8) (rL2 9) (nL2 7) (nL2 8) (nL2 9) (zL2 7) (zL2 8) (zL2 9) (FL2 7) (FL2 8) (FL2 9) k H.size (by omega) (hRLL2.1.2.2.1 7) (by omega) (hRLL2.1.2.2.1 8) (by omega) (hRLL2.1.2.2.1 9) (by omega) (by omega)) (cwV 1 hts (kx_gV kq_19_xouts_8 kq_15_xspan_56 kq_15_xspan_57 kq_15_xspan_53 kq_15_xspan_58 rfl) rfl rfl rfl (by decide +kernel) ⟨Nat.le_of_ble_eq_true rfl, Nat.le_of_ble_eq_true rfl⟩) ⟨pPre_blind, va_recv hK hPc (ci := 3) (q0 := 0) rfl rfl, pPre_give hPc hK hG⟩ rfl rfl hl.1 rfl (lv_room (Nat.le_of_ble_eq_true rfl)) dX5_writeLocators_35 ⟨show cv + 0 ≤ 100 from (by omega), show sv + 0 ≤ 42000 from (by omega)⟩) hS (fun z_9 locs hq_8 hS => ?_)
          refine W.eq (g2 := F0 m 38 ls [.int (iz z_9), .ref (o 11)]) rfl ?_
          try dsimp only at hq_8
          have e9 := congrFun (hRLL2.2.1.2 7 (by decide)) k
          have eg_10 : z_9 = F 7 k := by omega
          subst eg_10
          refine W.eq (g2 := F0 m 38 ls [.int (iz (F 7 k)), .ref (o 11)]) rfl ?_
          replace hq_8 := fun (_ : Unit) => hq_8
          have hxp_11 : 0 ≤ zL2 11 ∧ zL2 11 ≤ ((nL2 11 : Nat) : Int) ∧ (nL2 11 = 0 ∨ nL2 11 = 6000) := hRLL2.1.2.1 11 (by decide)
          have hxz_12 : -2147483648 ≤ zL2 23 ∧ zL2 23 < 2147483648 := hRLL2.1.2.2.2.1 23
          have hxb_13 : zL2 23 = 0 ∨ zL2 23 = 1 := hRLL2.1.2.2.2.2 23 (by decide)
          have hPc := hP.sub (ws' := (pU cB (o 11) (rL2 11) (nL2 11) (zL2 11) (zL2 23) (FL2 11))) [27, 28] rfl
          have hDc := hD.sub (ws' := (pU cB (o 11) (rL2 11) (nL2 11) (zL2 11) (zL2 23) (FL2 11))) [27, 28] (by decide) rfl
          have hFc := va_free (wc := (pU cB (o 11) (rL2 11) (nL2 11) (zL2 11) (zL2 23) (FL2 11))) hD hS hA [27, 28] rfl
          refine xk_call (va_runV (As := [.int (iz (F 7 k))]) (rest := []) ⟨hx, hb, hml, hown, hts⟩ (x_putPage2 l dC dI cI cB cE (o 11) (rL2 11) (nL2 11) (zL2 11) (zL2 23) (FL2 11) (F 7 k) H.size (by omega) (by omega) (hRLL2.1.2.2.1 11) (by omega) hp7 (by omega) (by omega)) (cwV 1 hts (kx_gV kq_19_xouts_61 kq_19_xouts_62 kq_19_xouts_63 kq_15_xspan_17 kq_19_xouts_64 rfl) rfl rfl rfl (by decide +kernel) ⟨Nat.le_of_ble_eq_true rfl, Nat.le_of_ble_eq_true rfl⟩) ⟨kx_blind, va_recv hK hPc (ci := 2) (q0 := 0) rfl rfl, kx_give (ws := []) (tys := []) hPc hDc hK hG hZ hS hFc⟩ rfl rfl hl.1 rfl (lv_room (Nat.le_of_ble_eq_true rfl)) dX5_writeLocators_38 ⟨show cv + 0 ≤ 100 from (by omega), show sv + 0 ≤ 42000 from (by omega)⟩) hS (fun q _ h => hFc q h) hFc (fun u dn_15 dm_16 t H locs ht hvm hq_14 hB hk1 hS => ?_)
          obtain ⟨z_17, tl_18, F_19⟩ := u
          obtain ⟨hP1, hK1, hD1⟩ := hB
          rw [ht] at hP1
          obtain ⟨hP, hD⟩ := xj_pool (wr := [(o 15, .inr (5, [.ref (o 16), .ref (Eo 0 0), .int (iz (zL2 12)), .int (iz (zL2 13)), .int (iz (zL2 14)), .ref (o 0), .ref (o 1), .int (iz (zL2 15)), .ref (o 13), .ref (o 14), .int (iz (zL2 16)), .ref (o 2), .ref (o 12), .ref (o 3), .ref (o 10), .ref (o 11)])), (o 16, .inl (cE, 80, .inr (.inr (.inr (.inr G))))), (o 0, .inr (1, [.int (iz 80), .ref (rL2 0), .int (iz (zL2 0))])), (rL2 0, .inl (cI, nL2 0, .inl (iA (FL2 0)))), (o 1, .inr (1, [.int (iz 80), .ref (rL2 1), .int (iz (zL2 1))])), (rL2 1, .inl (cI, nL2 1, .inl (iA (FL2 1)))), (o 2, .inr (1, [.int (iz 80), .ref (rL2 2), .int (iz (zL2 2))])), (rL2 2, .inl (cI, nL2 2, .inl (iA (FL2 2)))), (o 3, .inr (1, [.int (iz 80), .ref (rL2 3), .int (iz (zL2 3))])), (rL2 3, .inl (cI, nL2 3, .inl (iA (FL2 3)))), (o 13, .inr (3, [.ref (o 4), .ref (o 5), .ref (o 6)])), (o 4, .inr (1, [.int (iz 1600), .ref (rL2 4), .int (iz (zL2 4))])), (rL2 4, .inl (cI, nL2 4, .inl (iA (FL2 4)))), (o 5, .inr (1, [.int (iz 1600), .ref (rL2 5), .int (iz (zL2 5))])), (rL2 5, .inl (cI, nL2 5, .inl (iA (FL2 5)))), (o 6, .inr (1, [.int (iz 1600), .ref (rL2 6), .int (iz (zL2 6))])), (rL2 6, .inl (cI, nL2 6, .inl (iA (FL2 6)))), (o 14, .inr (3, [.ref (o 7), .ref (o 8), .ref (o 9)])), (o 7, .inr (1, [.int (iz 1600), .ref (rL2 7), .int (iz (zL2 7))])), (rL2 7, .inl (cI, nL2 7, .inl (iA (FL2 7)))), (o 8, .inr (1, [.int (iz 1600), .ref (rL2 8), .int (iz (zL2 8))])), (rL2 8, .inl (cI, nL2 8, .inl (iA (FL2 8)))), (o 9, .inr (1, [.int (iz 1600), .ref (rL2 9), .int (iz (zL2 9))])), (rL2 9, .inl (cI, nL2 9, .inl (iA (FL2 9)))), (o 12, .inr (4, [.int (iz (zL2 17)), .int (iz (zL2 18)), .int (iz (zL2 19)), .int (iz (zL2 20)), .int (iz (zL2 21))])), (o 10, .inr (2, [.ref (rL2 10), .int (iz (zL2 10)), .int (iz (zL2 22))])), (rL2 10, .inl (cB, nL2 10, .inl (iA (FL2 10))))]) (w1 := (pU cB (o 11) (rL2 11) (nL2 11) z_17 tl_18 F_19)) (ws' := (xU cI cB cE o rL2 nL2 (va_up (va_up zL2 11 z_17) 23 tl_18) (va_up FL2 11 F_19) G (Eo 0 0))) hP hD [27, 28] [0, 1, 2, 3, 4, 5, 6, 7, 8, 9, 10, 11, 12, 13, 14, 15, 16, 17, 18, 19, 20, 21, 22, 23, 24, 25, 26] [0, 1, 2, 3, 4, 5, 6, 7, 8, 9, 10, 11, 12, 13, 14, 15, 16, 17, 18, 19, 20, 21, 22, 23, 24, 25, 26, 27, 28] rfl rfl (by decide) (by decide) hk1 hFc hP1 hD1 rfl (by decide)
          refine W.eq (g2 := F0 m 41 ls []) rfl ?_
          try dsimp only at hq_14
          obtain ⟨hd20, hm20, hz20, ht20, hF20, hX20⟩ := hq_14
          subst hd20
          subst hm20
          have hY20 := pt_X_app hXv hX20
          refine lv_aload_n hx hb dX5_writeLocators_41 rfl (lv_at hl 1 rfl) ?_
          refine va_get (D := (dC, dI)) (ci := 5) (v := .ref (o 14)) (C := RX5) (T := TX5) (N := 16) hx hb hts kt_X5 hown hK hP 0 rfl rfl 9 (by decide) (kx_word hG kq_19_xouts_0 rfl) (fun _ h9 => h9) rfl dX5_writeLocators_42 ?_
          refine lv_iload_n hx hb dX5_writeLocators_45 rfl (lv_at hl 0 rfl) ?_
          have hPc := hP.sub (ws' := (sU cI 1600 (o 14) (o 7) (o 8) (o 9) (rL2 7) (rL2 8) (rL2 9) (nL2 7) (nL2 8) (nL2 9) (zL2 7) (zL2 8) (zL2 9) (FL2 7) (FL2 8) (FL2 9))) [17, 18, 19, 20, 21, 22, 23] rfl
          refine xk_pure (va_runV (As := [.int (iz k)]) (rest := []) ⟨hx, hb, hml, hown, hts⟩ (x_sto l dC dI cI cB cE 1600 (o 14) (o 7) (o 8) (o 9) (rL2 7) (rL2 8) (rL2 9) (nL2 7) (nL2 8) (nL2 9) (zL2 7) (zL2 8) (zL2 9) (FL2 7) (FL2 8) (FL2 9) k H.size (by omega) (hRLL2.1.2.2.1 7) (by omega) (hRLL2.1.2.2.1 8) (by omega) (hRLL2.1.2.2.1 9) (by omega) (by omega)) (cwV 1 hts (kx_gV kq_19_xouts_9 kq_15_xspan_64 kq_15_xspan_65 kq_15_xspan_53 kq_15_xspan_66 rfl) rfl rfl rfl (by decide +kernel) ⟨Nat.le_of_ble_eq_true rfl, Nat.le_of_ble_eq_true rfl⟩) ⟨pPre_blind, va_recv hK hPc (ci := 3) (q0 := 0) rfl rfl, pPre_give hPc hK hG⟩ rfl rfl hl.1 rfl (lv_room (Nat.le_of_ble_eq_true rfl)) dX5_writeLocators_46 ⟨show (cv + 0) + 0 ≤ 100 from (by omega), show (sv + 0) + 0 ≤ 42000 from (by omega)⟩) hS (fun z_22 locs hq_21 hS => ?_)
          refine W.eq (g2 := F0 m 49 ls [.int (iz z_22)]) rfl ?_
          try dsimp only at hq_21
          have e9 := congrFun (hRLL2.2.1.2 8 (by decide)) k
          have eg_23 : z_22 = F 8 k := by omega
          subst eg_23
          refine W.eq (g2 := F0 m 49 ls [.int (iz (F 8 k))]) rfl ?_
          replace hq_21 := fun (_ : Unit) => hq_21
          refine lv_aload_n hx hb dX5_writeLocators_49 rfl (lv_at hl 1 rfl) ?_
          refine va_get (D := (dC, dI)) (ci := 5) (v := .ref (o 14)) (C := RX5) (T := TX5) (N := 16) hx hb hts kt_X5 hown hK hP 0 rfl rfl 9 (by decide) (kx_word hG kq_19_xouts_0 rfl) (fun _ h9 => h9) rfl dX5_writeLocators_50 ?_
          refine lv_iload_n hx hb dX5_writeLocators_53 rfl (lv_at hl 0 rfl) ?_
          have hPc := hP.sub (ws' := (sU cI 1600 (o 14) (o 7) (o 8) (o 9) (rL2 7) (rL2 8) (rL2 9) (nL2 7) (nL2 8) (nL2 9) (zL2 7) (zL2 8) (zL2 9) (FL2 7) (FL2 8) (FL2 9))) [17, 18, 19, 20, 21, 22, 23] rfl
          refine xk_pure (va_runV (As := [.int (iz k)]) (rest := [.int (iz (F 8 k))]) ⟨hx, hb, hml, hown, hts⟩ (x_sfrom l dC dI cI cB cE 1600 (o 14) (o 7) (o 8) (o 9) (rL2 7) (rL2 8) (rL2 9) (nL2 7) (nL2 8) (nL2 9) (zL2 7) (zL2 8) (zL2 9) (FL2 7) (FL2 8) (FL2 9) k H.size (by omega) (hRLL2.1.2.2.1 7) (by omega) (hRLL2.1.2.2.1 8) (by omega) (hRLL2.1.2.2.1 9) (by omega) (by omega)) (cwV 1 hts (kx_gV kq_19_xouts_8 kq_15_xspan_56 kq_15_xspan_57 kq_15_xspan_53 kq_15_xspan_58 rfl) rfl rfl rfl (by decide +kernel) ⟨Nat.le_of_ble_eq_true rfl, Nat.le_of_ble_eq_true rfl⟩) ⟨pPre_blind, va_recv hK hPc (ci := 3) (q0 := 0) rfl rfl, pPre_give hPc hK hG⟩ rfl rfl hl.1 rfl (lv_room (Nat.le_of_ble_eq_true rfl)) dX5_writeLocators_54 ⟨show (cv + 0) + 0 ≤ 100 from (by omega), show (sv + 0) + 0 ≤ 42000 from (by omega)⟩) hS (fun z_25 locs hq_24 hS => ?_)
          refine W.eq (g2 := F0 m 57 ls [.int (iz z_25), .int (iz (F 8 k))]) rfl ?_
          try dsimp only at hq_24
          have e9 := congrFun (hRLL2.2.1.2 7 (by decide)) k
          have eg_26 : z_25 = F 7 k := by omega
          subst eg_26
          refine W.eq (g2 := F0 m 57 ls [.int (iz (F 7 k)), .int (iz (F 8 k))]) rfl ?_
          replace hq_24 := fun (_ : Unit) => hq_24
          refine ki_icmp_eq (tgt := 84) hx hb dX5_writeLocators_57 (by decide) (by omega) (by omega) (by omega) (by omega) (fun c_27 => ?_) (fun c_27 => ?_)
          · skip
            refine lv_iinc (v := iz (k + 1)) (lv' := [(1, .int (iz (k + 1))), (0, .ref (o 15))]) hx hb dX5_writeLocators_84 hl (k := 0) rfl (iz_add k 1) (by decide) rfl (fun ls hl => ?_)
            refine lv_goto (tgt := 2) hx hb dX5_writeLocators_87 (by decide) ?_
            have hok28 : xOk (va_up nL2 11 (nL2 11)) (va_up (va_up zL2 11 z_17) 23 tl_18) (va_up FL2 11 F_19) := ((hRLL2.1.p 11 (by decide) (show 0 ≤ z_17 ∧ z_17 ≤ ((nL2 11 : Nat) : Int) ∧ (nL2 11 = 0 ∨ nL2 11 = 6000) by omega) hF20).s 23 (by decide) (show -2147483648 ≤ tl_18 ∧ tl_18 < 2147483648 by omega) (by omega))
            have hfr28 : xFr [11, 23] [11] z F (va_up (va_up zL2 11 z_17) 23 tl_18) (va_up FL2 11 F_19) := (((hRLL2.2.1.uz 11 (by decide) _).uz 23 (by decide) _).uf 11 (by decide) _)
            have hcg28 : (0) + xg (va_up nL2 11 (nL2 11)) ≤ xg nL2 := by unfold xg; simp (decide := true) only [va_ev, ↓reduceIte]; omega
            have hcp28 : (0) + xp (va_up nL2 11 (nL2 11)) ≤ xp nL2 := by unfold xp; simp (decide := true) only [va_ev, ↓reduceIte]; omega
            exact ih2 (k + 1) rL2 (va_up nL2 11 (nL2 11)) (va_up (va_up zL2 11 z_17) 23 tl_18) (va_up FL2 11 F_19) (cv + 0) (sv + 0) ⟨⟨hok28, hfr28, hRLL2.2.2.1, hRLL2.2.2.2⟩, ⟨by omega, by omega⟩, (show zL2 12 = z 12 by omega), by omega, (show nL2 11 = 6000 by omega), (pt_X_eq hY20 (by rw [lo_pl_add (F1 := F 7) (F2 := F 8) (show 0 ≤ k by omega) (fun _ _ _ => rfl) (fun _ _ _ => rfl) rfl rfl, pt_bt_k]; rw [show k.toNat = 0 by omega]; rw [if_pos (show lo_pl (F 7) (F 8) 0 0 = [] from rfl)]; rw [pt_lo_1 (show F 8 k = F 7 k by omega)]; simp only [List.append_assoc, List.nil_append, List.append_nil]; try rfl))⟩ (by omega) _ _ hP hD hS ls (lv_sub hl [0, 1] rfl)
          · skip
            refine lv_aload_n hx hb dX5_writeLocators_60 rfl (lv_at hl 1 rfl) ?_
            refine va_get (D := (dC, dI)) (ci := 5) (v := .ref (o 11)) (C := RX5) (T := TX5) (N := 16) hx hb hts kt_X5 hown hK hP 0 rfl rfl 15 (by decide) (kx_word hG kq_19_xouts_60 rfl) (fun _ h9 => h9) rfl dX5_writeLocators_61 ?_
            refine lv_bipush (v := iz 45) hx hb dX5_writeLocators_64 (by decide) ?_
            have hPc := hP.sub (ws' := (pU cB (o 11) (rL2 11) (nL2 11) z_17 tl_18 F_19)) [27, 28] rfl
            have hDc := hD.sub (ws' := (pU cB (o 11) (rL2 11) (nL2 11) z_17 tl_18 F_19)) [27, 28] (by decide) rfl
            have hFc := va_free (wc := (pU cB (o 11) (rL2 11) (nL2 11) z_17 tl_18 F_19)) hD hS hA [27, 28] rfl
            refine xk_call (va_runV (As := [.int (iz 45)]) (rest := []) ⟨hx, hb, hml, hown, hts⟩ (x_put2 l dC dI cI cB cE (o 11) (rL2 11) (nL2 11) z_17 tl_18 F_19 45 H.size (by omega) (by omega) hF20 (by omega) (by omega) (by omega)) (cwV 1 hts (kx_gV kq_19_xouts_65 kq_15_xspan_15 kq_15_xspan_16 kq_15_xspan_17 kq_15_xspan_18 rfl) rfl rfl rfl (by decide +kernel) ⟨Nat.le_of_ble_eq_true rfl, Nat.le_of_ble_eq_true rfl⟩) ⟨kx_blind, va_recv hK hPc (ci := 2) (q0 := 0) rfl rfl, kx_give (ws := []) (tys := []) hPc hDc hK hG hZ hS hFc⟩ rfl rfl hl.1 rfl (lv_room (Nat.le_of_ble_eq_true rfl)) dX5_writeLocators_66 ⟨show (cv + 0) + 0 ≤ 100 from (by omega), show (sv + 0) + 0 ≤ 42000 from (by omega)⟩) hS (fun q _ h => hFc q h) hFc (fun u dn_30 dm_31 t H locs ht hvm hq_29 hB hk1 hS => ?_)
            obtain ⟨z_32, tl_33, F_34⟩ := u
            obtain ⟨hP1, hK1, hD1⟩ := hB
            rw [ht] at hP1
            obtain ⟨hP, hD⟩ := xj_pool (wr := [(o 15, .inr (5, [.ref (o 16), .ref (Eo 0 0), .int (iz (zL2 12)), .int (iz (zL2 13)), .int (iz (zL2 14)), .ref (o 0), .ref (o 1), .int (iz (zL2 15)), .ref (o 13), .ref (o 14), .int (iz (zL2 16)), .ref (o 2), .ref (o 12), .ref (o 3), .ref (o 10), .ref (o 11)])), (o 16, .inl (cE, 80, .inr (.inr (.inr (.inr G))))), (o 0, .inr (1, [.int (iz 80), .ref (rL2 0), .int (iz (zL2 0))])), (rL2 0, .inl (cI, nL2 0, .inl (iA (FL2 0)))), (o 1, .inr (1, [.int (iz 80), .ref (rL2 1), .int (iz (zL2 1))])), (rL2 1, .inl (cI, nL2 1, .inl (iA (FL2 1)))), (o 2, .inr (1, [.int (iz 80), .ref (rL2 2), .int (iz (zL2 2))])), (rL2 2, .inl (cI, nL2 2, .inl (iA (FL2 2)))), (o 3, .inr (1, [.int (iz 80), .ref (rL2 3), .int (iz (zL2 3))])), (rL2 3, .inl (cI, nL2 3, .inl (iA (FL2 3)))), (o 13, .inr (3, [.ref (o 4), .ref (o 5), .ref (o 6)])), (o 4, .inr (1, [.int (iz 1600), .ref (rL2 4), .int (iz (zL2 4))])), (rL2 4, .inl (cI, nL2 4, .inl (iA (FL2 4)))), (o 5, .inr (1, [.int (iz 1600), .ref (rL2 5), .int (iz (zL2 5))])), (rL2 5, .inl (cI, nL2 5, .inl (iA (FL2 5)))), (o 6, .inr (1, [.int (iz 1600), .ref (rL2 6), .int (iz (zL2 6))])), (rL2 6, .inl (cI, nL2 6, .inl (iA (FL2 6)))), (o 14, .inr (3, [.ref (o 7), .ref (o 8), .ref (o 9)])), (o 7, .inr (1, [.int (iz 1600), .ref (rL2 7), .int (iz (zL2 7))])), (rL2 7, .inl (cI, nL2 7, .inl (iA (FL2 7)))), (o 8, .inr (1, [.int (iz 1600), .ref (rL2 8), .int (iz (zL2 8))])), (rL2 8, .inl (cI, nL2 8, .inl (iA (FL2 8)))), (o 9, .inr (1, [.int (iz 1600), .ref (rL2 9), .int (iz (zL2 9))])), (rL2 9, .inl (cI, nL2 9, .inl (iA (FL2 9)))), (o 12, .inr (4, [.int (iz (zL2 17)), .int (iz (zL2 18)), .int (iz (zL2 19)), .int (iz (zL2 20)), .int (iz (zL2 21))])), (o 10, .inr (2, [.ref (rL2 10), .int (iz (zL2 10)), .int (iz (zL2 22))])), (rL2 10, .inl (cB, nL2 10, .inl (iA (FL2 10))))]) (w1 := (pU cB (o 11) (rL2 11) (nL2 11) z_32 tl_33 F_34)) (ws' := (xU cI cB cE o rL2 nL2 (va_up (va_up zL2 11 z_32) 23 tl_33) (va_up FL2 11 F_34) G (Eo 0 0))) hP hD [27, 28] [0, 1, 2, 3, 4, 5, 6, 7, 8, 9, 10, 11, 12, 13, 14, 15, 16, 17, 18, 19, 20, 21, 22, 23, 24, 25, 26] [0, 1, 2, 3, 4, 5, 6, 7, 8, 9, 10, 11, 12, 13, 14, 15, 16, 17, 18, 19, 20, 21, 22, 23, 24, 25, 26, 27, 28] rfl rfl (by decide) (by decide) hk1 hFc hP1 hD1 rfl (by decide)
            refine W.eq (g2 := F0 m 69 ls []) rfl ?_
            try dsimp only at hq_29
            obtain ⟨hd35, hm35, hz35, ht35, hF35, hX35⟩ := hq_29
            subst hd35
            subst hm35
            have hY35 := pt_X_app hY20 hX35
            refine lv_aload_n hx hb dX5_writeLocators_69 rfl (lv_at hl 1 rfl) ?_
            refine va_get (D := (dC, dI)) (ci := 5) (v := .ref (o 11)) (C := RX5) (T := TX5) (N := 16) hx hb hts kt_X5 hown hK hP 0 rfl rfl 15 (by decide) (kx_word hG kq_19_xouts_60 rfl) (fun _ h9 => h9) rfl dX5_writeLocators_70 ?_
            refine lv_aload_n hx hb dX5_writeLocators_73 rfl (lv_at hl 1 rfl) ?_
            refine va_get (D := (dC, dI)) (ci := 5) (v := .ref (o 14)) (C := RX5) (T := TX5) (N := 16) hx hb hts kt_X5 hown hK hP 0 rfl rfl 9 (by decide) (kx_word hG kq_19_xouts_0 rfl) (fun _ h9 => h9) rfl dX5_writeLocators_74 ?_
            refine lv_iload_n hx hb dX5_writeLocators_77 rfl (lv_at hl 0 rfl) ?_
            have hPc := hP.sub (ws' := (sU cI 1600 (o 14) (o 7) (o 8) (o 9) (rL2 7) (rL2 8) (rL2 9) (nL2 7) (nL2 8) (nL2 9) (zL2 7) (zL2 8) (zL2 9) (FL2 7) (FL2 8) (FL2 9))) [17, 18, 19, 20, 21, 22, 23] rfl
            refine xk_pure (va_runV (As := [.int (iz k)]) (rest := [.ref (o 11)]) ⟨hx, hb, hml, hown, hts⟩ (x_sto l dC dI cI cB cE 1600 (o 14) (o 7) (o 8) (o 9) (rL2 7) (rL2 8) (rL2 9) (nL2 7) (nL2 8) (nL2 9) (zL2 7) (zL2 8) (zL2 9) (FL2 7) (FL2 8) (FL2 9) k H.size (by omega) (hRLL2.1.2.2.1 7) (by omega) (hRLL2.1.2.2.1 8) (by omega) (hRLL2.1.2.2.1 9) (by omega) (by omega)) (cwV 1 hts (kx_gV kq_19_xouts_9 kq_15_xspan_64 kq_15_xspan_65 kq_15_xspan_53 kq_15_xspan_66 rfl) rfl rfl rfl (by decide +kernel) ⟨Nat.le_of_ble_eq_true rfl, Nat.le_of_ble_eq_true rfl⟩) ⟨pPre_blind, va_recv hK hPc (ci := 3) (q0 := 0) rfl rfl, pPre_give hPc hK hG⟩ rfl rfl hl.1 rfl (lv_room (Nat.le_of_ble_eq_true rfl)) dX5_writeLocators_78 ⟨show ((cv + 0) + 0) + 0 ≤ 100 from (by omega), show ((sv + 0) + 0) + 0 ≤ 42000 from (by omega)⟩) hS (fun z_37 locs hq_36 hS => ?_)
            refine W.eq (g2 := F0 m 81 ls [.int (iz z_37), .ref (o 11)]) rfl ?_
            try dsimp only at hq_36
            have e9 := congrFun (hRLL2.2.1.2 8 (by decide)) k
            have eg_38 : z_37 = F 8 k := by omega
            subst eg_38
            refine W.eq (g2 := F0 m 81 ls [.int (iz (F 8 k)), .ref (o 11)]) rfl ?_
            replace hq_36 := fun (_ : Unit) => hq_36
            have hPc := hP.sub (ws' := (pU cB (o 11) (rL2 11) (nL2 11) z_32 tl_33 F_34)) [27, 28] rfl
            have hDc := hD.sub (ws' := (pU cB (o 11) (rL2 11) (nL2 11) z_32 tl_33 F_34)) [27, 28] (by decide) rfl
            have hFc := va_free (wc := (pU cB (o 11) (rL2 11) (nL2 11) z_32 tl_33 F_34)) hD hS hA [27, 28] rfl
            refine xk_call (va_runV (As := [.int (iz (F 8 k))]) (rest := []) ⟨hx, hb, hml, hown, hts⟩ (x_putPage2 l dC dI cI cB cE (o 11) (rL2 11) (nL2 11) z_32 tl_33 F_34 (F 8 k) H.size (by omega) (by omega) hF35 (by omega) hp8 (by omega) (by omega)) (cwV 1 hts (kx_gV kq_19_xouts_61 kq_19_xouts_62 kq_19_xouts_63 kq_15_xspan_17 kq_19_xouts_64 rfl) rfl rfl rfl (by decide +kernel) ⟨Nat.le_of_ble_eq_true rfl, Nat.le_of_ble_eq_true rfl⟩) ⟨kx_blind, va_recv hK hPc (ci := 2) (q0 := 0) rfl rfl, kx_give (ws := []) (tys := []) hPc hDc hK hG hZ hS hFc⟩ rfl rfl hl.1 rfl (lv_room (Nat.le_of_ble_eq_true rfl)) dX5_writeLocators_81 ⟨show ((cv + 0) + 0) + 0 ≤ 100 from (by omega), show ((sv + 0) + 0) + 0 ≤ 42000 from (by omega)⟩) hS (fun q _ h => hFc q h) hFc (fun u dn_40 dm_41 t H locs ht hvm hq_39 hB hk1 hS => ?_)
            obtain ⟨z_42, tl_43, F_44⟩ := u
            obtain ⟨hP1, hK1, hD1⟩ := hB
            rw [ht] at hP1
            obtain ⟨hP, hD⟩ := xj_pool (wr := [(o 15, .inr (5, [.ref (o 16), .ref (Eo 0 0), .int (iz (zL2 12)), .int (iz (zL2 13)), .int (iz (zL2 14)), .ref (o 0), .ref (o 1), .int (iz (zL2 15)), .ref (o 13), .ref (o 14), .int (iz (zL2 16)), .ref (o 2), .ref (o 12), .ref (o 3), .ref (o 10), .ref (o 11)])), (o 16, .inl (cE, 80, .inr (.inr (.inr (.inr G))))), (o 0, .inr (1, [.int (iz 80), .ref (rL2 0), .int (iz (zL2 0))])), (rL2 0, .inl (cI, nL2 0, .inl (iA (FL2 0)))), (o 1, .inr (1, [.int (iz 80), .ref (rL2 1), .int (iz (zL2 1))])), (rL2 1, .inl (cI, nL2 1, .inl (iA (FL2 1)))), (o 2, .inr (1, [.int (iz 80), .ref (rL2 2), .int (iz (zL2 2))])), (rL2 2, .inl (cI, nL2 2, .inl (iA (FL2 2)))), (o 3, .inr (1, [.int (iz 80), .ref (rL2 3), .int (iz (zL2 3))])), (rL2 3, .inl (cI, nL2 3, .inl (iA (FL2 3)))), (o 13, .inr (3, [.ref (o 4), .ref (o 5), .ref (o 6)])), (o 4, .inr (1, [.int (iz 1600), .ref (rL2 4), .int (iz (zL2 4))])), (rL2 4, .inl (cI, nL2 4, .inl (iA (FL2 4)))), (o 5, .inr (1, [.int (iz 1600), .ref (rL2 5), .int (iz (zL2 5))])), (rL2 5, .inl (cI, nL2 5, .inl (iA (FL2 5)))), (o 6, .inr (1, [.int (iz 1600), .ref (rL2 6), .int (iz (zL2 6))])), (rL2 6, .inl (cI, nL2 6, .inl (iA (FL2 6)))), (o 14, .inr (3, [.ref (o 7), .ref (o 8), .ref (o 9)])), (o 7, .inr (1, [.int (iz 1600), .ref (rL2 7), .int (iz (zL2 7))])), (rL2 7, .inl (cI, nL2 7, .inl (iA (FL2 7)))), (o 8, .inr (1, [.int (iz 1600), .ref (rL2 8), .int (iz (zL2 8))])), (rL2 8, .inl (cI, nL2 8, .inl (iA (FL2 8)))), (o 9, .inr (1, [.int (iz 1600), .ref (rL2 9), .int (iz (zL2 9))])), (rL2 9, .inl (cI, nL2 9, .inl (iA (FL2 9)))), (o 12, .inr (4, [.int (iz (zL2 17)), .int (iz (zL2 18)), .int (iz (zL2 19)), .int (iz (zL2 20)), .int (iz (zL2 21))])), (o 10, .inr (2, [.ref (rL2 10), .int (iz (zL2 10)), .int (iz (zL2 22))])), (rL2 10, .inl (cB, nL2 10, .inl (iA (FL2 10))))]) (w1 := (pU cB (o 11) (rL2 11) (nL2 11) z_42 tl_43 F_44)) (ws' := (xU cI cB cE o rL2 nL2 (va_up (va_up zL2 11 z_42) 23 tl_43) (va_up FL2 11 F_44) G (Eo 0 0))) hP hD [27, 28] [0, 1, 2, 3, 4, 5, 6, 7, 8, 9, 10, 11, 12, 13, 14, 15, 16, 17, 18, 19, 20, 21, 22, 23, 24, 25, 26] [0, 1, 2, 3, 4, 5, 6, 7, 8, 9, 10, 11, 12, 13, 14, 15, 16, 17, 18, 19, 20, 21, 22, 23, 24, 25, 26, 27, 28] rfl rfl (by decide) (by decide) hk1 hFc hP1 hD1 rfl (by decide)
            refine W.eq (g2 := F0 m 84 ls []) rfl ?_
            try dsimp only at hq_39
            obtain ⟨hd45, hm45, hz45, ht45, hF45, hX45⟩ := hq_39
            subst hd45
            subst hm45
            have hY45 := pt_X_app hY35 hX45
            refine lv_iinc (v := iz (k + 1)) (lv' := [(1, .int (iz (k + 1))), (0, .ref (o 15))]) hx hb dX5_writeLocators_84 hl (k := 0) rfl (iz_add k 1) (by decide) rfl (fun ls hl => ?_)
            refine lv_goto (tgt := 2) hx hb dX5_writeLocators_87 (by decide) ?_
            have hok46 : xOk (va_up nL2 11 (nL2 11)) (va_up (va_up zL2 11 z_42) 23 tl_43) (va_up FL2 11 F_44) := ((hRLL2.1.p 11 (by decide) (show 0 ≤ z_42 ∧ z_42 ≤ ((nL2 11 : Nat) : Int) ∧ (nL2 11 = 0 ∨ nL2 11 = 6000) by omega) hF45).s 23 (by decide) (show -2147483648 ≤ tl_43 ∧ tl_43 < 2147483648 by omega) (by omega))
            have hfr46 : xFr [11, 23] [11] z F (va_up (va_up zL2 11 z_42) 23 tl_43) (va_up FL2 11 F_44) := (((hRLL2.2.1.uz 11 (by decide) _).uz 23 (by decide) _).uf 11 (by decide) _)
            have hcg46 : (0) + xg (va_up nL2 11 (nL2 11)) ≤ xg nL2 := by unfold xg; simp (decide := true) only [va_ev, ↓reduceIte]; omega
            have hcp46 : (0) + xp (va_up nL2 11 (nL2 11)) ≤ xp nL2 := by unfold xp; simp (decide := true) only [va_ev, ↓reduceIte]; omega
            exact ih2 (k + 1) rL2 (va_up nL2 11 (nL2 11)) (va_up (va_up zL2 11 z_42) 23 tl_43) (va_up FL2 11 F_44) (((cv + 0) + 0) + 0) (((sv + 0) + 0) + 0) ⟨⟨hok46, hfr46, hRLL2.2.2.1, hRLL2.2.2.2⟩, ⟨by omega, by omega⟩, (show zL2 12 = z 12 by omega), by omega, (show nL2 11 = 6000 by omega), (pt_X_eq hY45 (by rw [lo_pl_add (F1 := F 7) (F2 := F 8) (show 0 ≤ k by omega) (fun _ _ _ => rfl) (fun _ _ _ => rfl) rfl rfl, pt_bt_k]; rw [show k.toNat = 0 by omega]; rw [if_pos (show lo_pl (F 7) (F 8) 0 0 = [] from rfl)]; rw [pt_lo_2 (show ¬ F 8 k = F 7 k by omega), pt_l_app]; simp only [List.append_assoc, List.nil_append, List.append_nil]; try rfl))⟩ (by omega) _ _ hP hD hS ls (lv_sub hl [0, 1] rfl)
        · skip
          refine lv_aload_n hx hb dX5_writeLocators_17 rfl (lv_at hl 1 rfl) ?_
          refine va_get (D := (dC, dI)) (ci := 5) (v := .ref (o 11)) (C := RX5) (T := TX5) (N := 16) hx hb hts kt_X5 hown hK hP 0 rfl rfl 15 (by decide) (kx_word hG kq_19_xouts_60 rfl) (fun _ h9 => h9) rfl dX5_writeLocators_18 ?_
          refine lv_bipush (v := iz 44) hx hb dX5_writeLocators_21 (by decide) ?_
          have hxp_47 : 0 ≤ zL2 11 ∧ zL2 11 ≤ ((nL2 11 : Nat) : Int) ∧ (nL2 11 = 0 ∨ nL2 11 = 6000) := hRLL2.1.2.1 11 (by decide)
          have hxz_48 : -2147483648 ≤ zL2 23 ∧ zL2 23 < 2147483648 := hRLL2.1.2.2.2.1 23
          have hxb_49 : zL2 23 = 0 ∨ zL2 23 = 1 := hRLL2.1.2.2.2.2 23 (by decide)
          have hPc := hP.sub (ws' := (pU cB (o 11) (rL2 11) (nL2 11) (zL2 11) (zL2 23) (FL2 11))) [27, 28] rfl
          have hDc := hD.sub (ws' := (pU cB (o 11) (rL2 11) (nL2 11) (zL2 11) (zL2 23) (FL2 11))) [27, 28] (by decide) rfl
          have hFc := va_free (wc := (pU cB (o 11) (rL2 11) (nL2 11) (zL2 11) (zL2 23) (FL2 11))) hD hS hA [27, 28] rfl
          refine xk_call (va_runV (As := [.int (iz 44)]) (rest := []) ⟨hx, hb, hml, hown, hts⟩ (x_putBetween2 l dC dI cI cB cE (o 11) (rL2 11) (nL2 11) (zL2 11) (zL2 23) (FL2 11) 44 H.size (by omega) (by omega) (hRLL2.1.2.2.1 11) (by omega) (by omega) (by omega)) (cwV 1 hts (kx_gV kq_19_xouts_66 kq_19_xouts_67 kq_19_xouts_68 kq_15_xspan_17 kq_19_xouts_69 rfl) rfl rfl rfl (by decide +kernel) ⟨Nat.le_of_ble_eq_true rfl, Nat.le_of_ble_eq_true rfl⟩) ⟨kx_blind, va_recv hK hPc (ci := 2) (q0 := 0) rfl rfl, kx_give (ws := []) (tys := []) hPc hDc hK hG hZ hS hFc⟩ rfl rfl hl.1 rfl (lv_room (Nat.le_of_ble_eq_true rfl)) dX5_writeLocators_23 ⟨show cv + 0 ≤ 100 from (by omega), show sv + 0 ≤ 42000 from (by omega)⟩) hS (fun q _ h => hFc q h) hFc (fun u dn_51 dm_52 t H locs ht hvm hq_50 hB hk1 hS => ?_)
          obtain ⟨z_53, tl_54, F_55⟩ := u
          obtain ⟨hP1, hK1, hD1⟩ := hB
          rw [ht] at hP1
          obtain ⟨hP, hD⟩ := xj_pool (wr := [(o 15, .inr (5, [.ref (o 16), .ref (Eo 0 0), .int (iz (zL2 12)), .int (iz (zL2 13)), .int (iz (zL2 14)), .ref (o 0), .ref (o 1), .int (iz (zL2 15)), .ref (o 13), .ref (o 14), .int (iz (zL2 16)), .ref (o 2), .ref (o 12), .ref (o 3), .ref (o 10), .ref (o 11)])), (o 16, .inl (cE, 80, .inr (.inr (.inr (.inr G))))), (o 0, .inr (1, [.int (iz 80), .ref (rL2 0), .int (iz (zL2 0))])), (rL2 0, .inl (cI, nL2 0, .inl (iA (FL2 0)))), (o 1, .inr (1, [.int (iz 80), .ref (rL2 1), .int (iz (zL2 1))])), (rL2 1, .inl (cI, nL2 1, .inl (iA (FL2 1)))), (o 2, .inr (1, [.int (iz 80), .ref (rL2 2), .int (iz (zL2 2))])), (rL2 2, .inl (cI, nL2 2, .inl (iA (FL2 2)))), (o 3, .inr (1, [.int (iz 80), .ref (rL2 3), .int (iz (zL2 3))])), (rL2 3, .inl (cI, nL2 3, .inl (iA (FL2 3)))), (o 13, .inr (3, [.ref (o 4), .ref (o 5), .ref (o 6)])), (o 4, .inr (1, [.int (iz 1600), .ref (rL2 4), .int (iz (zL2 4))])), (rL2 4, .inl (cI, nL2 4, .inl (iA (FL2 4)))), (o 5, .inr (1, [.int (iz 1600), .ref (rL2 5), .int (iz (zL2 5))])), (rL2 5, .inl (cI, nL2 5, .inl (iA (FL2 5)))), (o 6, .inr (1, [.int (iz 1600), .ref (rL2 6), .int (iz (zL2 6))])), (rL2 6, .inl (cI, nL2 6, .inl (iA (FL2 6)))), (o 14, .inr (3, [.ref (o 7), .ref (o 8), .ref (o 9)])), (o 7, .inr (1, [.int (iz 1600), .ref (rL2 7), .int (iz (zL2 7))])), (rL2 7, .inl (cI, nL2 7, .inl (iA (FL2 7)))), (o 8, .inr (1, [.int (iz 1600), .ref (rL2 8), .int (iz (zL2 8))])), (rL2 8, .inl (cI, nL2 8, .inl (iA (FL2 8)))), (o 9, .inr (1, [.int (iz 1600), .ref (rL2 9), .int (iz (zL2 9))])), (rL2 9, .inl (cI, nL2 9, .inl (iA (FL2 9)))), (o 12, .inr (4, [.int (iz (zL2 17)), .int (iz (zL2 18)), .int (iz (zL2 19)), .int (iz (zL2 20)), .int (iz (zL2 21))])), (o 10, .inr (2, [.ref (rL2 10), .int (iz (zL2 10)), .int (iz (zL2 22))])), (rL2 10, .inl (cB, nL2 10, .inl (iA (FL2 10))))]) (w1 := (pU cB (o 11) (rL2 11) (nL2 11) z_53 tl_54 F_55)) (ws' := (xU cI cB cE o rL2 nL2 (va_up (va_up zL2 11 z_53) 23 tl_54) (va_up FL2 11 F_55) G (Eo 0 0))) hP hD [27, 28] [0, 1, 2, 3, 4, 5, 6, 7, 8, 9, 10, 11, 12, 13, 14, 15, 16, 17, 18, 19, 20, 21, 22, 23, 24, 25, 26] [0, 1, 2, 3, 4, 5, 6, 7, 8, 9, 10, 11, 12, 13, 14, 15, 16, 17, 18, 19, 20, 21, 22, 23, 24, 25, 26, 27, 28] rfl rfl (by decide) (by decide) hk1 hFc hP1 hD1 rfl (by decide)
          refine W.eq (g2 := F0 m 26 ls []) rfl ?_
          try dsimp only at hq_50
          obtain ⟨hd56, hm56, hz56, ht56, hF56, hX56⟩ := hq_50
          subst hd56
          subst hm56
          have hY56 := pt_X_app hXv hX56
          refine lv_aload_n hx hb dX5_writeLocators_26 rfl (lv_at hl 1 rfl) ?_
          refine va_get (D := (dC, dI)) (ci := 5) (v := .ref (o 11)) (C := RX5) (T := TX5) (N := 16) hx hb hts kt_X5 hown hK hP 0 rfl rfl 15 (by decide) (kx_word hG kq_19_xouts_60 rfl) (fun _ h9 => h9) rfl dX5_writeLocators_27 ?_
          refine lv_aload_n hx hb dX5_writeLocators_30 rfl (lv_at hl 1 rfl) ?_
          refine va_get (D := (dC, dI)) (ci := 5) (v := .ref (o 14)) (C := RX5) (T := TX5) (N := 16) hx hb hts kt_X5 hown hK hP 0 rfl rfl 9 (by decide) (kx_word hG kq_19_xouts_0 rfl) (fun _ h9 => h9) rfl dX5_writeLocators_31 ?_
          refine lv_iload_n hx hb dX5_writeLocators_34 rfl (lv_at hl 0 rfl) ?_
          have hPc := hP.sub (ws' := (sU cI 1600 (o 14) (o 7) (o 8) (o 9) (rL2 7) (rL2 8) (rL2 9) (nL2 7) (nL2 8) (nL2 9) (zL2 7) (zL2 8) (zL2 9) (FL2 7) (FL2 8) (FL2 9))) [17, 18, 19, 20, 21, 22, 23] rfl
          refine xk_pure (va_runV (As := [.int (iz k)]) (rest := [.ref (o 11)]) ⟨hx, hb, hml, hown, hts⟩ (x_sfrom l dC dI cI cB cE 1600 (o 14) (o 7) (o 8) (o 9) (rL2 7) (rL2 8) (rL2 9) (nL2 7) (nL2 8) (nL2 9) (zL2 7) (zL2 8) (zL2 9) (FL2 7) (FL2 8) (FL2 9) k H.size (by omega) (hRLL2.1.2.2.1 7) (by omega) (hRLL2.1.2.2.1 8) (by omega) (hRLL2.1.2.2.1 9) (by omega) (by omega)) (cwV 1 hts (kx_gV kq_19_xouts_8 kq_15_xspan_56 kq_15_xspan_57 kq_15_xspan_53 kq_15_xspan_58 rfl) rfl rfl rfl (by decide +kernel) ⟨Nat.le_of_ble_eq_true rfl, Nat.le_of_ble_eq_true rfl⟩) ⟨pPre_blind, va_recv hK hPc (ci := 3) (q0 := 0) rfl rfl, pPre_give hPc hK hG⟩ rfl rfl hl.1 rfl (lv_room (Nat.le_of_ble_eq_true rfl)) dX5_writeLocators_35 ⟨show (cv + 0) + 0 ≤ 100 from (by omega), show (sv + 0) + 0 ≤ 42000 from (by omega)⟩) hS (fun z_58 locs hq_57 hS => ?_)
          refine W.eq (g2 := F0 m 38 ls [.int (iz z_58), .ref (o 11)]) rfl ?_
          try dsimp only at hq_57
          have e9 := congrFun (hRLL2.2.1.2 7 (by decide)) k
          have eg_59 : z_58 = F 7 k := by omega
          subst eg_59
          refine W.eq (g2 := F0 m 38 ls [.int (iz (F 7 k)), .ref (o 11)]) rfl ?_
          replace hq_57 := fun (_ : Unit) => hq_57
          have hPc := hP.sub (ws' := (pU cB (o 11) (rL2 11) (nL2 11) z_53 tl_54 F_55)) [27, 28] rfl
          have hDc := hD.sub (ws' := (pU cB (o 11) (rL2 11) (nL2 11) z_53 tl_54 F_55)) [27, 28] (by decide) rfl
          have hFc := va_free (wc := (pU cB (o 11) (rL2 11) (nL2 11) z_53 tl_54 F_55)) hD hS hA [27, 28] rfl
          refine xk_call (va_runV (As := [.int (iz (F 7 k))]) (rest := []) ⟨hx, hb, hml, hown, hts⟩ (x_putPage2 l dC dI cI cB cE (o 11) (rL2 11) (nL2 11) z_53 tl_54 F_55 (F 7 k) H.size (by omega) (by omega) hF56 (by omega) hp7 (by omega) (by omega)) (cwV 1 hts (kx_gV kq_19_xouts_61 kq_19_xouts_62 kq_19_xouts_63 kq_15_xspan_17 kq_19_xouts_64 rfl) rfl rfl rfl (by decide +kernel) ⟨Nat.le_of_ble_eq_true rfl, Nat.le_of_ble_eq_true rfl⟩) ⟨kx_blind, va_recv hK hPc (ci := 2) (q0 := 0) rfl rfl, kx_give (ws := []) (tys := []) hPc hDc hK hG hZ hS hFc⟩ rfl rfl hl.1 rfl (lv_room (Nat.le_of_ble_eq_true rfl)) dX5_writeLocators_38 ⟨show (cv + 0) + 0 ≤ 100 from (by omega), show (sv + 0) + 0 ≤ 42000 from (by omega)⟩) hS (fun q _ h => hFc q h) hFc (fun u dn_61 dm_62 t H locs ht hvm hq_60 hB hk1 hS => ?_)
          obtain ⟨z_63, tl_64, F_65⟩ := u
          obtain ⟨hP1, hK1, hD1⟩ := hB
          rw [ht] at hP1
          obtain ⟨hP, hD⟩ := xj_pool (wr := [(o 15, .inr (5, [.ref (o 16), .ref (Eo 0 0), .int (iz (zL2 12)), .int (iz (zL2 13)), .int (iz (zL2 14)), .ref (o 0), .ref (o 1), .int (iz (zL2 15)), .ref (o 13), .ref (o 14), .int (iz (zL2 16)), .ref (o 2), .ref (o 12), .ref (o 3), .ref (o 10), .ref (o 11)])), (o 16, .inl (cE, 80, .inr (.inr (.inr (.inr G))))), (o 0, .inr (1, [.int (iz 80), .ref (rL2 0), .int (iz (zL2 0))])), (rL2 0, .inl (cI, nL2 0, .inl (iA (FL2 0)))), (o 1, .inr (1, [.int (iz 80), .ref (rL2 1), .int (iz (zL2 1))])), (rL2 1, .inl (cI, nL2 1, .inl (iA (FL2 1)))), (o 2, .inr (1, [.int (iz 80), .ref (rL2 2), .int (iz (zL2 2))])), (rL2 2, .inl (cI, nL2 2, .inl (iA (FL2 2)))), (o 3, .inr (1, [.int (iz 80), .ref (rL2 3), .int (iz (zL2 3))])), (rL2 3, .inl (cI, nL2 3, .inl (iA (FL2 3)))), (o 13, .inr (3, [.ref (o 4), .ref (o 5), .ref (o 6)])), (o 4, .inr (1, [.int (iz 1600), .ref (rL2 4), .int (iz (zL2 4))])), (rL2 4, .inl (cI, nL2 4, .inl (iA (FL2 4)))), (o 5, .inr (1, [.int (iz 1600), .ref (rL2 5), .int (iz (zL2 5))])), (rL2 5, .inl (cI, nL2 5, .inl (iA (FL2 5)))), (o 6, .inr (1, [.int (iz 1600), .ref (rL2 6), .int (iz (zL2 6))])), (rL2 6, .inl (cI, nL2 6, .inl (iA (FL2 6)))), (o 14, .inr (3, [.ref (o 7), .ref (o 8), .ref (o 9)])), (o 7, .inr (1, [.int (iz 1600), .ref (rL2 7), .int (iz (zL2 7))])), (rL2 7, .inl (cI, nL2 7, .inl (iA (FL2 7)))), (o 8, .inr (1, [.int (iz 1600), .ref (rL2 8), .int (iz (zL2 8))])), (rL2 8, .inl (cI, nL2 8, .inl (iA (FL2 8)))), (o 9, .inr (1, [.int (iz 1600), .ref (rL2 9), .int (iz (zL2 9))])), (rL2 9, .inl (cI, nL2 9, .inl (iA (FL2 9)))), (o 12, .inr (4, [.int (iz (zL2 17)), .int (iz (zL2 18)), .int (iz (zL2 19)), .int (iz (zL2 20)), .int (iz (zL2 21))])), (o 10, .inr (2, [.ref (rL2 10), .int (iz (zL2 10)), .int (iz (zL2 22))])), (rL2 10, .inl (cB, nL2 10, .inl (iA (FL2 10))))]) (w1 := (pU cB (o 11) (rL2 11) (nL2 11) z_63 tl_64 F_65)) (ws' := (xU cI cB cE o rL2 nL2 (va_up (va_up zL2 11 z_63) 23 tl_64) (va_up FL2 11 F_65) G (Eo 0 0))) hP hD [27, 28] [0, 1, 2, 3, 4, 5, 6, 7, 8, 9, 10, 11, 12, 13, 14, 15, 16, 17, 18, 19, 20, 21, 22, 23, 24, 25, 26] [0, 1, 2, 3, 4, 5, 6, 7, 8, 9, 10, 11, 12, 13, 14, 15, 16, 17, 18, 19, 20, 21, 22, 23, 24, 25, 26, 27, 28] rfl rfl (by decide) (by decide) hk1 hFc hP1 hD1 rfl (by decide)
          refine W.eq (g2 := F0 m 41 ls []) rfl ?_
          try dsimp only at hq_60
          obtain ⟨hd66, hm66, hz66, ht66, hF66, hX66⟩ := hq_60
          subst hd66
          subst hm66
          have hY66 := pt_X_app hY56 hX66
          refine lv_aload_n hx hb dX5_writeLocators_41 rfl (lv_at hl 1 rfl) ?_
          refine va_get (D := (dC, dI)) (ci := 5) (v := .ref (o 14)) (C := RX5) (T := TX5) (N := 16) hx hb hts kt_X5 hown hK hP 0 rfl rfl 9 (by decide) (kx_word hG kq_19_xouts_0 rfl) (fun _ h9 => h9) rfl dX5_writeLocators_42 ?_
          refine lv_iload_n hx hb dX5_writeLocators_45 rfl (lv_at hl 0 rfl) ?_
          have hPc := hP.sub (ws' := (sU cI 1600 (o 14) (o 7) (o 8) (o 9) (rL2 7) (rL2 8) (rL2 9) (nL2 7) (nL2 8) (nL2 9) (zL2 7) (zL2 8) (zL2 9) (FL2 7) (FL2 8) (FL2 9))) [17, 18, 19, 20, 21, 22, 23] rfl
          refine xk_pure (va_runV (As := [.int (iz k)]) (rest := []) ⟨hx, hb, hml, hown, hts⟩ (x_sto l dC dI cI cB cE 1600 (o 14) (o 7) (o 8) (o 9) (rL2 7) (rL2 8) (rL2 9) (nL2 7) (nL2 8) (nL2 9) (zL2 7) (zL2 8) (zL2 9) (FL2 7) (FL2 8) (FL2 9) k H.size (by omega) (hRLL2.1.2.2.1 7) (by omega) (hRLL2.1.2.2.1 8) (by omega) (hRLL2.1.2.2.1 9) (by omega) (by omega)) (cwV 1 hts (kx_gV kq_19_xouts_9 kq_15_xspan_64 kq_15_xspan_65 kq_15_xspan_53 kq_15_xspan_66 rfl) rfl rfl rfl (by decide +kernel) ⟨Nat.le_of_ble_eq_true rfl, Nat.le_of_ble_eq_true rfl⟩) ⟨pPre_blind, va_recv hK hPc (ci := 3) (q0 := 0) rfl rfl, pPre_give hPc hK hG⟩ rfl rfl hl.1 rfl (lv_room (Nat.le_of_ble_eq_true rfl)) dX5_writeLocators_46 ⟨show ((cv + 0) + 0) + 0 ≤ 100 from (by omega), show ((sv + 0) + 0) + 0 ≤ 42000 from (by omega)⟩) hS (fun z_68 locs hq_67 hS => ?_)
          refine W.eq (g2 := F0 m 49 ls [.int (iz z_68)]) rfl ?_
          try dsimp only at hq_67
          have e9 := congrFun (hRLL2.2.1.2 8 (by decide)) k
          have eg_69 : z_68 = F 8 k := by omega
          subst eg_69
          refine W.eq (g2 := F0 m 49 ls [.int (iz (F 8 k))]) rfl ?_
          replace hq_67 := fun (_ : Unit) => hq_67
          refine lv_aload_n hx hb dX5_writeLocators_49 rfl (lv_at hl 1 rfl) ?_
          refine va_get (D := (dC, dI)) (ci := 5) (v := .ref (o 14)) (C := RX5) (T := TX5) (N := 16) hx hb hts kt_X5 hown hK hP 0 rfl rfl 9 (by decide) (kx_word hG kq_19_xouts_0 rfl) (fun _ h9 => h9) rfl dX5_writeLocators_50 ?_
          refine lv_iload_n hx hb dX5_writeLocators_53 rfl (lv_at hl 0 rfl) ?_
          have hPc := hP.sub (ws' := (sU cI 1600 (o 14) (o 7) (o 8) (o 9) (rL2 7) (rL2 8) (rL2 9) (nL2 7) (nL2 8) (nL2 9) (zL2 7) (zL2 8) (zL2 9) (FL2 7) (FL2 8) (FL2 9))) [17, 18, 19, 20, 21, 22, 23] rfl
          refine xk_pure (va_runV (As := [.int (iz k)]) (rest := [.int (iz (F 8 k))]) ⟨hx, hb, hml, hown, hts⟩ (x_sfrom l dC dI cI cB cE 1600 (o 14) (o 7) (o 8) (o 9) (rL2 7) (rL2 8) (rL2 9) (nL2 7) (nL2 8) (nL2 9) (zL2 7) (zL2 8) (zL2 9) (FL2 7) (FL2 8) (FL2 9) k H.size (by omega) (hRLL2.1.2.2.1 7) (by omega) (hRLL2.1.2.2.1 8) (by omega) (hRLL2.1.2.2.1 9) (by omega) (by omega)) (cwV 1 hts (kx_gV kq_19_xouts_8 kq_15_xspan_56 kq_15_xspan_57 kq_15_xspan_53 kq_15_xspan_58 rfl) rfl rfl rfl (by decide +kernel) ⟨Nat.le_of_ble_eq_true rfl, Nat.le_of_ble_eq_true rfl⟩) ⟨pPre_blind, va_recv hK hPc (ci := 3) (q0 := 0) rfl rfl, pPre_give hPc hK hG⟩ rfl rfl hl.1 rfl (lv_room (Nat.le_of_ble_eq_true rfl)) dX5_writeLocators_54 ⟨show ((cv + 0) + 0) + 0 ≤ 100 from (by omega), show ((sv + 0) + 0) + 0 ≤ 42000 from (by omega)⟩) hS (fun z_71 locs hq_70 hS => ?_)
          refine W.eq (g2 := F0 m 57 ls [.int (iz z_71), .int (iz (F 8 k))]) rfl ?_
          try dsimp only at hq_70
          have e9 := congrFun (hRLL2.2.1.2 7 (by decide)) k
          have eg_72 : z_71 = F 7 k := by omega
          subst eg_72
          refine W.eq (g2 := F0 m 57 ls [.int (iz (F 7 k)), .int (iz (F 8 k))]) rfl ?_
          replace hq_70 := fun (_ : Unit) => hq_70
          refine ki_icmp_eq (tgt := 84) hx hb dX5_writeLocators_57 (by decide) (by omega) (by omega) (by omega) (by omega) (fun c_73 => ?_) (fun c_73 => ?_)
          · skip
            refine lv_iinc (v := iz (k + 1)) (lv' := [(1, .int (iz (k + 1))), (0, .ref (o 15))]) hx hb dX5_writeLocators_84 hl (k := 0) rfl (iz_add k 1) (by decide) rfl (fun ls hl => ?_)
            refine lv_goto (tgt := 2) hx hb dX5_writeLocators_87 (by decide) ?_
            have hok74 : xOk (va_up nL2 11 (nL2 11)) (va_up (va_up zL2 11 z_63) 23 tl_64) (va_up FL2 11 F_65) := ((hRLL2.1.p 11 (by decide) (show 0 ≤ z_63 ∧ z_63 ≤ ((nL2 11 : Nat) : Int) ∧ (nL2 11 = 0 ∨ nL2 11 = 6000) by omega) hF66).s 23 (by decide) (show -2147483648 ≤ tl_64 ∧ tl_64 < 2147483648 by omega) (by omega))
            have hfr74 : xFr [11, 23] [11] z F (va_up (va_up zL2 11 z_63) 23 tl_64) (va_up FL2 11 F_65) := (((hRLL2.2.1.uz 11 (by decide) _).uz 23 (by decide) _).uf 11 (by decide) _)
            have hcg74 : (0) + xg (va_up nL2 11 (nL2 11)) ≤ xg nL2 := by unfold xg; simp (decide := true) only [va_ev, ↓reduceIte]; omega
            have hcp74 : (0) + xp (va_up nL2 11 (nL2 11)) ≤ xp nL2 := by unfold xp; simp (decide := true) only [va_ev, ↓reduceIte]; omega
            exact ih2 (k + 1) rL2 (va_up nL2 11 (nL2 11)) (va_up (va_up zL2 11 z_63) 23 tl_64) (va_up FL2 11 F_65) ((cv + 0) + 0) ((sv + 0) + 0) ⟨⟨hok74, hfr74, hRLL2.2.2.1, hRLL2.2.2.2⟩, ⟨by omega, by omega⟩, (show zL2 12 = z 12 by omega), by omega, (show nL2 11 = 6000 by omega), (pt_X_eq hY66 (by rw [lo_pl_add (F1 := F 7) (F2 := F 8) (show 0 ≤ k by omega) (fun _ _ _ => rfl) (fun _ _ _ => rfl) rfl rfl, pt_bt_k]; rw [if_neg (fun h9 => by have h8 := congrArg List.length h9; rw [lo_pl_len] at h8; have h7 : k.toNat = 0 := h8; omega)]; rw [pt_lo_1 (show F 8 k = F 7 k by omega)]; simp only [List.append_assoc, List.nil_append, List.append_nil]; try rfl))⟩ (by omega) _ _ hP hD hS ls (lv_sub hl [0, 1] rfl)
          · skip
            refine lv_aload_n hx hb dX5_writeLocators_60 rfl (lv_at hl 1 rfl) ?_
            refine va_get (D := (dC, dI)) (ci := 5) (v := .ref (o 11)) (C := RX5) (T := TX5) (N := 16) hx hb hts kt_X5 hown hK hP 0 rfl rfl 15 (by decide) (kx_word hG kq_19_xouts_60 rfl) (fun _ h9 => h9) rfl dX5_writeLocators_61 ?_
            refine lv_bipush (v := iz 45) hx hb dX5_writeLocators_64 (by decide) ?_
            have hPc := hP.sub (ws' := (pU cB (o 11) (rL2 11) (nL2 11) z_63 tl_64 F_65)) [27, 28] rfl
            have hDc := hD.sub (ws' := (pU cB (o 11) (rL2 11) (nL2 11) z_63 tl_64 F_65)) [27, 28] (by decide) rfl
            have hFc := va_free (wc := (pU cB (o 11) (rL2 11) (nL2 11) z_63 tl_64 F_65)) hD hS hA [27, 28] rfl
            refine xk_call (va_runV (As := [.int (iz 45)]) (rest := []) ⟨hx, hb, hml, hown, hts⟩ (x_put2 l dC dI cI cB cE (o 11) (rL2 11) (nL2 11) z_63 tl_64 F_65 45 H.size (by omega) (by omega) hF66 (by omega) (by omega) (by omega)) (cwV 1 hts (kx_gV kq_19_xouts_65 kq_15_xspan_15 kq_15_xspan_16 kq_15_xspan_17 kq_15_xspan_18 rfl) rfl rfl rfl (by decide +kernel) ⟨Nat.le_of_ble_eq_true rfl, Nat.le_of_ble_eq_true rfl⟩) ⟨kx_blind, va_recv hK hPc (ci := 2) (q0 := 0) rfl rfl, kx_give (ws := []) (tys := []) hPc hDc hK hG hZ hS hFc⟩ rfl rfl hl.1 rfl (lv_room (Nat.le_of_ble_eq_true rfl)) dX5_writeLocators_66 ⟨show ((cv + 0) + 0) + 0 ≤ 100 from (by omega), show ((sv + 0) + 0) + 0 ≤ 42000 from (by omega)⟩) hS (fun q _ h => hFc q h) hFc (fun u dn_76 dm_77 t H locs ht hvm hq_75 hB hk1 hS => ?_)
            obtain ⟨z_78, tl_79, F_80⟩ := u
            obtain ⟨hP1, hK1, hD1⟩ := hB
            rw [ht] at hP1
            obtain ⟨hP, hD⟩ := xj_pool (wr := [(o 15, .inr (5, [.ref (o 16), .ref (Eo 0 0), .int (iz (zL2 12)), .int (iz (zL2 13)), .int (iz (zL2 14)), .ref (o 0), .ref (o 1), .int (iz (zL2 15)), .ref (o 13), .ref (o 14), .int (iz (zL2 16)), .ref (o 2), .ref (o 12), .ref (o 3), .ref (o 10), .ref (o 11)])), (o 16, .inl (cE, 80, .inr (.inr (.inr (.inr G))))), (o 0, .inr (1, [.int (iz 80), .ref (rL2 0), .int (iz (zL2 0))])), (rL2 0, .inl (cI, nL2 0, .inl (iA (FL2 0)))), (o 1, .inr (1, [.int (iz 80), .ref (rL2 1), .int (iz (zL2 1))])), (rL2 1, .inl (cI, nL2 1, .inl (iA (FL2 1)))), (o 2, .inr (1, [.int (iz 80), .ref (rL2 2), .int (iz (zL2 2))])), (rL2 2, .inl (cI, nL2 2, .inl (iA (FL2 2)))), (o 3, .inr (1, [.int (iz 80), .ref (rL2 3), .int (iz (zL2 3))])), (rL2 3, .inl (cI, nL2 3, .inl (iA (FL2 3)))), (o 13, .inr (3, [.ref (o 4), .ref (o 5), .ref (o 6)])), (o 4, .inr (1, [.int (iz 1600), .ref (rL2 4), .int (iz (zL2 4))])), (rL2 4, .inl (cI, nL2 4, .inl (iA (FL2 4)))), (o 5, .inr (1, [.int (iz 1600), .ref (rL2 5), .int (iz (zL2 5))])), (rL2 5, .inl (cI, nL2 5, .inl (iA (FL2 5)))), (o 6, .inr (1, [.int (iz 1600), .ref (rL2 6), .int (iz (zL2 6))])), (rL2 6, .inl (cI, nL2 6, .inl (iA (FL2 6)))), (o 14, .inr (3, [.ref (o 7), .ref (o 8), .ref (o 9)])), (o 7, .inr (1, [.int (iz 1600), .ref (rL2 7), .int (iz (zL2 7))])), (rL2 7, .inl (cI, nL2 7, .inl (iA (FL2 7)))), (o 8, .inr (1, [.int (iz 1600), .ref (rL2 8), .int (iz (zL2 8))])), (rL2 8, .inl (cI, nL2 8, .inl (iA (FL2 8)))), (o 9, .inr (1, [.int (iz 1600), .ref (rL2 9), .int (iz (zL2 9))])), (rL2 9, .inl (cI, nL2 9, .inl (iA (FL2 9)))), (o 12, .inr (4, [.int (iz (zL2 17)), .int (iz (zL2 18)), .int (iz (zL2 19)), .int (iz (zL2 20)), .int (iz (zL2 21))])), (o 10, .inr (2, [.ref (rL2 10), .int (iz (zL2 10)), .int (iz (zL2 22))])), (rL2 10, .inl (cB, nL2 10, .inl (iA (FL2 10))))]) (w1 := (pU cB (o 11) (rL2 11) (nL2 11) z_78 tl_79 F_80)) (ws' := (xU cI cB cE o rL2 nL2 (va_up (va_up zL2 11 z_78) 23 tl_79) (va_up FL2 11 F_80) G (Eo 0 0))) hP hD [27, 28] [0, 1, 2, 3, 4, 5, 6, 7, 8, 9, 10, 11, 12, 13, 14, 15, 16, 17, 18, 19, 20, 21, 22, 23, 24, 25, 26] [0, 1, 2, 3, 4, 5, 6, 7, 8, 9, 10, 11, 12, 13, 14, 15, 16, 17, 18, 19, 20, 21, 22, 23, 24, 25, 26, 27, 28] rfl rfl (by decide) (by decide) hk1 hFc hP1 hD1 rfl (by decide)
            refine W.eq (g2 := F0 m 69 ls []) rfl ?_
            try dsimp only at hq_75
            obtain ⟨hd81, hm81, hz81, ht81, hF81, hX81⟩ := hq_75
            subst hd81
            subst hm81
            have hY81 := pt_X_app hY66 hX81
            refine lv_aload_n hx hb dX5_writeLocators_69 rfl (lv_at hl 1 rfl) ?_
            refine va_get (D := (dC, dI)) (ci := 5) (v := .ref (o 11)) (C := RX5) (T := TX5) (N := 16) hx hb hts kt_X5 hown hK hP 0 rfl rfl 15 (by decide) (kx_word hG kq_19_xouts_60 rfl) (fun _ h9 => h9) rfl dX5_writeLocators_70 ?_
            refine lv_aload_n hx hb dX5_writeLocators_73 rfl (lv_at hl 1 rfl) ?_
            refine va_get (D := (dC, dI)) (ci := 5) (v := .ref (o 14)) (C := RX5) (T := TX5) (N := 16) hx hb hts kt_X5 hown hK hP 0 rfl rfl 9 (by decide) (kx_word hG kq_19_xouts_0 rfl) (fun _ h9 => h9) rfl dX5_writeLocators_74 ?_
            refine lv_iload_n hx hb dX5_writeLocators_77 rfl (lv_at hl 0 rfl) ?_
            have hPc := hP.sub (ws' := (sU cI 1600 (o 14) (o 7) (o 8) (o 9) (rL2 7) (rL2 8) (rL2 9) (nL2 7) (nL2 8) (nL2 9) (zL2 7) (zL2 8) (zL2 9) (FL2 7) (FL2 8) (FL2 9))) [17, 18, 19, 20, 21, 22, 23] rfl
            refine xk_pure (va_runV (As := [.int (iz k)]) (rest := [.ref (o 11)]) ⟨hx, hb, hml, hown, hts⟩ (x_sto l dC dI cI cB cE 1600 (o 14) (o 7) (o 8) (o 9) (rL2 7) (rL2 8) (rL2 9) (nL2 7) (nL2 8) (nL2 9) (zL2 7) (zL2 8) (zL2 9) (FL2 7) (FL2 8) (FL2 9) k H.size (by omega) (hRLL2.1.2.2.1 7) (by omega) (hRLL2.1.2.2.1 8) (by omega) (hRLL2.1.2.2.1 9) (by omega) (by omega)) (cwV 1 hts (kx_gV kq_19_xouts_9 kq_15_xspan_64 kq_15_xspan_65 kq_15_xspan_53 kq_15_xspan_66 rfl) rfl rfl rfl (by decide +kernel) ⟨Nat.le_of_ble_eq_true rfl, Nat.le_of_ble_eq_true rfl⟩) ⟨pPre_blind, va_recv hK hPc (ci := 3) (q0 := 0) rfl rfl, pPre_give hPc hK hG⟩ rfl rfl hl.1 rfl (lv_room (Nat.le_of_ble_eq_true rfl)) dX5_writeLocators_78 ⟨show (((cv + 0) + 0) + 0) + 0 ≤ 100 from (by omega), show (((sv + 0) + 0) + 0) + 0 ≤ 42000 from (by omega)⟩) hS (fun z_83 locs hq_82 hS => ?_)
            refine W.eq (g2 := F0 m 81 ls [.int (iz z_83), .ref (o 11)]) rfl ?_
            try dsimp only at hq_82
            have e9 := congrFun (hRLL2.2.1.2 8 (by decide)) k
            have eg_84 : z_83 = F 8 k := by omega
            subst eg_84
            refine W.eq (g2 := F0 m 81 ls [.int (iz (F 8 k)), .ref (o 11)]) rfl ?_
            replace hq_82 := fun (_ : Unit) => hq_82
            have hPc := hP.sub (ws' := (pU cB (o 11) (rL2 11) (nL2 11) z_78 tl_79 F_80)) [27, 28] rfl
            have hDc := hD.sub (ws' := (pU cB (o 11) (rL2 11) (nL2 11) z_78 tl_79 F_80)) [27, 28] (by decide) rfl
            have hFc := va_free (wc := (pU cB (o 11) (rL2 11) (nL2 11) z_78 tl_79 F_80)) hD hS hA [27, 28] rfl
            refine xk_call (va_runV (As := [.int (iz (F 8 k))]) (rest := []) ⟨hx, hb, hml, hown, hts⟩ (x_putPage2 l dC dI cI cB cE (o 11) (rL2 11) (nL2 11) z_78 tl_79 F_80 (F 8 k) H.size (by omega) (by omega) hF81 (by omega) hp8 (by omega) (by omega)) (cwV 1 hts (kx_gV kq_19_xouts_61 kq_19_xouts_62 kq_19_xouts_63 kq_15_xspan_17 kq_19_xouts_64 rfl) rfl rfl rfl (by decide +kernel) ⟨Nat.le_of_ble_eq_true rfl, Nat.le_of_ble_eq_true rfl⟩) ⟨kx_blind, va_recv hK hPc (ci := 2) (q0 := 0) rfl rfl, kx_give (ws := []) (tys := []) hPc hDc hK hG hZ hS hFc⟩ rfl rfl hl.1 rfl (lv_room (Nat.le_of_ble_eq_true rfl)) dX5_writeLocators_81 ⟨show (((cv + 0) + 0) + 0) + 0 ≤ 100 from (by omega), show (((sv + 0) + 0) + 0) + 0 ≤ 42000 from (by omega)⟩) hS (fun q _ h => hFc q h) hFc (fun u dn_86 dm_87 t H locs ht hvm hq_85 hB hk1 hS => ?_)
            obtain ⟨z_88, tl_89, F_90⟩ := u
            obtain ⟨hP1, hK1, hD1⟩ := hB
            rw [ht] at hP1
            obtain ⟨hP, hD⟩ := xj_pool (wr := [(o 15, .inr (5, [.ref (o 16), .ref (Eo 0 0), .int (iz (zL2 12)), .int (iz (zL2 13)), .int (iz (zL2 14)), .ref (o 0), .ref (o 1), .int (iz (zL2 15)), .ref (o 13), .ref (o 14), .int (iz (zL2 16)), .ref (o 2), .ref (o 12), .ref (o 3), .ref (o 10), .ref (o 11)])), (o 16, .inl (cE, 80, .inr (.inr (.inr (.inr G))))), (o 0, .inr (1, [.int (iz 80), .ref (rL2 0), .int (iz (zL2 0))])), (rL2 0, .inl (cI, nL2 0, .inl (iA (FL2 0)))), (o 1, .inr (1, [.int (iz 80), .ref (rL2 1), .int (iz (zL2 1))])), (rL2 1, .inl (cI, nL2 1, .inl (iA (FL2 1)))), (o 2, .inr (1, [.int (iz 80), .ref (rL2 2), .int (iz (zL2 2))])), (rL2 2, .inl (cI, nL2 2, .inl (iA (FL2 2)))), (o 3, .inr (1, [.int (iz 80), .ref (rL2 3), .int (iz (zL2 3))])), (rL2 3, .inl (cI, nL2 3, .inl (iA (FL2 3)))), (o 13, .inr (3, [.ref (o 4), .ref (o 5), .ref (o 6)])), (o 4, .inr (1, [.int (iz 1600), .ref (rL2 4), .int (iz (zL2 4))])), (rL2 4, .inl (cI, nL2 4, .inl (iA (FL2 4)))), (o 5, .inr (1, [.int (iz 1600), .ref (rL2 5), .int (iz (zL2 5))])), (rL2 5, .inl (cI, nL2 5, .inl (iA (FL2 5)))), (o 6, .inr (1, [.int (iz 1600), .ref (rL2 6), .int (iz (zL2 6))])), (rL2 6, .inl (cI, nL2 6, .inl (iA (FL2 6)))), (o 14, .inr (3, [.ref (o 7), .ref (o 8), .ref (o 9)])), (o 7, .inr (1, [.int (iz 1600), .ref (rL2 7), .int (iz (zL2 7))])), (rL2 7, .inl (cI, nL2 7, .inl (iA (FL2 7)))), (o 8, .inr (1, [.int (iz 1600), .ref (rL2 8), .int (iz (zL2 8))])), (rL2 8, .inl (cI, nL2 8, .inl (iA (FL2 8)))), (o 9, .inr (1, [.int (iz 1600), .ref (rL2 9), .int (iz (zL2 9))])), (rL2 9, .inl (cI, nL2 9, .inl (iA (FL2 9)))), (o 12, .inr (4, [.int (iz (zL2 17)), .int (iz (zL2 18)), .int (iz (zL2 19)), .int (iz (zL2 20)), .int (iz (zL2 21))])), (o 10, .inr (2, [.ref (rL2 10), .int (iz (zL2 10)), .int (iz (zL2 22))])), (rL2 10, .inl (cB, nL2 10, .inl (iA (FL2 10))))]) (w1 := (pU cB (o 11) (rL2 11) (nL2 11) z_88 tl_89 F_90)) (ws' := (xU cI cB cE o rL2 nL2 (va_up (va_up zL2 11 z_88) 23 tl_89) (va_up FL2 11 F_90) G (Eo 0 0))) hP hD [27, 28] [0, 1, 2, 3, 4, 5, 6, 7, 8, 9, 10, 11, 12, 13, 14, 15, 16, 17, 18, 19, 20, 21, 22, 23, 24, 25, 26] [0, 1, 2, 3, 4, 5, 6, 7, 8, 9, 10, 11, 12, 13, 14, 15, 16, 17, 18, 19, 20, 21, 22, 23, 24, 25, 26, 27, 28] rfl rfl (by decide) (by decide) hk1 hFc hP1 hD1 rfl (by decide)
            refine W.eq (g2 := F0 m 84 ls []) rfl ?_
            try dsimp only at hq_85
            obtain ⟨hd91, hm91, hz91, ht91, hF91, hX91⟩ := hq_85
            subst hd91
            subst hm91
            have hY91 := pt_X_app hY81 hX91
            refine lv_iinc (v := iz (k + 1)) (lv' := [(1, .int (iz (k + 1))), (0, .ref (o 15))]) hx hb dX5_writeLocators_84 hl (k := 0) rfl (iz_add k 1) (by decide) rfl (fun ls hl => ?_)
            refine lv_goto (tgt := 2) hx hb dX5_writeLocators_87 (by decide) ?_
            have hok92 : xOk (va_up nL2 11 (nL2 11)) (va_up (va_up zL2 11 z_88) 23 tl_89) (va_up FL2 11 F_90) := ((hRLL2.1.p 11 (by decide) (show 0 ≤ z_88 ∧ z_88 ≤ ((nL2 11 : Nat) : Int) ∧ (nL2 11 = 0 ∨ nL2 11 = 6000) by omega) hF91).s 23 (by decide) (show -2147483648 ≤ tl_89 ∧ tl_89 < 2147483648 by omega) (by omega))
            have hfr92 : xFr [11, 23] [11] z F (va_up (va_up zL2 11 z_88) 23 tl_89) (va_up FL2 11 F_90) := (((hRLL2.2.1.uz 11 (by decide) _).uz 23 (by decide) _).uf 11 (by decide) _)
            have hcg92 : (0) + xg (va_up nL2 11 (nL2 11)) ≤ xg nL2 := by unfold xg; simp (decide := true) only [va_ev, ↓reduceIte]; omega
            have hcp92 : (0) + xp (va_up nL2 11 (nL2 11)) ≤ xp nL2 := by unfold xp; simp (decide := true) only [va_ev, ↓reduceIte]; omega
            exact ih2 (k + 1) rL2 (va_up nL2 11 (nL2 11)) (va_up (va_up zL2 11 z_88) 23 tl_89) (va_up FL2 11 F_90) ((((cv + 0) + 0) + 0) + 0) ((((sv + 0) + 0) + 0) + 0) ⟨⟨hok92, hfr92, hRLL2.2.2.1, hRLL2.2.2.2⟩, ⟨by omega, by omega⟩, (show zL2 12 = z 12 by omega), by omega, (show nL2 11 = 6000 by omega), (pt_X_eq hY91 (by rw [lo_pl_add (F1 := F 7) (F2 := F 8) (show 0 ≤ k by omega) (fun _ _ _ => rfl) (fun _ _ _ => rfl) rfl rfl, pt_bt_k]; rw [if_neg (fun h9 => by have h8 := congrArg List.length h9; rw [lo_pl_len] at h8; have h7 : k.toNat = 0 := h8; omega)]; rw [pt_lo_2 (show ¬ F 8 k = F 7 k by omega), pt_l_app]; simp only [List.append_assoc, List.nil_append, List.append_nil]; try rfl))⟩ (by omega) _ _ hP hD hS ls (lv_sub hl [0, 1] rfl)
  exact lp2 _ 0 r n z F 0 0 ⟨⟨hok, hfr, hPE, hef⟩, ⟨by omega, by omega⟩, (show z 12 = z 12 by omega), by omega, hn6, (pt_X_eq hX0 rfl)⟩ (Nat.lt_succ_self _) _ _ hP hD hS ls (lv_sub hl [0, 1] rfl)
set_option maxHeartbeats 4000000 in
set_option maxRecDepth 100000 in
theorem y_writeSeen2 (l : Launch) (dC : Nat → ClassId) (dI : Nat → Nat → Nat) (cI cB cE : ClassId) (o r n : Nat → Nat) (z : Nat → Int) (F : Nat → Int → Int) (G : Nat → Option Nat) (N : Nat) (Eo Er En : Nat → Nat → Nat) (Ez : Nat → Nat → Int) (EF : Nat → Nat → Int → Int) (sz : Nat) (hok : xOk n z F) (hxG : xG N (z 12) G Eo) (hPE : eA N En Ez EF) (hn6 : n 11 = 6000) (hsv : ∀ i, 0 ≤ i → i < z 2 → 0 ≤ F 2 i ∧ F 2 i < z 12) : Met l yX5_writeSeen [.code yX5_writeSeen cX5_writeSeen 2 none] ({ frames := 2, cells := 100, slots := 42000, locals := 43 }) (va_Pc [.ref (o 15)] (kx_Pre dC dI (xU cI cB cE o r n z F G (Eo 0 0) ++ eP cI N Eo Er En Ez EF) (xT cI cB cE) sz)) (xQ (fun _ : (Nat → Nat) × (Nat → Nat) × (Nat → Int) × (Nat → Int → Int) × (Nat → Nat → Nat) × (Nat → Nat → Nat) × (Nat → Nat → Int) × (Nat → Nat → Int → Int) => none) (fun (u : (Nat → Nat) × (Nat → Nat) × (Nat → Int) × (Nat → Int → Int) × (Nat → Nat → Nat) × (Nat → Nat → Nat) × (Nat → Nat → Int) × (Nat → Nat → Int → Int)) (dn dm : Nat) => match u with | (r', n', z', F', Er', En', Ez', EF') => xR [11, 23] [11] [] [] N z F En Ez EF n' z' F' En' Ez' EF' ∧ (dn + xg n' ≤ xg n + 0 ∧ dm + xp n' ≤ xp n + 0) ∧ (pt_X (F 11) (z 11) (z 23) (pt_l (pt_bt (pt_wd Ez EF) 59 (kf_ls (F 2) 0 (z 2).toNat))) (F' 11) (z' 11) (z' 23) ∧ n' 11 = 6000 ∧ Er = Er' ∧ En = En' ∧ Ez = Ez' ∧ EF = EF')) (fun u t => kx_At dC dI (va_A (xU cI cB cE o r n z F G (Eo 0 0) ++ eP cI N Eo Er En Ez EF) sz) ((fun u : (Nat → Nat) × (Nat → Nat) × (Nat → Int) × (Nat → Int → Int) × (Nat → Nat → Nat) × (Nat → Nat → Nat) × (Nat → Nat → Int) × (Nat → Nat → Int → Int) => match u with | (r', n', z', F', Er', En', Ez', EF') => (xU cI cB cE o r' n' z' F' G (Eo 0 0) ++ eP cI N Eo Er' En' Ez' EF')) u) (xT cI cB cE) t) (va_A (xU cI cB cE o r n z F G (Eo 0 0) ++ eP cI N Eo Er En Ez EF) sz)) 100 42000 (va_A (xU cI cB cE o r n z F G (Eo 0 0) ++ eP cI N Eo Er En Ez EF) sz) := by
  refine Met.ofW (cc := cX5_writeSeen) (maxL := 2) (ret := none) (by decide) rfl ?_
  intro p e s m args below meth c s₁ B hml hv
  obtain ⟨rfl, hsz, hP, hK, hD0, hG, hZ⟩ := hv
  have hx := B.exec
  have hb := B.bytes
  have hr := B.returns
  have hts := kx_hts (a := ([.ref (o 15)] : List Value).toArray) hG
  have hown : s.vm.findClass RX5 = some m.cls := findClass_of_methodNamed B.named
  have hlocks := B.notSynchronized
  subst hsz
  have hD := hD0.self (sz := s.heap.size)
  generalize hAe : va_A (xU cI cB cE o r n z F G (Eo 0 0) ++ eP cI N Eo Er En Ez EF) s.heap.size = A at hD hZ ⊢
  have hA : ∀ q : Nat, s.heap.size ≤ q → A q := fun q h => by rw [← hAe]; exact Or.inr h
  have hS : va_S A s.heap s.heap [] := va_S.rf
  have hl := lv_entry ([.ref (o 15)]) (n := 2) (Nat.le_of_ble_eq_true rfl)
  rw [lg_entry_eq]
  generalize (lg_sl ([.ref (o 15)]) ++ List.replicate (2 - (lg_sl ([.ref (o 15)])).length) Slot.unset).toArray = ls at hl ⊢
  obtain ⟨hN1, hN2, hN3, hN4⟩ := hxG
  have hef : eFr [] [] En Ez EF En Ez EF := eFr.rf
  have hfr : xFr [11, 23] [11] z F z F := xFr.rf
  have hxgl := xg_le n
  have hxpl := xp_le n
  have hl : lv_has ls 2 [(0, .ref (o 15))] := hl
  generalize hQe : MQ below (xQ (fun _ : (Nat → Nat) × (Nat → Nat) × (Nat → Int) × (Nat → Int → Int) × (Nat → Nat → Nat) × (Nat → Nat → Nat) × (Nat → Nat → Int) × (Nat → Nat → Int → Int) => none) (fun (u : (Nat → Nat) × (Nat → Nat) × (Nat → Int) × (Nat → Int → Int) × (Nat → Nat → Nat) × (Nat → Nat → Nat) × (Nat → Nat → Int) × (Nat → Nat → Int → Int)) (dn dm : Nat) => match u with | (r', n', z', F', Er', En', Ez', EF') => xR [11, 23] [11] [] [] N z F En Ez EF n' z' F' En' Ez' EF' ∧ (dn + xg n' ≤ xg n + 0 ∧ dm + xp n' ≤ xp n + 0) ∧ (pt_X (F 11) (z 11) (z 23) (pt_l (pt_bt (pt_wd Ez EF) 59 (kf_ls (F 2) 0 (z 2).toNat))) (F' 11) (z' 11) (z' 23) ∧ n' 11 = 6000 ∧ Er = Er' ∧ En = En' ∧ Ez = Ez' ∧ EF = EF')) (fun u t => kx_At dC dI A ((fun u : (Nat → Nat) × (Nat → Nat) × (Nat → Int) × (Nat → Int → Int) × (Nat → Nat → Nat) × (Nat → Nat → Nat) × (Nat → Nat → Int) × (Nat → Nat → Int → Int) => match u with | (r', n', z', F', Er', En', Ez', EF') => (xU cI cB cE o r' n' z' F' G (Eo 0 0) ++ eP cI N Eo Er' En' Ez' EF')) u) (xT cI cB cE) t) A) ([.ref (o 15)] : List Value).toArray s 100 42000 A = QQ
  have hX0 := pt_X_nil (F 11) (z 11) (z 23)
  have hz2 : 0 ≤ z 2 ∧ z 2 ≤ (n 2 : Int) ∧ (n 2 : Int) ≤ 80 := hok.1 2 (by decide)
  refine lv_iconst (v := iz 0) hx hb dX5_writeSeen_0 (by decide) ?_
  refine lv_istore_n (lv' := [(1, .int (iz 0)), (0, .ref (o 15))]) hx hb dX5_writeSeen_1 rfl hl (by decide) rfl (fun ls hl => ?_)
  have lp2 : ∀ (n0 : Nat) (k : Int) (rL2 : Nat → Nat) (nL2 : Nat → Nat) (zL2 : Nat → Int) (FL2 : Nat → Int → Int) (cv : Nat) (sv : Nat), ((xR [11, 23] [11] [] [] N z F En Ez EF nL2 zL2 FL2 En Ez EF) ∧ (cv + xg nL2 ≤ xg n + (0) ∧ sv + xp nL2 ≤ xp n + (0)) ∧ (zL2 12 = z 12) ∧ (0 ≤ k ∧ k ≤ z 2) ∧ (nL2 11 = 6000) ∧ (pt_X (F 11) (z 11) (z 23) (pt_l (pt_bt (pt_wd Ez EF) 59 (kf_ls (F 2) 0 (k).toNat))) (FL2 11) (zL2 11) (zL2 23))) → (z 2 - k).toNat < n0 → ∀ (H : Heap) (locs : List Loc), va_P (dC, dI) kxCl ((xU cI cB cE o rL2 nL2 zL2 FL2 G (Eo 0 0)) ++ (eP cI N Eo Er En Ez EF)) H → va_D A ((xU cI cB cE o rL2 nL2 zL2 FL2 G (Eo 0 0)) ++ (eP cI N Eo Er En Ez EF)) → va_S A s.heap H locs → ∀ ls : Array Slot, lv_has ls 2 [(1, .int (iz k)), (0, .ref (o 15))] → W p l e (headSpec [.code yX5_writeSeen cX5_writeSeen 2 none] ({ frames := 2, cells := 100, slots := 42000, locals := 43 })).room s m ([.ref (o 15)] : List Value).toArray below meth c H locs cv sv QQ (F0 m 2 ls []) := by
    intro n0
    induction n0 with
    | zero => intro k rL2 nL2 zL2 FL2 cv sv hinv hm0; exact absurd hm0 (Nat.not_lt_zero _)
    | succ n0 ih2 =>
      intro k rL2 nL2 zL2 FL2 cv sv hinv hm0 H locs hP hD hS ls hl
      obtain ⟨hRLL2, hCLL2, hZLL2, hk, hnv, hXv⟩ := hinv
      have hkzL2_2 : zL2 2 = z 2 := hRLL2.2.1.1 2 (by decide)
      have hkzL2_12 : zL2 12 = z 12 := hRLL2.2.1.1 12 (by decide)
      refine lv_iload_n hx hb dX5_writeSeen_2 rfl (lv_at hl 0 rfl) ?_
      refine lv_aload_n hx hb dX5_writeSeen_3 rfl (lv_at hl 1 rfl) ?_
      refine va_get (D := (dC, dI)) (ci := 5) (v := .ref (o 2)) (C := RX5) (T := TX5) (N := 16) hx hb hts kt_X5 hown hK hP 0 rfl rfl 11 (by decide) (kx_word hG kq_19_xouts_27 rfl) (fun _ h9 => h9) rfl dX5_writeSeen_4 ?_
      have hxi_1 : 0 ≤ zL2 2 ∧ zL2 2 ≤ ((nL2 2 : Nat) : Int) ∧ ((nL2 2 : Nat) : Int) ≤ 80 := hRLL2.1.1 2 (by decide)
      have hPc := hP.sub (ws' := (iU cI 80 (o 2) (rL2 2) (nL2 2) (zL2 2) (FL2 2))) [6, 7] rfl
      refine xk_pure (va_runV (As := []) (rest := [.int (iz k)]) ⟨hx, hb, hml, hown, hts⟩ (x_size l dC dI cI cB cE 80 (o 2) (rL2 2) (nL2 2) (zL2 2) (FL2 2)  H.size ) (cwV 0 hts (kx_gV kq_18_xrows_40 kq_15_xspan_10 kq_15_xspan_11 kq_13_xints_6 kq_15_xspan_12 rfl) rfl rfl rfl (by decide +kernel) ⟨Nat.le_of_ble_eq_true rfl, Nat.le_of_ble_eq_true rfl⟩) ⟨pPre_blind, va_recv hK hPc (ci := 1) (q0 := 0) rfl rfl, pPre_give hPc hK hG⟩ rfl rfl hl.1 rfl (lv_room (Nat.le_of_ble_eq_true rfl)) dX5_writeSeen_7 ⟨show cv + 0 ≤ 100 from (by omega), show sv + 0 ≤ 42000 from (by omega)⟩) hS (fun z_3 locs hq_2 hS => ?_)
      refine W.eq (g2 := F0 m 10 ls [.int (iz z_3), .int (iz k)]) rfl ?_
      try dsimp only at hq_2
      have hq_2 := hq_2.symm
      subst hq_2
      refine ki_icmp_ge (tgt := 54) hx hb dX5_writeSeen_10 (by decide) (by omega) (by omega) (by omega) (by omega) (fun c_4 => ?_) (fun c_4 => ?_)
      · skip
        rw [← hQe]
        exact xk_vret (ov := (fun _ : (Nat → Nat) × (Nat → Nat) × (Nat → Int) × (Nat → Int → Int) × (Nat → Nat → Nat) × (Nat → Nat → Nat) × (Nat → Nat → Int) × (Nat → Nat → Int → Int) => none)) (post := (fun (u : (Nat → Nat) × (Nat → Nat) × (Nat → Int) × (Nat → Int → Int) × (Nat → Nat → Nat) × (Nat → Nat → Nat) × (Nat → Nat → Int) × (Nat → Nat → Int → Int)) (dn dm : Nat) => match u with | (r', n', z', F', Er', En', Ez', EF') => xR [11, 23] [11] [] [] N z F En Ez EF n' z' F' En' Ez' EF' ∧ (dn + xg n' ≤ xg n + 0 ∧ dm + xp n' ≤ xp n + 0) ∧ (pt_X (F 11) (z 11) (z 23) (pt_l (pt_bt (pt_wd Ez EF) 59 (kf_ls (F 2) 0 (z 2).toNat))) (F' 11) (z' 11) (z' 23) ∧ n' 11 = 6000 ∧ Er = Er' ∧ En = En' ∧ Ez = Ez' ∧ EF = EF'))) (ws := (fun u : (Nat → Nat) × (Nat → Nat) × (Nat → Int) × (Nat → Int → Int) × (Nat → Nat → Nat) × (Nat → Nat → Nat) × (Nat → Nat → Int) × (Nat → Nat → Int → Int) => match u with | (r', n', z', F', Er', En', Ez', EF') => (xU cI cB cE o r' n' z' F' G (Eo 0 0) ++ eP cI N Eo Er' En' Ez' EF'))) (tys := xT cI cB cE) (rL2, nL2, zL2, FL2, Er, En, Ez, EF) hx hb hr hlocks rfl hP hD hK hS dX5_writeSeen_54 (fun dn dm hdn hdm => ⟨⟨hRLL2.1, hRLL2.2.1, hRLL2.2.2.1, hRLL2.2.2.2⟩, ⟨by omega, by omega⟩, ⟨(by rw [show (z 2).toNat = k.toNat by omega]; exact hXv), hnv, rfl, rfl, rfl, rfl⟩⟩) (by omega) (by omega)
      · skip
        have hs9 := hsv k (by omega) (by omega)
        refine lv_iload_n hx hb dX5_writeSeen_13 rfl (lv_at hl 0 rfl) ?_
        refine ki_if_le (tgt := 26) hx hb dX5_writeSeen_14 (by decide) (by omega) (by omega) (fun c_5 => ?_) (fun c_5 => ?_)
        · skip
          refine lv_aload_n hx hb dX5_writeSeen_26 rfl (lv_at hl 1 rfl) ?_
          refine va_get (D := (dC, dI)) (ci := 5) (v := .ref (o 11)) (C := RX5) (T := TX5) (N := 16) hx hb hts kt_X5 hown hK hP 0 rfl rfl 15 (by decide) (kx_word hG kq_19_xouts_60 rfl) (fun _ h9 => h9) rfl dX5_writeSeen_27 ?_
          refine lv_aload_n hx hb dX5_writeSeen_30 rfl (lv_at hl 1 rfl) ?_
          refine lv_aload_n hx hb dX5_writeSeen_31 rfl (lv_at hl 1 rfl) ?_
          refine va_get (D := (dC, dI)) (ci := 5) (v := .ref (o 2)) (C := RX5) (T := TX5) (N := 16) hx hb hts kt_X5 hown hK hP 0 rfl rfl 11 (by decide) (kx_word hG kq_19_xouts_27 rfl) (fun _ h9 => h9) rfl dX5_writeSeen_32 ?_
          refine lv_iload_n hx hb dX5_writeSeen_35 rfl (lv_at hl 0 rfl) ?_
          have hPc := hP.sub (ws' := (iU cI 80 (o 2) (rL2 2) (nL2 2) (zL2 2) (FL2 2))) [6, 7] rfl
          refine xk_pure (va_runV (As := [.int (iz k)]) (rest := [.ref (o 15), .ref (o 11)]) ⟨hx, hb, hml, hown, hts⟩ (x_get l dC dI cI cB cE 80 (o 2) (rL2 2) (nL2 2) (zL2 2) (FL2 2) k H.size (by omega) (hRLL2.1.2.2.1 2) (by omega) (by omega)) (cwV 1 hts (kx_gV kq_18_xrows_41 kq_13_xints_4 kq_13_xints_5 kq_13_xints_6 kq_13_xints_7 rfl) rfl rfl rfl (by decide +kernel) ⟨Nat.le_of_ble_eq_true rfl, Nat.le_of_ble_eq_true rfl⟩) ⟨pPre_blind, va_recv hK hPc (ci := 1) (q0 := 0) rfl rfl, pPre_give hPc hK hG⟩ rfl rfl hl.1 rfl (lv_room (Nat.le_of_ble_eq_true rfl)) dX5_writeSeen_36 ⟨show cv + 0 ≤ 100 from (by omega), show sv + 0 ≤ 42000 from (by omega)⟩) hS (fun z_7 locs hq_6 hS => ?_)
          refine W.eq (g2 := F0 m 39 ls [.int (iz z_7), .ref (o 15), .ref (o 11)]) rfl ?_
          try dsimp only at hq_6
          have e9 := congrFun (hRLL2.2.1.2 2 (by decide)) k
          have eg_8 : z_7 = F 2 k := by omega
          subst eg_8
          refine W.eq (g2 := F0 m 39 ls [.int (iz (F 2 k)), .ref (o 15), .ref (o 11)]) rfl ?_
          replace hq_6 := fun (_ : Unit) => hq_6
          have hxz_9 : -2147483648 ≤ zL2 12 ∧ zL2 12 < 2147483648 := hRLL2.1.2.2.2.1 12
          have hxG9 : xG N (zL2 12) G Eo := ⟨by omega, by omega, by omega, fun e9 h9 => hN4 e9 (by omega)⟩
          have hP : va_P (dC, dI) kxCl (xU cI cB cE o rL2 nL2 zL2 FL2 G (Eo 0 0) ++ eP cI N Eo Er En Ez EF) H := hP
          refine xk_pure (va_runV (As := [.int (iz (F 2 k))]) (rest := [.ref (o 11)]) ⟨hx, hb, hml, hown, hts⟩ (y_known l dC dI cI cB cE o rL2 nL2 zL2 FL2 G N Eo Er En Ez EF (F 2 k) H.size hRLL2.1 hxG9 hRLL2.2.2.1 (by omega) (by omega)) (cwV 1 hts (kx_gV kq_18_xrows_8 kq_18_xrows_9 kq_18_xrows_10 kq_18_xrows_4 kq_18_xrows_11 rfl) rfl rfl rfl (by decide +kernel) ⟨Nat.le_of_ble_eq_true rfl, Nat.le_of_ble_eq_true rfl⟩) ⟨pPre_blind, va_recv hK hP (ci := 5) (q0 := 0) rfl rfl, pPre_give hP hK hG⟩ rfl rfl hl.1 rfl (lv_room (Nat.le_of_ble_eq_true rfl)) dX5_writeSeen_39 ⟨show cv + 0 ≤ 100 from (by omega), show sv + 0 ≤ 42000 from (by omega)⟩) hS (fun z_11 locs hq_10 hS => ?_)
          refine W.eq (g2 := F0 m 42 ls [.ref z_11.toNat, .ref (o 11)]) rfl ?_
          try dsimp only at hq_10
          obtain ⟨j12, hj12, ez12, hje12⟩ := hq_10
          subst ez12
          refine W.eq (g2 := F0 m 42 ls [.ref (Eo j12 0), .ref (o 11)]) rfl ?_
          have ej12 : j12 = (F 2 k + 1).toNat := by omega
          subst ej12
          have hP := eP_foc hj12 hP
          have hD := eD_foc hj12 hD
          refine va_getN (D := (dC, dI)) (ci := 0) (v := .ref (Eo ((F 2 k + 1).toNat) 1)) (C := RX0) (T := TX0) (N := 12) hx hb hts kt_X0 hown hK hP 29 rfl rfl 2 (by decide) (va_Nw.use rfl (kx_nf hG kq_19_xouts_70)) (fun _ h9 => h9) rfl dX5_writeSeen_42 ?_
          have hxp_13 : 0 ≤ zL2 11 ∧ zL2 11 ≤ ((nL2 11 : Nat) : Int) ∧ (nL2 11 = 0 ∨ nL2 11 = 6000) := hRLL2.1.2.1 11 (by decide)
          have hxz_14 : -2147483648 ≤ zL2 23 ∧ zL2 23 < 2147483648 := hRLL2.1.2.2.2.1 23
          have hxb_15 : zL2 23 = 0 ∨ zL2 23 = 1 := hRLL2.1.2.2.2.2 23 (by decide)
          have he_16 : 0 ≤ Ez ((F 2 k + 1).toNat) 0 ∧ Ez ((F 2 k + 1).toNat) 0 ≤ ((En ((F 2 k + 1).toNat) 0 : Nat) : Int) ∧ ((En ((F 2 k + 1).toNat) 0 : Nat) : Int) ≤ 20 := (hRLL2.2.2.1 ((F 2 k + 1).toNat) hj12).1 0 (by decide)
          have hPc := hP.sub (ws' := ((pU cB (o 11) (rL2 11) (nL2 11) (zL2 11) (zL2 23) (FL2 11)) ++ (iU cI 20 (Eo ((F 2 k + 1).toNat) 1) (Er ((F 2 k + 1).toNat) 0) (En ((F 2 k + 1).toNat) 0) (Ez ((F 2 k + 1).toNat) 0) (EF ((F 2 k + 1).toNat) 0)))) [27, 28, 30, 31] rfl
          have hDc := hD.sub (ws' := ((pU cB (o 11) (rL2 11) (nL2 11) (zL2 11) (zL2 23) (FL2 11)) ++ (iU cI 20 (Eo ((F 2 k + 1).toNat) 1) (Er ((F 2 k + 1).toNat) 0) (En ((F 2 k + 1).toNat) 0) (Ez ((F 2 k + 1).toNat) 0) (EF ((F 2 k + 1).toNat) 0)))) [27, 28, 30, 31] (by decide) rfl
          have hFc := va_free (wc := ((pU cB (o 11) (rL2 11) (nL2 11) (zL2 11) (zL2 23) (FL2 11)) ++ (iU cI 20 (Eo ((F 2 k + 1).toNat) 1) (Er ((F 2 k + 1).toNat) 0) (En ((F 2 k + 1).toNat) 0) (Ez ((F 2 k + 1).toNat) 0) (EF ((F 2 k + 1).toNat) 0)))) hD hS hA [27, 28, 30, 31] rfl
          refine xk_call (va_runV (As := [.ref (Eo ((F 2 k + 1).toNat) 1)]) (rest := []) ⟨hx, hb, hml, hown, hts⟩ (x_putAll2 l dC dI cI cB cE (o 11) (rL2 11) (nL2 11) (zL2 11) (zL2 23) (FL2 11) 20 (Eo ((F 2 k + 1).toNat) 1) (Er ((F 2 k + 1).toNat) 0) (En ((F 2 k + 1).toNat) 0) (Ez ((F 2 k + 1).toNat) 0) (EF ((F 2 k + 1).toNat) 0)  H.size (by omega) (by omega) (hRLL2.1.2.2.1 11) (by omega) (by omega) ((hRLL2.2.2.1 ((F 2 k + 1).toNat) hj12).2.1 0)) (cwV 1 hts (kx_gV kq_19_xouts_71 kq_19_xouts_72 kq_19_xouts_73 kq_15_xspan_17 kq_19_xouts_74 rfl) rfl rfl rfl (by decide +kernel) ⟨Nat.le_of_ble_eq_true rfl, Nat.le_of_ble_eq_true rfl⟩) ⟨kx_blind, va_recv hK hPc (ci := 2) (q0 := 0) rfl rfl, kx_give (ws := []) (tys := []) hPc hDc hK hG hZ hS hFc⟩ rfl rfl hl.1 rfl (lv_room (Nat.le_of_ble_eq_true rfl)) dX5_writeSeen_45 ⟨show cv + 0 ≤ 100 from (by omega), show sv + 0 ≤ 42000 from (by omega)⟩) hS (fun q _ h => hFc q h) hFc (fun u dn_18 dm_19 t H locs ht hvm hq_17 hB hk1 hS => ?_)
          obtain ⟨z_20, tl_21, F_22⟩ := u
          obtain ⟨hP1, hK1, hD1⟩ := hB
          rw [ht] at hP1
          obtain ⟨hP, hD⟩ := xj_pool (wr := [(o 15, .inr (5, [.ref (o 16), .ref (Eo 0 0), .int (iz (zL2 12)), .int (iz (zL2 13)), .int (iz (zL2 14)), .ref (o 0), .ref (o 1), .int (iz (zL2 15)), .ref (o 13), .ref (o 14), .int (iz (zL2 16)), .ref (o 2), .ref (o 12), .ref (o 3), .ref (o 10), .ref (o 11)])), (o 16, .inl (cE, 80, .inr (.inr (.inr (.inr G))))), (o 0, .inr (1, [.int (iz 80), .ref (rL2 0), .int (iz (zL2 0))])), (rL2 0, .inl (cI, nL2 0, .inl (iA (FL2 0)))), (o 1, .inr (1, [.int (iz 80), .ref (rL2 1), .int (iz (zL2 1))])), (rL2 1, .inl (cI, nL2 1, .inl (iA (FL2 1)))), (o 2, .inr (1, [.int (iz 80), .ref (rL2 2), .int (iz (zL2 2))])), (rL2 2, .inl (cI, nL2 2, .inl (iA (FL2 2)))), (o 3, .inr (1, [.int (iz 80), .ref (rL2 3), .int (iz (zL2 3))])), (rL2 3, .inl (cI, nL2 3, .inl (iA (FL2 3)))), (o 13, .inr (3, [.ref (o 4), .ref (o 5), .ref (o 6)])), (o 4, .inr (1, [.int (iz 1600), .ref (rL2 4), .int (iz (zL2 4))])), (rL2 4, .inl (cI, nL2 4, .inl (iA (FL2 4)))), (o 5, .inr (1, [.int (iz 1600), .ref (rL2 5), .int (iz (zL2 5))])), (rL2 5, .inl (cI, nL2 5, .inl (iA (FL2 5)))), (o 6, .inr (1, [.int (iz 1600), .ref (rL2 6), .int (iz (zL2 6))])), (rL2 6, .inl (cI, nL2 6, .inl (iA (FL2 6)))), (o 14, .inr (3, [.ref (o 7), .ref (o 8), .ref (o 9)])), (o 7, .inr (1, [.int (iz 1600), .ref (rL2 7), .int (iz (zL2 7))])), (rL2 7, .inl (cI, nL2 7, .inl (iA (FL2 7)))), (o 8, .inr (1, [.int (iz 1600), .ref (rL2 8), .int (iz (zL2 8))])), (rL2 8, .inl (cI, nL2 8, .inl (iA (FL2 8)))), (o 9, .inr (1, [.int (iz 1600), .ref (rL2 9), .int (iz (zL2 9))])), (rL2 9, .inl (cI, nL2 9, .inl (iA (FL2 9)))), (o 12, .inr (4, [.int (iz (zL2 17)), .int (iz (zL2 18)), .int (iz (zL2 19)), .int (iz (zL2 20)), .int (iz (zL2 21))])), (o 10, .inr (2, [.ref (rL2 10), .int (iz (zL2 10)), .int (iz (zL2 22))])), (rL2 10, .inl (cB, nL2 10, .inl (iA (FL2 10)))), (Eo ((F 2 k + 1).toNat) 0, .inr (0, [.int (iz (Ez ((F 2 k + 1).toNat) 7)), .int (iz (Ez ((F 2 k + 1).toNat) 8)), .ref (Eo ((F 2 k + 1).toNat) 1), .ref (Eo ((F 2 k + 1).toNat) 2), .ref (Eo ((F 2 k + 1).toNat) 3), .ref (Eo ((F 2 k + 1).toNat) 5), .ref (Eo ((F 2 k + 1).toNat) 4), .int (iz (Ez ((F 2 k + 1).toNat) 9)), .int (iz (Ez ((F 2 k + 1).toNat) 10)), .int (iz (Ez ((F 2 k + 1).toNat) 11)), .int (iz (Ez ((F 2 k + 1).toNat) 12)), .int (iz (Ez ((F 2 k + 1).toNat) 13))])), (Eo ((F 2 k + 1).toNat) 2, .inr (1, [.int (iz 20), .ref (Er ((F 2 k + 1).toNat) 1), .int (iz (Ez ((F 2 k + 1).toNat) 1))])), (Er ((F 2 k + 1).toNat) 1, .inl (cI, En ((F 2 k + 1).toNat) 1, .inl (iA (EF ((F 2 k + 1).toNat) 1)))), (Eo ((F 2 k + 1).toNat) 3, .inr (1, [.int (iz 40), .ref (Er ((F 2 k + 1).toNat) 2), .int (iz (Ez ((F 2 k + 1).toNat) 2))])), (Er ((F 2 k + 1).toNat) 2, .inl (cI, En ((F 2 k + 1).toNat) 2, .inl (iA (EF ((F 2 k + 1).toNat) 2)))), (Eo ((F 2 k + 1).toNat) 4, .inr (1, [.int (iz 5), .ref (Er ((F 2 k + 1).toNat) 3), .int (iz (Ez ((F 2 k + 1).toNat) 3))])), (Er ((F 2 k + 1).toNat) 3, .inl (cI, En ((F 2 k + 1).toNat) 3, .inl (iA (EF ((F 2 k + 1).toNat) 3)))), (Eo ((F 2 k + 1).toNat) 5, .inr (3, [.ref (Eo ((F 2 k + 1).toNat) 6), .ref (Eo ((F 2 k + 1).toNat) 7), .ref (Eo ((F 2 k + 1).toNat) 8)])), (Eo ((F 2 k + 1).toNat) 6, .inr (1, [.int (iz 20), .ref (Er ((F 2 k + 1).toNat) 4), .int (iz (Ez ((F 2 k + 1).toNat) 4))])), (Er ((F 2 k + 1).toNat) 4, .inl (cI, En ((F 2 k + 1).toNat) 4, .inl (iA (EF ((F 2 k + 1).toNat) 4)))), (Eo ((F 2 k + 1).toNat) 7, .inr (1, [.int (iz 20), .ref (Er ((F 2 k + 1).toNat) 5), .int (iz (Ez ((F 2 k + 1).toNat) 5))])), (Er ((F 2 k + 1).toNat) 5, .inl (cI, En ((F 2 k + 1).toNat) 5, .inl (iA (EF ((F 2 k + 1).toNat) 5)))), (Eo ((F 2 k + 1).toNat) 8, .inr (1, [.int (iz 20), .ref (Er ((F 2 k + 1).toNat) 6), .int (iz (Ez ((F 2 k + 1).toNat) 6))])), (Er ((F 2 k + 1).toNat) 6, .inl (cI, En ((F 2 k + 1).toNat) 6, .inl (iA (EF ((F 2 k + 1).toNat) 6))))]) (w1 := ((pU cB (o 11) (rL2 11) (nL2 11) z_20 tl_21 F_22) ++ (iU cI 20 (Eo ((F 2 k + 1).toNat) 1) (Er ((F 2 k + 1).toNat) 0) (En ((F 2 k + 1).toNat) 0) (Ez ((F 2 k + 1).toNat) 0) (EF ((F 2 k + 1).toNat) 0)))) (ws' := ((xU cI cB cE o rL2 nL2 (va_up (va_up zL2 11 z_20) 23 tl_21) (va_up FL2 11 F_22) G (Eo 0 0)) ++ (eU cI (Eo ((F 2 k + 1).toNat)) (Er ((F 2 k + 1).toNat)) (En ((F 2 k + 1).toNat)) (Ez ((F 2 k + 1).toNat)) (EF ((F 2 k + 1).toNat))))) hP hD [27, 28, 30, 31] [0, 1, 2, 3, 4, 5, 6, 7, 8, 9, 10, 11, 12, 13, 14, 15, 16, 17, 18, 19, 20, 21, 22, 23, 24, 25, 26, 29, 32, 33, 34, 35, 36, 37, 38, 39, 40, 41, 42, 43, 44] [0, 1, 2, 3, 4, 5, 6, 7, 8, 9, 10, 11, 12, 13, 14, 15, 16, 17, 18, 19, 20, 21, 22, 23, 24, 25, 26, 41, 42, 27, 43, 44, 28, 29, 30, 31, 32, 33, 34, 35, 36, 37, 38, 39, 40] rfl rfl (by decide) (by decide) hk1 hFc hP1 hD1 rfl (by decide)
          refine W.eq (g2 := F0 m 48 ls []) rfl ?_
          try dsimp only at hq_17
          obtain ⟨hd23, hm23, hz23, ht23, hF23, hX23⟩ := hq_17
          subst hd23
          subst hm23
          have hY23 := pt_X_app hXv hX23
          refine lv_iinc (v := iz (k + 1)) (lv' := [(1, .int (iz (k + 1))), (0, .ref (o 15))]) hx hb dX5_writeSeen_48 hl (k := 0) rfl (iz_add k 1) (by decide) rfl (fun ls hl => ?_)
          refine lv_goto (tgt := 2) hx hb dX5_writeSeen_51 (by decide) ?_
          have hP := eP_un0 hj12 hP
          have hD := eD_un0 hj12 hD
          have hok24 : xOk (va_up nL2 11 (nL2 11)) (va_up (va_up zL2 11 z_20) 23 tl_21) (va_up FL2 11 F_22) := ((hRLL2.1.p 11 (by decide) (show 0 ≤ z_20 ∧ z_20 ≤ ((nL2 11 : Nat) : Int) ∧ (nL2 11 = 0 ∨ nL2 11 = 6000) by omega) hF23).s 23 (by decide) (show -2147483648 ≤ tl_21 ∧ tl_21 < 2147483648 by omega) (by omega))
          have hfr24 : xFr [11, 23] [11] z F (va_up (va_up zL2 11 z_20) 23 tl_21) (va_up FL2 11 F_22) := (((hRLL2.2.1.uz 11 (by decide) _).uz 23 (by decide) _).uf 11 (by decide) _)
          have hcg24 : (0) + xg (va_up nL2 11 (nL2 11)) ≤ xg nL2 := by unfold xg; simp (decide := true) only [va_ev, ↓reduceIte]; omega
          have hcp24 : (0) + xp (va_up nL2 11 (nL2 11)) ≤ xp nL2 := by unfold xp; simp (decide := true) only [va_ev, ↓reduceIte]; omega
          exact ih2 (k + 1) rL2 (va_up nL2 11 (nL2 11)) (va_up (va_up zL2 11 z_20) 23 tl_21) (va_up FL2 11 F_22) (cv + 0) (sv + 0) ⟨⟨hok24, hfr24, hRLL2.2.2.1, hRLL2.2.2.2⟩, ⟨by omega, by omega⟩, (show zL2 12 = z 12 by omega), by omega, (show nL2 11 = 6000 by omega), (pt_X_eq hY23 (by rw [kf_ls_sn (F := F 2) (show 0 ≤ k by omega) (fun _ _ _ => rfl) rfl, pt_bt_k]; rw [show k.toNat = 0 by omega]; rw [if_pos (show kf_ls (F 2) 0 0 = [] from rfl)]; simp only [List.append_assoc, List.nil_append, List.append_nil]; try rfl))⟩ (by omega) _ _ hP hD hS ls (lv_sub hl [0, 1] rfl)
        · skip
          refine lv_aload_n hx hb dX5_writeSeen_17 rfl (lv_at hl 1 rfl) ?_
          refine va_get (D := (dC, dI)) (ci := 5) (v := .ref (o 11)) (C := RX5) (T := TX5) (N := 16) hx hb hts kt_X5 hown hK hP 0 rfl rfl 15 (by decide) (kx_word hG kq_19_xouts_60 rfl) (fun _ h9 => h9) rfl dX5_writeSeen_18 ?_
          refine lv_bipush (v := iz 59) hx hb dX5_writeSeen_21 (by decide) ?_
          have hxp_25 : 0 ≤ zL2 11 ∧ zL2 11 ≤ ((nL2 11 : Nat) : Int) ∧ (nL2 11 = 0 ∨ nL2 11 = 6000) := hRLL2.1.2.1 11 (by decide)
          have hxz_26 : -2147483648 ≤ zL2 23 ∧ zL2 23 < 2147483648 := hRLL2.1.2.2.2.1 23
          have hxb_27 : zL2 23 = 0 ∨ zL2 23 = 1 := hRLL2.1.2.2.2.2 23 (by decide)
          have hPc := hP.sub (ws' := (pU cB (o 11) (rL2 11) (nL2 11) (zL2 11) (zL2 23) (FL2 11))) [27, 28] rfl
          have hDc := hD.sub (ws' := (pU cB (o 11) (rL2 11) (nL2 11) (zL2 11) (zL2 23) (FL2 11))) [27, 28] (by decide) rfl
          have hFc := va_free (wc := (pU cB (o 11) (rL2 11) (nL2 11) (zL2 11) (zL2 23) (FL2 11))) hD hS hA [27, 28] rfl
          refine xk_call (va_runV (As := [.int (iz 59)]) (rest := []) ⟨hx, hb, hml, hown, hts⟩ (x_putBetween2 l dC dI cI cB cE (o 11) (rL2 11) (nL2 11) (zL2 11) (zL2 23) (FL2 11) 59 H.size (by omega) (by omega) (hRLL2.1.2.2.1 11) (by omega) (by omega) (by omega)) (cwV 1 hts (kx_gV kq_19_xouts_66 kq_19_xouts_67 kq_19_xouts_68 kq_15_xspan_17 kq_19_xouts_69 rfl) rfl rfl rfl (by decide +kernel) ⟨Nat.le_of_ble_eq_true rfl, Nat.le_of_ble_eq_true rfl⟩) ⟨kx_blind, va_recv hK hPc (ci := 2) (q0 := 0) rfl rfl, kx_give (ws := []) (tys := []) hPc hDc hK hG hZ hS hFc⟩ rfl rfl hl.1 rfl (lv_room (Nat.le_of_ble_eq_true rfl)) dX5_writeSeen_23 ⟨show cv + 0 ≤ 100 from (by omega), show sv + 0 ≤ 42000 from (by omega)⟩) hS (fun q _ h => hFc q h) hFc (fun u dn_29 dm_30 t H locs ht hvm hq_28 hB hk1 hS => ?_)
          obtain ⟨z_31, tl_32, F_33⟩ := u
          obtain ⟨hP1, hK1, hD1⟩ := hB
          rw [ht] at hP1
          obtain ⟨hP, hD⟩ := xj_pool (wr := [(o 15, .inr (5, [.ref (o 16), .ref (Eo 0 0), .int (iz (zL2 12)), .int (iz (zL2 13)), .int (iz (zL2 14)), .ref (o 0), .ref (o 1), .int (iz (zL2 15)), .ref (o 13), .ref (o 14), .int (iz (zL2 16)), .ref (o 2), .ref (o 12), .ref (o 3), .ref (o 10), .ref (o 11)])), (o 16, .inl (cE, 80, .inr (.inr (.inr (.inr G))))), (o 0, .inr (1, [.int (iz 80), .ref (rL2 0), .int (iz (zL2 0))])), (rL2 0, .inl (cI, nL2 0, .inl (iA (FL2 0)))), (o 1, .inr (1, [.int (iz 80), .ref (rL2 1), .int (iz (zL2 1))])), (rL2 1, .inl (cI, nL2 1, .inl (iA (FL2 1)))), (o 2, .inr (1, [.int (iz 80), .ref (rL2 2), .int (iz (zL2 2))])), (rL2 2, .inl (cI, nL2 2, .inl (iA (FL2 2)))), (o 3, .inr (1, [.int (iz 80), .ref (rL2 3), .int (iz (zL2 3))])), (rL2 3, .inl (cI, nL2 3, .inl (iA (FL2 3)))), (o 13, .inr (3, [.ref (o 4), .ref (o 5), .ref (o 6)])), (o 4, .inr (1, [.int (iz 1600), .ref (rL2 4), .int (iz (zL2 4))])), (rL2 4, .inl (cI, nL2 4, .inl (iA (FL2 4)))), (o 5, .inr (1, [.int (iz 1600), .ref (rL2 5), .int (iz (zL2 5))])), (rL2 5, .inl (cI, nL2 5, .inl (iA (FL2 5)))), (o 6, .inr (1, [.int (iz 1600), .ref (rL2 6), .int (iz (zL2 6))])), (rL2 6, .inl (cI, nL2 6, .inl (iA (FL2 6)))), (o 14, .inr (3, [.ref (o 7), .ref (o 8), .ref (o 9)])), (o 7, .inr (1, [.int (iz 1600), .ref (rL2 7), .int (iz (zL2 7))])), (rL2 7, .inl (cI, nL2 7, .inl (iA (FL2 7)))), (o 8, .inr (1, [.int (iz 1600), .ref (rL2 8), .int (iz (zL2 8))])), (rL2 8, .inl (cI, nL2 8, .inl (iA (FL2 8)))), (o 9, .inr (1, [.int (iz 1600), .ref (rL2 9), .int (iz (zL2 9))])), (rL2 9, .inl (cI, nL2 9, .inl (iA (FL2 9)))), (o 12, .inr (4, [.int (iz (zL2 17)), .int (iz (zL2 18)), .int (iz (zL2 19)), .int (iz (zL2 20)), .int (iz (zL2 21))])), (o 10, .inr (2, [.ref (rL2 10), .int (iz (zL2 10)), .int (iz (zL2 22))])), (rL2 10, .inl (cB, nL2 10, .inl (iA (FL2 10))))]) (w1 := (pU cB (o 11) (rL2 11) (nL2 11) z_31 tl_32 F_33)) (ws' := (xU cI cB cE o rL2 nL2 (va_up (va_up zL2 11 z_31) 23 tl_32) (va_up FL2 11 F_33) G (Eo 0 0))) hP hD [27, 28] [0, 1, 2, 3, 4, 5, 6, 7, 8, 9, 10, 11, 12, 13, 14, 15, 16, 17, 18, 19, 20, 21, 22, 23, 24, 25, 26] [0, 1, 2, 3, 4, 5, 6, 7, 8, 9, 10, 11, 12, 13, 14, 15, 16, 17, 18, 19, 20, 21, 22, 23, 24, 25, 26, 27, 28] rfl rfl (by decide) (by decide) hk1 hFc hP1 hD1 rfl (by decide)
          refine W.eq (g2 := F0 m 26 ls []) rfl ?_
          try dsimp only at hq_28
          obtain ⟨hd34, hm34, hz34, ht34, hF34, hX34⟩ := hq_28
          subst hd34
          subst hm34
          have hY34 := pt_X_app hXv hX34
          refine lv_aload_n hx hb dX5_writeSeen_26 rfl (lv_at hl 1 rfl) ?_
          refine va_get (D := (dC, dI)) (ci := 5) (v := .ref (o 11)) (C := RX5) (T := TX5) (N := 16) hx hb hts kt_X5 hown hK hP 0 rfl rfl 15 (by decide) (kx_word hG kq_19_xouts_60 rfl) (fun _ h9 => h9) rfl dX5_writeSeen_27 ?_
          refine lv_aload_n hx hb dX5_writeSeen_30 rfl (lv_at hl 1 rfl) ?_
          refine lv_aload_n hx hb dX5_writeSeen_31 rfl (lv_at hl 1 rfl) ?_
          refine va_get (D := (dC, dI)) (ci := 5) (v := .ref (o 2)) (C := RX5) (T := TX5) (N := 16) hx hb hts kt_X5 hown hK hP 0 rfl rfl 11 (by decide) (kx_word hG kq_19_xouts_27 rfl) (fun _ h9 => h9) rfl dX5_writeSeen_32 ?_
          refine lv_iload_n hx hb dX5_writeSeen_35 rfl (lv_at hl 0 rfl) ?_
          have hPc := hP.sub (ws' := (iU cI 80 (o 2) (rL2 2) (nL2 2) (zL2 2) (FL2 2))) [6, 7] rfl
          refine xk_pure (va_runV (As := [.int (iz k)]) (rest := [.ref (o 15), .ref (o 11)]) ⟨hx, hb, hml, hown, hts⟩ (x_get l dC dI cI cB cE 80 (o 2) (rL2 2) (nL2 2) (zL2 2) (FL2 2) k H.size (by omega) (hRLL2.1.2.2.1 2) (by omega) (by omega)) (cwV 1 hts (kx_gV kq_18_xrows_41 kq_13_xints_4 kq_13_xints_5 kq_13_xints_6 kq_13_xints_7 rfl) rfl rfl rfl (by decide +kernel) ⟨Nat.le_of_ble_eq_true rfl, Nat.le_of_ble_eq_true rfl⟩) ⟨pPre_blind, va_recv hK hPc (ci := 1) (q0 := 0) rfl rfl, pPre_give hPc hK hG⟩ rfl rfl hl.1 rfl (lv_room (Nat.le_of_ble_eq_true rfl)) dX5_writeSeen_36 ⟨show (cv + 0) + 0 ≤ 100 from (by omega), show (sv + 0) + 0 ≤ 42000 from (by omega)⟩) hS (fun z_36 locs hq_35 hS => ?_)
          refine W.eq (g2 := F0 m 39 ls [.int (iz z_36), .ref (o 15), .ref (o 11)]) rfl ?_
          try dsimp only at hq_35
          have e9 := congrFun (hRLL2.2.1.2 2 (by decide)) k
          have eg_37 : z_36 = F 2 k := by omega
          subst eg_37
          refine W.eq (g2 := F0 m 39 ls [.int (iz (F 2 k)), .ref (o 15), .ref (o 11)]) rfl ?_
          replace hq_35 := fun (_ : Unit) => hq_35
          have hok38 : xOk (va_up nL2 11 (nL2 11)) (va_up (va_up zL2 11 z_31) 23 tl_32) (va_up FL2 11 F_33) := ((hRLL2.1.p 11 (by decide) (show 0 ≤ z_31 ∧ z_31 ≤ ((nL2 11 : Nat) : Int) ∧ (nL2 11 = 0 ∨ nL2 11 = 6000) by omega) hF34).s 23 (by decide) (show -2147483648 ≤ tl_32 ∧ tl_32 < 2147483648 by omega) (by omega))
          have hfr38 : xFr [11, 23] [11] z F (va_up (va_up zL2 11 z_31) 23 tl_32) (va_up FL2 11 F_33) := (((hRLL2.2.1.uz 11 (by decide) _).uz 23 (by decide) _).uf 11 (by decide) _)
          have hcg38 : (0) + xg (va_up nL2 11 (nL2 11)) ≤ xg nL2 := by unfold xg; simp (decide := true) only [va_ev, ↓reduceIte]; omega
          have hcp38 : (0) + xp (va_up nL2 11 (nL2 11)) ≤ xp nL2 := by unfold xp; simp (decide := true) only [va_ev, ↓reduceIte]; omega
          have hxz_39 : -2147483648 ≤ zL2 12 ∧ zL2 12 < 2147483648 := hRLL2.1.2.2.2.1 12
          have hxG9 : xG N (zL2 12) G Eo := ⟨by omega, by omega, by omega, fun e9 h9 => hN4 e9 (by omega)⟩
          have hP : va_P (dC, dI) kxCl (xU cI cB cE o rL2 (va_up nL2 11 (nL2 11)) (va_up (va_up zL2 11 z_31) 23 tl_32) (va_up FL2 11 F_33) G (Eo 0 0) ++ eP cI N Eo Er En Ez EF) H := hP
          refine xk_pure (va_runV (As := [.int (iz (F 2 k))]) (rest := [.ref (o 11)]) ⟨hx, hb, hml, hown, hts⟩ (y_known l dC dI cI cB cE o rL2 (va_up nL2 11 (nL2 11)) (va_up (va_up zL2 11 z_31) 23 tl_32) (va_up FL2 11 F_33) G N Eo Er En Ez EF (F 2 k) H.size hok38 hxG9 hRLL2.2.2.1 (by omega) (by omega)) (cwV 1 hts (kx_gV kq_18_xrows_8 kq_18_xrows_9 kq_18_xrows_10 kq_18_xrows_4 kq_18_xrows_11 rfl) rfl rfl rfl (by decide +kernel) ⟨Nat.le_of_ble_eq_true rfl, Nat.le_of_ble_eq_true rfl⟩) ⟨pPre_blind, va_recv hK hP (ci := 5) (q0 := 0) rfl rfl, pPre_give hP hK hG⟩ rfl rfl hl.1 rfl (lv_room (Nat.le_of_ble_eq_true rfl)) dX5_writeSeen_39 ⟨show (cv + 0) + 0 ≤ 100 from (by omega), show (sv + 0) + 0 ≤ 42000 from (by omega)⟩) hS (fun z_41 locs hq_40 hS => ?_)
          refine W.eq (g2 := F0 m 42 ls [.ref z_41.toNat, .ref (o 11)]) rfl ?_
          try dsimp only at hq_40
          try simp (decide := true) only [va_ev, ↓reduceIte] at hq_40
          obtain ⟨j42, hj42, ez42, hje42⟩ := hq_40
          subst ez42
          refine W.eq (g2 := F0 m 42 ls [.ref (Eo j42 0), .ref (o 11)]) rfl ?_
          have ej42 : j42 = (F 2 k + 1).toNat := by omega
          subst ej42
          have hP := eP_foc hj42 hP
          have hD := eD_foc hj42 hD
          refine va_getN (D := (dC, dI)) (ci := 0) (v := .ref (Eo ((F 2 k + 1).toNat) 1)) (C := RX0) (T := TX0) (N := 12) hx hb hts kt_X0 hown hK hP 29 rfl rfl 2 (by decide) (va_Nw.use rfl (kx_nf hG kq_19_xouts_70)) (fun _ h9 => h9) rfl dX5_writeSeen_42 ?_
          have he_43 : 0 ≤ Ez ((F 2 k + 1).toNat) 0 ∧ Ez ((F 2 k + 1).toNat) 0 ≤ ((En ((F 2 k + 1).toNat) 0 : Nat) : Int) ∧ ((En ((F 2 k + 1).toNat) 0 : Nat) : Int) ≤ 20 := (hRLL2.2.2.1 ((F 2 k + 1).toNat) hj42).1 0 (by decide)
          have hPc := hP.sub (ws' := ((pU cB (o 11) (rL2 11) (nL2 11) z_31 tl_32 F_33) ++ (iU cI 20 (Eo ((F 2 k + 1).toNat) 1) (Er ((F 2 k + 1).toNat) 0) (En ((F 2 k + 1).toNat) 0) (Ez ((F 2 k + 1).toNat) 0) (EF ((F 2 k + 1).toNat) 0)))) [27, 28, 30, 31] rfl
          have hDc := hD.sub (ws' := ((pU cB (o 11) (rL2 11) (nL2 11) z_31 tl_32 F_33) ++ (iU cI 20 (Eo ((F 2 k + 1).toNat) 1) (Er ((F 2 k + 1).toNat) 0) (En ((F 2 k + 1).toNat) 0) (Ez ((F 2 k + 1).toNat) 0) (EF ((F 2 k + 1).toNat) 0)))) [27, 28, 30, 31] (by decide) rfl
          have hFc := va_free (wc := ((pU cB (o 11) (rL2 11) (nL2 11) z_31 tl_32 F_33) ++ (iU cI 20 (Eo ((F 2 k + 1).toNat) 1) (Er ((F 2 k + 1).toNat) 0) (En ((F 2 k + 1).toNat) 0) (Ez ((F 2 k + 1).toNat) 0) (EF ((F 2 k + 1).toNat) 0)))) hD hS hA [27, 28, 30, 31] rfl
          refine xk_call (va_runV (As := [.ref (Eo ((F 2 k + 1).toNat) 1)]) (rest := []) ⟨hx, hb, hml, hown, hts⟩ (x_putAll2 l dC dI cI cB cE (o 11) (rL2 11) (nL2 11) z_31 tl_32 F_33 20 (Eo ((F 2 k + 1).toNat) 1) (Er ((F 2 k + 1).toNat) 0) (En ((F 2 k + 1).toNat) 0) (Ez ((F 2 k + 1).toNat) 0) (EF ((F 2 k + 1).toNat) 0)  H.size (by omega) (by omega) hF34 (by omega) (by omega) ((hRLL2.2.2.1 ((F 2 k + 1).toNat) hj42).2.1 0)) (cwV 1 hts (kx_gV kq_19_xouts_71 kq_19_xouts_72 kq_19_xouts_73 kq_15_xspan_17 kq_19_xouts_74 rfl) rfl rfl rfl (by decide +kernel) ⟨Nat.le_of_ble_eq_true rfl, Nat.le_of_ble_eq_true rfl⟩) ⟨kx_blind, va_recv hK hPc (ci := 2) (q0 := 0) rfl rfl, kx_give (ws := []) (tys := []) hPc hDc hK hG hZ hS hFc⟩ rfl rfl hl.1 rfl (lv_room (Nat.le_of_ble_eq_true rfl)) dX5_writeSeen_45 ⟨show (cv + 0) + 0 ≤ 100 from (by omega), show (sv + 0) + 0 ≤ 42000 from (by omega)⟩) hS (fun q _ h => hFc q h) hFc (fun u dn_45 dm_46 t H locs ht hvm hq_44 hB hk1 hS => ?_)
          obtain ⟨z_47, tl_48, F_49⟩ := u
          obtain ⟨hP1, hK1, hD1⟩ := hB
          rw [ht] at hP1
          obtain ⟨hP, hD⟩ := xj_pool (wr := [(o 15, .inr (5, [.ref (o 16), .ref (Eo 0 0), .int (iz (zL2 12)), .int (iz (zL2 13)), .int (iz (zL2 14)), .ref (o 0), .ref (o 1), .int (iz (zL2 15)), .ref (o 13), .ref (o 14), .int (iz (zL2 16)), .ref (o 2), .ref (o 12), .ref (o 3), .ref (o 10), .ref (o 11)])), (o 16, .inl (cE, 80, .inr (.inr (.inr (.inr G))))), (o 0, .inr (1, [.int (iz 80), .ref (rL2 0), .int (iz (zL2 0))])), (rL2 0, .inl (cI, nL2 0, .inl (iA (FL2 0)))), (o 1, .inr (1, [.int (iz 80), .ref (rL2 1), .int (iz (zL2 1))])), (rL2 1, .inl (cI, nL2 1, .inl (iA (FL2 1)))), (o 2, .inr (1, [.int (iz 80), .ref (rL2 2), .int (iz (zL2 2))])), (rL2 2, .inl (cI, nL2 2, .inl (iA (FL2 2)))), (o 3, .inr (1, [.int (iz 80), .ref (rL2 3), .int (iz (zL2 3))])), (rL2 3, .inl (cI, nL2 3, .inl (iA (FL2 3)))), (o 13, .inr (3, [.ref (o 4), .ref (o 5), .ref (o 6)])), (o 4, .inr (1, [.int (iz 1600), .ref (rL2 4), .int (iz (zL2 4))])), (rL2 4, .inl (cI, nL2 4, .inl (iA (FL2 4)))), (o 5, .inr (1, [.int (iz 1600), .ref (rL2 5), .int (iz (zL2 5))])), (rL2 5, .inl (cI, nL2 5, .inl (iA (FL2 5)))), (o 6, .inr (1, [.int (iz 1600), .ref (rL2 6), .int (iz (zL2 6))])), (rL2 6, .inl (cI, nL2 6, .inl (iA (FL2 6)))), (o 14, .inr (3, [.ref (o 7), .ref (o 8), .ref (o 9)])), (o 7, .inr (1, [.int (iz 1600), .ref (rL2 7), .int (iz (zL2 7))])), (rL2 7, .inl (cI, nL2 7, .inl (iA (FL2 7)))), (o 8, .inr (1, [.int (iz 1600), .ref (rL2 8), .int (iz (zL2 8))])), (rL2 8, .inl (cI, nL2 8, .inl (iA (FL2 8)))), (o 9, .inr (1, [.int (iz 1600), .ref (rL2 9), .int (iz (zL2 9))])), (rL2 9, .inl (cI, nL2 9, .inl (iA (FL2 9)))), (o 12, .inr (4, [.int (iz (zL2 17)), .int (iz (zL2 18)), .int (iz (zL2 19)), .int (iz (zL2 20)), .int (iz (zL2 21))])), (o 10, .inr (2, [.ref (rL2 10), .int (iz (zL2 10)), .int (iz (zL2 22))])), (rL2 10, .inl (cB, nL2 10, .inl (iA (FL2 10)))), (Eo ((F 2 k + 1).toNat) 0, .inr (0, [.int (iz (Ez ((F 2 k + 1).toNat) 7)), .int (iz (Ez ((F 2 k + 1).toNat) 8)), .ref (Eo ((F 2 k + 1).toNat) 1), .ref (Eo ((F 2 k + 1).toNat) 2), .ref (Eo ((F 2 k + 1).toNat) 3), .ref (Eo ((F 2 k + 1).toNat) 5), .ref (Eo ((F 2 k + 1).toNat) 4), .int (iz (Ez ((F 2 k + 1).toNat) 9)), .int (iz (Ez ((F 2 k + 1).toNat) 10)), .int (iz (Ez ((F 2 k + 1).toNat) 11)), .int (iz (Ez ((F 2 k + 1).toNat) 12)), .int (iz (Ez ((F 2 k + 1).toNat) 13))])), (Eo ((F 2 k + 1).toNat) 2, .inr (1, [.int (iz 20), .ref (Er ((F 2 k + 1).toNat) 1), .int (iz (Ez ((F 2 k + 1).toNat) 1))])), (Er ((F 2 k + 1).toNat) 1, .inl (cI, En ((F 2 k + 1).toNat) 1, .inl (iA (EF ((F 2 k + 1).toNat) 1)))), (Eo ((F 2 k + 1).toNat) 3, .inr (1, [.int (iz 40), .ref (Er ((F 2 k + 1).toNat) 2), .int (iz (Ez ((F 2 k + 1).toNat) 2))])), (Er ((F 2 k + 1).toNat) 2, .inl (cI, En ((F 2 k + 1).toNat) 2, .inl (iA (EF ((F 2 k + 1).toNat) 2)))), (Eo ((F 2 k + 1).toNat) 4, .inr (1, [.int (iz 5), .ref (Er ((F 2 k + 1).toNat) 3), .int (iz (Ez ((F 2 k + 1).toNat) 3))])), (Er ((F 2 k + 1).toNat) 3, .inl (cI, En ((F 2 k + 1).toNat) 3, .inl (iA (EF ((F 2 k + 1).toNat) 3)))), (Eo ((F 2 k + 1).toNat) 5, .inr (3, [.ref (Eo ((F 2 k + 1).toNat) 6), .ref (Eo ((F 2 k + 1).toNat) 7), .ref (Eo ((F 2 k + 1).toNat) 8)])), (Eo ((F 2 k + 1).toNat) 6, .inr (1, [.int (iz 20), .ref (Er ((F 2 k + 1).toNat) 4), .int (iz (Ez ((F 2 k + 1).toNat) 4))])), (Er ((F 2 k + 1).toNat) 4, .inl (cI, En ((F 2 k + 1).toNat) 4, .inl (iA (EF ((F 2 k + 1).toNat) 4)))), (Eo ((F 2 k + 1).toNat) 7, .inr (1, [.int (iz 20), .ref (Er ((F 2 k + 1).toNat) 5), .int (iz (Ez ((F 2 k + 1).toNat) 5))])), (Er ((F 2 k + 1).toNat) 5, .inl (cI, En ((F 2 k + 1).toNat) 5, .inl (iA (EF ((F 2 k + 1).toNat) 5)))), (Eo ((F 2 k + 1).toNat) 8, .inr (1, [.int (iz 20), .ref (Er ((F 2 k + 1).toNat) 6), .int (iz (Ez ((F 2 k + 1).toNat) 6))])), (Er ((F 2 k + 1).toNat) 6, .inl (cI, En ((F 2 k + 1).toNat) 6, .inl (iA (EF ((F 2 k + 1).toNat) 6))))]) (w1 := ((pU cB (o 11) (rL2 11) (nL2 11) z_47 tl_48 F_49) ++ (iU cI 20 (Eo ((F 2 k + 1).toNat) 1) (Er ((F 2 k + 1).toNat) 0) (En ((F 2 k + 1).toNat) 0) (Ez ((F 2 k + 1).toNat) 0) (EF ((F 2 k + 1).toNat) 0)))) (ws' := ((xU cI cB cE o rL2 (va_up nL2 11 (nL2 11)) (va_up (va_up zL2 11 z_47) 23 tl_48) (va_up FL2 11 F_49) G (Eo 0 0)) ++ (eU cI (Eo ((F 2 k + 1).toNat)) (Er ((F 2 k + 1).toNat)) (En ((F 2 k + 1).toNat)) (Ez ((F 2 k + 1).toNat)) (EF ((F 2 k + 1).toNat))))) hP hD [27, 28, 30, 31] [0, 1, 2, 3, 4, 5, 6, 7, 8, 9, 10, 11, 12, 13, 14, 15, 16, 17, 18, 19, 20, 21, 22, 23, 24, 25, 26, 29, 32, 33, 34, 35, 36, 37, 38, 39, 40, 41, 42, 43, 44] [0, 1, 2, 3, 4, 5, 6, 7, 8, 9, 10, 11, 12, 13, 14, 15, 16, 17, 18, 19, 20, 21, 22, 23, 24, 25, 26, 41, 42, 27, 43, 44, 28, 29, 30, 31, 32, 33, 34, 35, 36, 37, 38, 39, 40] rfl rfl (by decide) (by decide) hk1 hFc hP1 hD1 rfl (by decide)
          refine W.eq (g2 := F0 m 48 ls []) rfl ?_
          try dsimp only at hq_44
          obtain ⟨hd50, hm50, hz50, ht50, hF50, hX50⟩ := hq_44
          subst hd50
          subst hm50
          have hY50 := pt_X_app hY34 hX50
          refine lv_iinc (v := iz (k + 1)) (lv' := [(1, .int (iz (k + 1))), (0, .ref (o 15))]) hx hb dX5_writeSeen_48 hl (k := 0) rfl (iz_add k 1) (by decide) rfl (fun ls hl => ?_)
          refine lv_goto (tgt := 2) hx hb dX5_writeSeen_51 (by decide) ?_
          have hP := eP_un0 hj42 hP
          have hD := eD_un0 hj42 hD
          have hok51 : xOk (va_up nL2 11 (nL2 11)) (va_up (va_up zL2 11 z_47) 23 tl_48) (va_up FL2 11 F_49) := ((hRLL2.1.p 11 (by decide) (show 0 ≤ z_47 ∧ z_47 ≤ ((nL2 11 : Nat) : Int) ∧ (nL2 11 = 0 ∨ nL2 11 = 6000) by omega) hF50).s 23 (by decide) (show -2147483648 ≤ tl_48 ∧ tl_48 < 2147483648 by omega) (by omega))
          have hfr51 : xFr [11, 23] [11] z F (va_up (va_up zL2 11 z_47) 23 tl_48) (va_up FL2 11 F_49) := (((hRLL2.2.1.uz 11 (by decide) _).uz 23 (by decide) _).uf 11 (by decide) _)
          have hcg51 : (0) + xg (va_up nL2 11 (nL2 11)) ≤ xg nL2 := by unfold xg; simp (decide := true) only [va_ev, ↓reduceIte]; omega
          have hcp51 : (0) + xp (va_up nL2 11 (nL2 11)) ≤ xp nL2 := by unfold xp; simp (decide := true) only [va_ev, ↓reduceIte]; omega
          exact ih2 (k + 1) rL2 (va_up nL2 11 (nL2 11)) (va_up (va_up zL2 11 z_47) 23 tl_48) (va_up FL2 11 F_49) ((cv + 0) + 0) ((sv + 0) + 0) ⟨⟨hok51, hfr51, hRLL2.2.2.1, hRLL2.2.2.2⟩, ⟨by omega, by omega⟩, (show zL2 12 = z 12 by omega), by omega, (show nL2 11 = 6000 by omega), (pt_X_eq hY50 (by rw [kf_ls_sn (F := F 2) (show 0 ≤ k by omega) (fun _ _ _ => rfl) rfl, pt_bt_k]; rw [if_neg (fun h9 => by have h8 := congrArg List.length h9; rw [kf_ls_len] at h8; have h7 : k.toNat = 0 := h8; omega)]; simp only [List.append_assoc, List.nil_append, List.append_nil]; try rfl))⟩ (by omega) _ _ hP hD hS ls (lv_sub hl [0, 1] rfl)
  exact lp2 _ 0 r n z F 0 0 ⟨⟨hok, hfr, hPE, hef⟩, ⟨by omega, by omega⟩, (show z 12 = z 12 by omega), by omega, hn6, (pt_X_eq hX0 rfl)⟩ (Nat.lt_succ_self _) _ _ hP hD hS ls (lv_sub hl [0, 1] rfl)
set_option maxHeartbeats 4000000 in
set_option maxRecDepth 100000 in
theorem y_writeMark2 (l : Launch) (dC : Nat → ClassId) (dI : Nat → Nat → Nat) (cI cB cE : ClassId) (o r n : Nat → Nat) (z : Nat → Int) (F : Nat → Int → Int) (G : Nat → Option Nat) (N : Nat) (Eo Er En : Nat → Nat → Nat) (Ez : Nat → Nat → Int) (EF : Nat → Nat → Int → Int) (p0 : Int) (p1 : Int) (p2 : Int) (p3 : Int) (sz : Nat) (hok : xOk n z F) (hxG : xG N (z 12) G Eo) (hPE : eA N En Ez EF) (hp01 : -2147483648 ≤ p0) (hp02 : p0 < 2147483648) (hp31 : -2147483648 ≤ p3) (hp32 : p3 < 2147483648) (hp1 : p1 = 0 ∨ p1 = 1) (hp2 : 0 ≤ p2 ∧ p2 < z 12) (hn6 : n 11 = 6000) (hlz : (z 7 = z 8 ∧ z 8 = z 9)) (hpv : ∀ y, y ∈ (lo_pl (F 7) (F 8) (z 7).toNat 0) → pt_v y.1 ∧ pt_v y.2) (hsv : ∀ i, 0 ≤ i → i < z 2 → 0 ≤ F 2 i ∧ F 2 i < z 12) : Met l yX5_writeMark [.code yX5_writeMark cX5_writeMark 5 none] ({ frames := 4, cells := 100, slots := 42000, locals := 89 }) (va_Pc [.ref (o 15), .int (iz p0), .int (iz p1), .int (iz p2), .int (iz p3)] (kx_Pre dC dI (xU cI cB cE o r n z F G (Eo 0 0) ++ eP cI N Eo Er En Ez EF) (xT cI cB cE) sz)) (xQ (fun _ : (Nat → Nat) × (Nat → Nat) × (Nat → Int) × (Nat → Int → Int) × (Nat → Nat → Nat) × (Nat → Nat → Nat) × (Nat → Nat → Int) × (Nat → Nat → Int → Int) => none) (fun (u : (Nat → Nat) × (Nat → Nat) × (Nat → Int) × (Nat → Int → Int) × (Nat → Nat → Nat) × (Nat → Nat → Nat) × (Nat → Nat → Int) × (Nat → Nat → Int → Int)) (dn dm : Nat) => match u with | (r', n', z', F', Er', En', Ez', EF') => xR [11, 23] [11] [] [] N z F En Ez EF n' z' F' En' Ez' EF' ∧ (dn + xg n' ≤ xg n + 0 ∧ dm + xp n' ≤ xp n + 0) ∧ (pt_X (F 11) (z 11) (z 23) (pt_l (pt_mw (pt_wd Ez EF p2) (pt_bt pt_lo 44 (lo_pl (F 7) (F 8) (z 7).toNat 0)) (pt_bt (pt_wd Ez EF) 59 (kf_ls (F 2) 0 (z 2).toNat)) p1 p3 p0)) (F' 11) (z' 11) (z' 23) ∧ n' 11 = 6000 ∧ Er = Er' ∧ En = En' ∧ Ez = Ez' ∧ EF = EF')) (fun u t => kx_At dC dI (va_A (xU cI cB cE o r n z F G (Eo 0 0) ++ eP cI N Eo Er En Ez EF) sz) ((fun u : (Nat → Nat) × (Nat → Nat) × (Nat → Int) × (Nat → Int → Int) × (Nat → Nat → Nat) × (Nat → Nat → Nat) × (Nat → Nat → Int) × (Nat → Nat → Int → Int) => match u with | (r', n', z', F', Er', En', Ez', EF') => (xU cI cB cE o r' n' z' F' G (Eo 0 0) ++ eP cI N Eo Er' En' Ez' EF')) u) (xT cI cB cE) t) (va_A (xU cI cB cE o r n z F G (Eo 0 0) ++ eP cI N Eo Er En Ez EF) sz)) 100 42000 (va_A (xU cI cB cE o r n z F G (Eo 0 0) ++ eP cI N Eo Er En Ez EF) sz) := by
  refine Met.ofW (cc := cX5_writeMark) (maxL := 5) (ret := none) (by decide) rfl ?_
  intro p e s m args below meth c s₁ B hml hv
  obtain ⟨rfl, hsz, hP, hK, hD0, hG, hZ⟩ := hv
  have hx := B.exec
  have hb := B.bytes
  have hr := B.returns
  have hts := kx_hts (a := ([.ref (o 15), .int (iz p0), .int (iz p1), .int (iz p2), .int (iz p3)] : List Value).toArray) hG
  have hown : s.vm.findClass RX5 = some m.cls := findClass_of_methodNamed B.named
  have hlocks := B.notSynchronized
  subst hsz
  have hD := hD0.self (sz := s.heap.size)
  generalize hAe : va_A (xU cI cB cE o r n z F G (Eo 0 0) ++ eP cI N Eo Er En Ez EF) s.heap.size = A at hD hZ ⊢
  have hA : ∀ q : Nat, s.heap.size ≤ q → A q := fun q h => by rw [← hAe]; exact Or.inr h
  have hS : va_S A s.heap s.heap [] := va_S.rf
  have hl := lv_entry ([.ref (o 15), .int (iz p0), .int (iz p1), .int (iz p2), .int (iz p3)]) (n := 5) (Nat.le_of_ble_eq_true rfl)
  rw [lg_entry_eq]
  generalize (lg_sl ([.ref (o 15), .int (iz p0), .int (iz p1), .int (iz p2), .int (iz p3)]) ++ List.replicate (5 - (lg_sl ([.ref (o 15), .int (iz p0), .int (iz p1), .int (iz p2), .int (iz p3)])).length) Slot.unset).toArray = ls at hl ⊢
  obtain ⟨hN1, hN2, hN3, hN4⟩ := hxG
  have hef : eFr [] [] En Ez EF En Ez EF := eFr.rf
  have hfr : xFr [11, 23] [11] z F z F := xFr.rf
  have hxgl := xg_le n
  have hxpl := xp_le n
  have hl : lv_has ls 5 [(0, .ref (o 15)), (1, .int (iz p0)), (2, .int (iz p1)), (3, .int (iz p2)), (4, .int (iz p3))] := hl
  have hX0 := pt_X_nil (F 11) (z 11) (z 23)
  refine lv_iload_n hx hb dX5_writeMark_0 rfl (lv_at hl 1 rfl) ?_
  refine lv_bipush (v := iz 37) hx hb dX5_writeMark_1 (by decide) ?_
  refine ki_icmp_ne (tgt := 18) hx hb dX5_writeMark_3 (by decide) (by omega) (by omega) (by omega) (by omega) (fun c_1 => ?_) (fun c_1 => ?_)
  · skip
    refine lv_iload_n hx hb dX5_writeMark_18 rfl (lv_at hl 1 rfl) ?_
    refine lv_bipush (v := iz 110) hx hb dX5_writeMark_19 (by decide) ?_
    refine ki_icmp_ne (tgt := 36) hx hb dX5_writeMark_21 (by decide) (by omega) (by omega) (by omega) (by omega) (fun c_2 => ?_) (fun c_2 => ?_)
    · skip
      refine lv_iload_n hx hb dX5_writeMark_36 rfl (lv_at hl 1 rfl) ?_
      refine lv_bipush (v := iz 103) hx hb dX5_writeMark_37 (by decide) ?_
      refine ki_icmp_ne (tgt := 69) hx hb dX5_writeMark_39 (by decide) (by omega) (by omega) (by omega) (by omega) (fun c_3 => ?_) (fun c_3 => ?_)
      · skip
        refine lv_iload_n hx hb dX5_writeMark_69 rfl (lv_at hl 1 rfl) ?_
        refine lv_bipush (v := iz 119) hx hb dX5_writeMark_70 (by decide) ?_
        refine ki_icmp_ne (tgt := 97) hx hb dX5_writeMark_72 (by decide) (by omega) (by omega) (by omega) (by omega) (fun c_4 => ?_) (fun c_4 => ?_)
        · skip
          refine lv_iload_n hx hb dX5_writeMark_97 rfl (lv_at hl 1 rfl) ?_
          refine lv_bipush (v := iz 112) hx hb dX5_writeMark_98 (by decide) ?_
          refine ki_icmp_ne (tgt := 114) hx hb dX5_writeMark_100 (by decide) (by omega) (by omega) (by omega) (by omega) (fun c_5 => ?_) (fun c_5 => ?_)
          · skip
            refine lv_iload_n hx hb dX5_writeMark_114 rfl (lv_at hl 1 rfl) ?_
            refine lv_bipush (v := iz 115) hx hb dX5_writeMark_115 (by decide) ?_
            refine ki_icmp_ne (tgt := 128) hx hb dX5_writeMark_117 (by decide) (by omega) (by omega) (by omega) (by omega) (fun c_6 => ?_) (fun c_6 => ?_)
            · skip
              exact xk_vret (ov := (fun _ : (Nat → Nat) × (Nat → Nat) × (Nat → Int) × (Nat → Int → Int) × (Nat → Nat → Nat) × (Nat → Nat → Nat) × (Nat → Nat → Int) × (Nat → Nat → Int → Int) => none)) (post := (fun (u : (Nat → Nat) × (Nat → Nat) × (Nat → Int) × (Nat → Int → Int) × (Nat → Nat → Nat) × (Nat → Nat → Nat) × (Nat → Nat → Int) × (Nat → Nat → Int → Int)) (dn dm : Nat) => match u with | (r', n', z', F', Er', En', Ez', EF') => xR [11, 23] [11] [] [] N z F En Ez EF n' z' F' En' Ez' EF' ∧ (dn + xg n' ≤ xg n + 0 ∧ dm + xp n' ≤ xp n + 0) ∧ (pt_X (F 11) (z 11) (z 23) (pt_l (pt_mw (pt_wd Ez EF p2) (pt_bt pt_lo 44 (lo_pl (F 7) (F 8) (z 7).toNat 0)) (pt_bt (pt_wd Ez EF) 59 (kf_ls (F 2) 0 (z 2).toNat)) p1 p3 p0)) (F' 11) (z' 11) (z' 23) ∧ n' 11 = 6000 ∧ Er = Er' ∧ En = En' ∧ Ez = Ez' ∧ EF = EF'))) (ws := (fun u : (Nat → Nat) × (Nat → Nat) × (Nat → Int) × (Nat → Int → Int) × (Nat → Nat → Nat) × (Nat → Nat → Nat) × (Nat → Nat → Int) × (Nat → Nat → Int → Int) => match u with | (r', n', z', F', Er', En', Ez', EF') => (xU cI cB cE o r' n' z' F' G (Eo 0 0) ++ eP cI N Eo Er' En' Ez' EF'))) (tys := xT cI cB cE) (r, n, z, F, Er, En, Ez, EF) hx hb hr hlocks rfl hP hD hK hS dX5_writeMark_128 (fun dn dm hdn hdm => ⟨⟨hok, hfr, hPE, hef⟩, ⟨by omega, by omega⟩, ⟨(pt_X_eq hX0 (by rw [pt_mw_0 (by omega) (by omega) (by omega) (by omega)]; rfl)), hn6, rfl, rfl, rfl, rfl⟩⟩) (by omega) (by omega)
            · skip
              refine lv_iload_n hx hb dX5_writeMark_120 rfl (lv_at hl 2 rfl) ?_
              refine ki_if_eq (tgt := 128) hx hb dX5_writeMark_121 (by decide) (by omega) (by omega) (fun c_7 => ?_) (fun c_7 => ?_)
              · skip
                exact xk_vret (ov := (fun _ : (Nat → Nat) × (Nat → Nat) × (Nat → Int) × (Nat → Int → Int) × (Nat → Nat → Nat) × (Nat → Nat → Nat) × (Nat → Nat → Int) × (Nat → Nat → Int → Int) => none)) (post := (fun (u : (Nat → Nat) × (Nat → Nat) × (Nat → Int) × (Nat → Int → Int) × (Nat → Nat → Nat) × (Nat → Nat → Nat) × (Nat → Nat → Int) × (Nat → Nat → Int → Int)) (dn dm : Nat) => match u with | (r', n', z', F', Er', En', Ez', EF') => xR [11, 23] [11] [] [] N z F En Ez EF n' z' F' En' Ez' EF' ∧ (dn + xg n' ≤ xg n + 0 ∧ dm + xp n' ≤ xp n + 0) ∧ (pt_X (F 11) (z 11) (z 23) (pt_l (pt_mw (pt_wd Ez EF p2) (pt_bt pt_lo 44 (lo_pl (F 7) (F 8) (z 7).toNat 0)) (pt_bt (pt_wd Ez EF) 59 (kf_ls (F 2) 0 (z 2).toNat)) p1 p3 p0)) (F' 11) (z' 11) (z' 23) ∧ n' 11 = 6000 ∧ Er = Er' ∧ En = En' ∧ Ez = Ez' ∧ EF = EF'))) (ws := (fun u : (Nat → Nat) × (Nat → Nat) × (Nat → Int) × (Nat → Int → Int) × (Nat → Nat → Nat) × (Nat → Nat → Nat) × (Nat → Nat → Int) × (Nat → Nat → Int → Int) => match u with | (r', n', z', F', Er', En', Ez', EF') => (xU cI cB cE o r' n' z' F' G (Eo 0 0) ++ eP cI N Eo Er' En' Ez' EF'))) (tys := xT cI cB cE) (r, n, z, F, Er, En, Ez, EF) hx hb hr hlocks rfl hP hD hK hS dX5_writeMark_128 (fun dn dm hdn hdm => ⟨⟨hok, hfr, hPE, hef⟩, ⟨by omega, by omega⟩, ⟨(pt_X_eq hX0 (by rw [pt_mw_0 (by omega) (by omega) (by omega) (by omega)]; rfl)), hn6, rfl, rfl, rfl, rfl⟩⟩) (by omega) (by omega)
              · skip
                refine lv_aload_n hx hb dX5_writeMark_124 rfl (lv_at hl 0 rfl) ?_
                have hxz_8 : -2147483648 ≤ z 12 ∧ z 12 < 2147483648 := hok.2.2.2.1 12
                have hxG9 : xG N (z 12) G Eo := ⟨by omega, by omega, by omega, fun e9 h9 => hN4 e9 (by omega)⟩
                have hP : va_P (dC, dI) kxCl (xU cI cB cE o r n z F G (Eo 0 0) ++ eP cI N Eo Er En Ez EF) s.heap := hP
                have hD : va_D A (xU cI cB cE o r n z F G (Eo 0 0) ++ eP cI N Eo Er En Ez EF) := hD
                have hFc := xw_free hD hS hA
                refine xk_call (va_runV (As := []) (rest := []) ⟨hx, hb, hml, hown, hts⟩ (y_writeSeen2 l dC dI cI cB cE o r n z F G N Eo Er En Ez EF  s.heap.size hok hxG9 hPE hn6 hsv) (cwV 0 hts (kx_gV kq_19_xouts_75 kq_19_xouts_76 kq_19_xouts_77 kq_18_xrows_4 kq_19_xouts_78 rfl) rfl rfl rfl (by decide +kernel) ⟨Nat.le_of_ble_eq_true rfl, Nat.le_of_ble_eq_true rfl⟩) ⟨kx_blind, va_recv hK hP (ci := 5) (q0 := 0) rfl rfl, kx_give (ws := []) (tys := []) hP hD hK hG hZ hS hFc⟩ rfl rfl hl.1 rfl (lv_room (Nat.le_of_ble_eq_true rfl)) dX5_writeMark_125 ⟨show 0 + 100 ≤ 100 from (by omega), show 0 + 42000 ≤ 42000 from (by omega)⟩) hS (fun q _ h => hFc q h) hFc (fun u dn_11 dm_12 t H locs ht hvm hq_9 hB hk1 hS => ?_)
                obtain ⟨r_13, n_14, z_15, F_16, Er_17, En_18, Ez_19, EF_20⟩ := u
                obtain ⟨hP, hK1, hD1⟩ := hB
                rw [ht] at hP
                have hD := hD1.weaken (fun _ q _ h => hFc _ h)
                obtain ⟨hR21, hC21, hq_9⟩ := hq_9
                have hok21 := hR21.1
                have hfr21 := hfr.tr (hR21.2.1.mono (S' := [11, 23]) (T' := [11]) (by decide) (by decide))
                have hPE21 := hR21.2.2.1
                have hef21 := hef.tr (hR21.2.2.2.mono (S' := []) (T' := []) (by decide) (by decide))
                have hz21 : z_15 12 = (z 12) := hR21.2.1.1 12 (by decide)
                refine W.eq (g2 := F0 m 128 ls []) rfl ?_
                try dsimp only at hq_9
                obtain ⟨hX22, hnn22, hkp22⟩ := hq_9
                obtain ⟨rfl, rfl, rfl, rfl⟩ := hkp22
                have hY22 := pt_X_app hX0 hX22
                exact xk_vret (ov := (fun _ : (Nat → Nat) × (Nat → Nat) × (Nat → Int) × (Nat → Int → Int) × (Nat → Nat → Nat) × (Nat → Nat → Nat) × (Nat → Nat → Int) × (Nat → Nat → Int → Int) => none)) (post := (fun (u : (Nat → Nat) × (Nat → Nat) × (Nat → Int) × (Nat → Int → Int) × (Nat → Nat → Nat) × (Nat → Nat → Nat) × (Nat → Nat → Int) × (Nat → Nat → Int → Int)) (dn dm : Nat) => match u with | (r', n', z', F', Er', En', Ez', EF') => xR [11, 23] [11] [] [] N z F En Ez EF n' z' F' En' Ez' EF' ∧ (dn + xg n' ≤ xg n + 0 ∧ dm + xp n' ≤ xp n + 0) ∧ (pt_X (F 11) (z 11) (z 23) (pt_l (pt_mw (pt_wd Ez EF p2) (pt_bt pt_lo 44 (lo_pl (F 7) (F 8) (z 7).toNat 0)) (pt_bt (pt_wd Ez EF) 59 (kf_ls (F 2) 0 (z 2).toNat)) p1 p3 p0)) (F' 11) (z' 11) (z' 23) ∧ n' 11 = 6000 ∧ Er = Er' ∧ En = En' ∧ Ez = Ez' ∧ EF = EF'))) (ws := (fun u : (Nat → Nat) × (Nat → Nat) × (Nat → Int) × (Nat → Int → Int) × (Nat → Nat → Nat) × (Nat → Nat → Nat) × (Nat → Nat → Int) × (Nat → Nat → Int → Int) => match u with | (r', n', z', F', Er', En', Ez', EF') => (xU cI cB cE o r' n' z' F' G (Eo 0 0) ++ eP cI N Eo Er' En' Ez' EF'))) (tys := xT cI cB cE) (r_13, n_14, z_15, F_16, Er, En, Ez, EF) hx hb hr hlocks rfl hP hD hK hS dX5_writeMark_128 (fun dn dm hdn hdm => ⟨⟨hok21, hfr21, hPE21, hef21⟩, ⟨by omega, by omega⟩, ⟨(pt_X_eq hY22 (by rw [pt_mw_115 (by omega) (by omega)]; rfl)), hnn22, rfl, rfl, rfl, rfl⟩⟩) (by omega) (by omega)
          · skip
            refine lv_iload_n hx hb dX5_writeMark_103 rfl (lv_at hl 2 rfl) ?_
            refine ki_if_eq (tgt := 114) hx hb dX5_writeMark_104 (by decide) (by omega) (by omega) (fun c_23 => ?_) (fun c_23 => ?_)
            · skip
              refine lv_iload_n hx hb dX5_writeMark_114 rfl (lv_at hl 1 rfl) ?_
              refine lv_bipush (v := iz 115) hx hb dX5_writeMark_115 (by decide) ?_
              refine ki_icmp_ne (tgt := 128) hx hb dX5_writeMark_117 (by decide) (by omega) (by omega) (by omega) (by omega) (fun c_24 => ?_) (fun c_24 => ?_)
              · skip
                exact xk_vret (ov := (fun _ : (Nat → Nat) × (Nat → Nat) × (Nat → Int) × (Nat → Int → Int) × (Nat → Nat → Nat) × (Nat → Nat → Nat) × (Nat → Nat → Int) × (Nat → Nat → Int → Int) => none)) (post := (fun (u : (Nat → Nat) × (Nat → Nat) × (Nat → Int) × (Nat → Int → Int) × (Nat → Nat → Nat) × (Nat → Nat → Nat) × (Nat → Nat → Int) × (Nat → Nat → Int → Int)) (dn dm : Nat) => match u with | (r', n', z', F', Er', En', Ez', EF') => xR [11, 23] [11] [] [] N z F En Ez EF n' z' F' En' Ez' EF' ∧ (dn + xg n' ≤ xg n + 0 ∧ dm + xp n' ≤ xp n + 0) ∧ (pt_X (F 11) (z 11) (z 23) (pt_l (pt_mw (pt_wd Ez EF p2) (pt_bt pt_lo 44 (lo_pl (F 7) (F 8) (z 7).toNat 0)) (pt_bt (pt_wd Ez EF) 59 (kf_ls (F 2) 0 (z 2).toNat)) p1 p3 p0)) (F' 11) (z' 11) (z' 23) ∧ n' 11 = 6000 ∧ Er = Er' ∧ En = En' ∧ Ez = Ez' ∧ EF = EF'))) (ws := (fun u : (Nat → Nat) × (Nat → Nat) × (Nat → Int) × (Nat → Int → Int) × (Nat → Nat → Nat) × (Nat → Nat → Nat) × (Nat → Nat → Int) × (Nat → Nat → Int → Int) => match u with | (r', n', z', F', Er', En', Ez', EF') => (xU cI cB cE o r' n' z' F' G (Eo 0 0) ++ eP cI N Eo Er' En' Ez' EF'))) (tys := xT cI cB cE) (r, n, z, F, Er, En, Ez, EF) hx hb hr hlocks rfl hP hD hK hS dX5_writeMark_128 (fun dn dm hdn hdm => ⟨⟨hok, hfr, hPE, hef⟩, ⟨by omega, by omega⟩, ⟨(pt_X_eq hX0 (by rw [pt_mw_0 (by omega) (by omega) (by omega) (by omega)]; rfl)), hn6, rfl, rfl, rfl, rfl⟩⟩) (by omega) (by omega)
              · omega
            · skip
              refine lv_aload_n hx hb dX5_writeMark_107 rfl (lv_at hl 0 rfl) ?_
              have hxz_25 : -2147483648 ≤ z 12 ∧ z 12 < 2147483648 := hok.2.2.2.1 12
              have hxG9 : xG N (z 12) G Eo := ⟨by omega, by omega, by omega, fun e9 h9 => hN4 e9 (by omega)⟩
              have hP : va_P (dC, dI) kxCl (xU cI cB cE o r n z F G (Eo 0 0) ++ eP cI N Eo Er En Ez EF) s.heap := hP
              have hD : va_D A (xU cI cB cE o r n z F G (Eo 0 0) ++ eP cI N Eo Er En Ez EF) := hD
              have hFc := xw_free hD hS hA
              refine xk_call (va_runV (As := []) (rest := []) ⟨hx, hb, hml, hown, hts⟩ (y_writeLocators2 l dC dI cI cB cE o r n z F G N Eo Er En Ez EF  s.heap.size hok hxG9 hPE hn6 hlz hpv) (cwV 0 hts (kx_gV kq_19_xouts_79 kq_19_xouts_80 kq_19_xouts_81 kq_18_xrows_4 kq_19_xouts_82 rfl) rfl rfl rfl (by decide +kernel) ⟨Nat.le_of_ble_eq_true rfl, Nat.le_of_ble_eq_true rfl⟩) ⟨kx_blind, va_recv hK hP (ci := 5) (q0 := 0) rfl rfl, kx_give (ws := []) (tys := []) hP hD hK hG hZ hS hFc⟩ rfl rfl hl.1 rfl (lv_room (Nat.le_of_ble_eq_true rfl)) dX5_writeMark_108 ⟨show 0 + 100 ≤ 100 from (by omega), show 0 + 42000 ≤ 42000 from (by omega)⟩) hS (fun q _ h => hFc q h) hFc (fun u dn_28 dm_29 t H locs ht hvm hq_26 hB hk1 hS => ?_)
              obtain ⟨r_30, n_31, z_32, F_33, Er_34, En_35, Ez_36, EF_37⟩ := u
              obtain ⟨hP, hK1, hD1⟩ := hB
              rw [ht] at hP
              have hD := hD1.weaken (fun _ q _ h => hFc _ h)
              obtain ⟨hR38, hC38, hq_26⟩ := hq_26
              have hok38 := hR38.1
              have hfr38 := hfr.tr (hR38.2.1.mono (S' := [11, 23]) (T' := [11]) (by decide) (by decide))
              have hPE38 := hR38.2.2.1
              have hef38 := hef.tr (hR38.2.2.2.mono (S' := []) (T' := []) (by decide) (by decide))
              have hz38 : z_32 12 = (z 12) := hR38.2.1.1 12 (by decide)
              refine W.eq (g2 := F0 m 111 ls []) rfl ?_
              try dsimp only at hq_26
              obtain ⟨hX39, hnn39, hkp39⟩ := hq_26
              obtain ⟨rfl, rfl, rfl, rfl⟩ := hkp39
              have hY39 := pt_X_app hX0 hX39
              refine lv_goto (tgt := 128) hx hb dX5_writeMark_111 (by decide) ?_
              exact xk_vret (ov := (fun _ : (Nat → Nat) × (Nat → Nat) × (Nat → Int) × (Nat → Int → Int) × (Nat → Nat → Nat) × (Nat → Nat → Nat) × (Nat → Nat → Int) × (Nat → Nat → Int → Int) => none)) (post := (fun (u : (Nat → Nat) × (Nat → Nat) × (Nat → Int) × (Nat → Int → Int) × (Nat → Nat → Nat) × (Nat → Nat → Nat) × (Nat → Nat → Int) × (Nat → Nat → Int → Int)) (dn dm : Nat) => match u with | (r', n', z', F', Er', En', Ez', EF') => xR [11, 23] [11] [] [] N z F En Ez EF n' z' F' En' Ez' EF' ∧ (dn + xg n' ≤ xg n + 0 ∧ dm + xp n' ≤ xp n + 0) ∧ (pt_X (F 11) (z 11) (z 23) (pt_l (pt_mw (pt_wd Ez EF p2) (pt_bt pt_lo 44 (lo_pl (F 7) (F 8) (z 7).toNat 0)) (pt_bt (pt_wd Ez EF) 59 (kf_ls (F 2) 0 (z 2).toNat)) p1 p3 p0)) (F' 11) (z' 11) (z' 23) ∧ n' 11 = 6000 ∧ Er = Er' ∧ En = En' ∧ Ez = Ez' ∧ EF = EF'))) (ws := (fun u : (Nat → Nat) × (Nat → Nat) × (Nat → Int) × (Nat → Int → Int) × (Nat → Nat → Nat) × (Nat → Nat → Nat) × (Nat → Nat → Int) × (Nat → Nat → Int → Int) => match u with | (r', n', z', F', Er', En', Ez', EF') => (xU cI cB cE o r' n' z' F' G (Eo 0 0) ++ eP cI N Eo Er' En' Ez' EF'))) (tys := xT cI cB cE) (r_30, n_31, z_32, F_33, Er, En, Ez, EF) hx hb hr hlocks rfl hP hD hK hS dX5_writeMark_128 (fun dn dm hdn hdm => ⟨⟨hok38, hfr38, hPE38, hef38⟩, ⟨by omega, by omega⟩, ⟨(pt_X_eq hY39 (by rw [pt_mw_112 (by omega) (by omega)]; rfl)), hnn39, rfl, rfl, rfl, rfl⟩⟩) (by omega) (by omega)
        · skip
          refine lv_iload_n hx hb dX5_writeMark_75 rfl (lv_at hl 2 rfl) ?_
          refine ki_if_eq (tgt := 97) hx hb dX5_writeMark_76 (by decide) (by omega) (by omega) (fun c_40 => ?_) (fun c_40 => ?_)
          · skip
            refine lv_iload_n hx hb dX5_writeMark_97 rfl (lv_at hl 1 rfl) ?_
            refine lv_bipush (v := iz 112) hx hb dX5_writeMark_98 (by decide) ?_
            refine ki_icmp_ne (tgt := 114) hx hb dX5_writeMark_100 (by decide) (by omega) (by omega) (by omega) (by omega) (fun c_41 => ?_) (fun c_41 => ?_)
            · skip
              refine lv_iload_n hx hb dX5_writeMark_114 rfl (lv_at hl 1 rfl) ?_
              refine lv_bipush (v := iz 115) hx hb dX5_writeMark_115 (by decide) ?_
              refine ki_icmp_ne (tgt := 128) hx hb dX5_writeMark_117 (by decide) (by omega) (by omega) (by omega) (by omega) (fun c_42 => ?_) (fun c_42 => ?_)
              · skip
                exact xk_vret (ov := (fun _ : (Nat → Nat) × (Nat → Nat) × (Nat → Int) × (Nat → Int → Int) × (Nat → Nat → Nat) × (Nat → Nat → Nat) × (Nat → Nat → Int) × (Nat → Nat → Int → Int) => none)) (post := (fun (u : (Nat → Nat) × (Nat → Nat) × (Nat → Int) × (Nat → Int → Int) × (Nat → Nat → Nat) × (Nat → Nat → Nat) × (Nat → Nat → Int) × (Nat → Nat → Int → Int)) (dn dm : Nat) => match u with | (r', n', z', F', Er', En', Ez', EF') => xR [11, 23] [11] [] [] N z F En Ez EF n' z' F' En' Ez' EF' ∧ (dn + xg n' ≤ xg n + 0 ∧ dm + xp n' ≤ xp n + 0) ∧ (pt_X (F 11) (z 11) (z 23) (pt_l (pt_mw (pt_wd Ez EF p2) (pt_bt pt_lo 44 (lo_pl (F 7) (F 8) (z 7).toNat 0)) (pt_bt (pt_wd Ez EF) 59 (kf_ls (F 2) 0 (z 2).toNat)) p1 p3 p0)) (F' 11) (z' 11) (z' 23) ∧ n' 11 = 6000 ∧ Er = Er' ∧ En = En' ∧ Ez = Ez' ∧ EF = EF'))) (ws := (fun u : (Nat → Nat) × (Nat → Nat) × (Nat → Int) × (Nat → Int → Int) × (Nat → Nat → Nat) × (Nat → Nat → Nat) × (Nat → Nat → Int) × (Nat → Nat → Int → Int) => match u with | (r', n', z', F', Er', En', Ez', EF') => (xU cI cB cE o r' n' z' F' G (Eo 0 0) ++ eP cI N Eo Er' En' Ez' EF'))) (tys := xT cI cB cE) (r, n, z, F, Er, En, Ez, EF) hx hb hr hlocks rfl hP hD hK hS dX5_writeMark_128 (fun dn dm hdn hdm => ⟨⟨hok, hfr, hPE, hef⟩, ⟨by omega, by omega⟩, ⟨(pt_X_eq hX0 (by rw [pt_mw_0 (by omega) (by omega) (by omega) (by omega)]; rfl)), hn6, rfl, rfl, rfl, rfl⟩⟩) (by omega) (by omega)
              · omega
            · omega
          · skip
            refine lv_aload_n hx hb dX5_writeMark_79 rfl (lv_at hl 0 rfl) ?_
            refine va_get (D := (dC, dI)) (ci := 5) (v := .ref (o 11)) (C := RX5) (T := TX5) (N := 16) hx hb hts kt_X5 hown hK hP 0 rfl rfl 15 (by decide) (kx_word hG kq_19_xouts_60 rfl) (fun _ h9 => h9) rfl dX5_writeMark_80 ?_
            refine lv_aload_n hx hb dX5_writeMark_83 rfl (lv_at hl 0 rfl) ?_
            refine lv_iload_n hx hb dX5_writeMark_84 rfl (lv_at hl 3 rfl) ?_
            have hxz_43 : -2147483648 ≤ z 12 ∧ z 12 < 2147483648 := hok.2.2.2.1 12
            have hxG9 : xG N (z 12) G Eo := ⟨by omega, by omega, by omega, fun e9 h9 => hN4 e9 (by omega)⟩
            have hP : va_P (dC, dI) kxCl (xU cI cB cE o r n z F G (Eo 0 0) ++ eP cI N Eo Er En Ez EF) s.heap := hP
            refine xk_pure (va_runV (As := [.int (iz p2)]) (rest := [.ref (o 11)]) ⟨hx, hb, hml, hown, hts⟩ (y_known l dC dI cI cB cE o r n z F G N Eo Er En Ez EF p2 s.heap.size hok hxG9 hPE (by omega) (by omega)) (cwV 1 hts (kx_gV kq_18_xrows_8 kq_18_xrows_9 kq_18_xrows_10 kq_18_xrows_4 kq_18_xrows_11 rfl) rfl rfl rfl (by decide +kernel) ⟨Nat.le_of_ble_eq_true rfl, Nat.le_of_ble_eq_true rfl⟩) ⟨pPre_blind, va_recv hK hP (ci := 5) (q0 := 0) rfl rfl, pPre_give hP hK hG⟩ rfl rfl hl.1 rfl (lv_room (Nat.le_of_ble_eq_true rfl)) dX5_writeMark_85 ⟨show 0 + 0 ≤ 100 from (by omega), show 0 + 0 ≤ 42000 from (by omega)⟩) hS (fun z_45 locs hq_44 hS => ?_)
            refine W.eq (g2 := F0 m 88 ls [.ref z_45.toNat, .ref (o 11)]) rfl ?_
            try dsimp only at hq_44
            obtain ⟨j46, hj46, ez46, hje46⟩ := hq_44
            subst ez46
            refine W.eq (g2 := F0 m 88 ls [.ref (Eo j46 0), .ref (o 11)]) rfl ?_
            have ej46 : j46 = (p2 + 1).toNat := by omega
            subst ej46
            have hP := eP_foc hj46 hP
            have hD := eD_foc hj46 hD
            refine va_getN (D := (dC, dI)) (ci := 0) (v := .ref (Eo ((p2 + 1).toNat) 1)) (C := RX0) (T := TX0) (N := 12) hx hb hts kt_X0 hown hK hP 29 rfl rfl 2 (by decide) (va_Nw.use rfl (kx_nf hG kq_19_xouts_70)) (fun _ h9 => h9) rfl dX5_writeMark_88 ?_
            have hxp_47 : 0 ≤ z 11 ∧ z 11 ≤ ((n 11 : Nat) : Int) ∧ (n 11 = 0 ∨ n 11 = 6000) := hok.2.1 11 (by decide)
            have hxz_48 : -2147483648 ≤ z 23 ∧ z 23 < 2147483648 := hok.2.2.2.1 23
            have hxb_49 : z 23 = 0 ∨ z 23 = 1 := hok.2.2.2.2 23 (by decide)
            have he_50 : 0 ≤ Ez ((p2 + 1).toNat) 0 ∧ Ez ((p2 + 1).toNat) 0 ≤ ((En ((p2 + 1).toNat) 0 : Nat) : Int) ∧ ((En ((p2 + 1).toNat) 0 : Nat) : Int) ≤ 20 := (hPE ((p2 + 1).toNat) hj46).1 0 (by decide)
            have hPc := hP.sub (ws' := ((pU cB (o 11) (r 11) (n 11) (z 11) (z 23) (F 11)) ++ (iU cI 20 (Eo ((p2 + 1).toNat) 1) (Er ((p2 + 1).toNat) 0) (En ((p2 + 1).toNat) 0) (Ez ((p2 + 1).toNat) 0) (EF ((p2 + 1).toNat) 0)))) [27, 28, 30, 31] rfl
            have hDc := hD.sub (ws' := ((pU cB (o 11) (r 11) (n 11) (z 11) (z 23) (F 11)) ++ (iU cI 20 (Eo ((p2 + 1).toNat) 1) (Er ((p2 + 1).toNat) 0) (En ((p2 + 1).toNat) 0) (Ez ((p2 + 1).toNat) 0) (EF ((p2 + 1).toNat) 0)))) [27, 28, 30, 31] (by decide) rfl
            have hFc := va_free (wc := ((pU cB (o 11) (r 11) (n 11) (z 11) (z 23) (F 11)) ++ (iU cI 20 (Eo ((p2 + 1).toNat) 1) (Er ((p2 + 1).toNat) 0) (En ((p2 + 1).toNat) 0) (Ez ((p2 + 1).toNat) 0) (EF ((p2 + 1).toNat) 0)))) hD hS hA [27, 28, 30, 31] rfl
            refine xk_call (va_runV (As := [.ref (Eo ((p2 + 1).toNat) 1)]) (rest := []) ⟨hx, hb, hml, hown, hts⟩ (x_putAll2 l dC dI cI cB cE (o 11) (r 11) (n 11) (z 11) (z 23) (F 11) 20 (Eo ((p2 + 1).toNat) 1) (Er ((p2 + 1).toNat) 0) (En ((p2 + 1).toNat) 0) (Ez ((p2 + 1).toNat) 0) (EF ((p2 + 1).toNat) 0)  s.heap.size (by omega) (by omega) (hok.2.2.1 11) hn6 (by omega) ((hPE ((p2 + 1).toNat) hj46).2.1 0)) (cwV 1 hts (kx_gV kq_19_xouts_71 kq_19_xouts_72 kq_19_xouts_73 kq_15_xspan_17 kq_19_xouts_74 rfl) rfl rfl rfl (by decide +kernel) ⟨Nat.le_of_ble_eq_true rfl, Nat.le_of_ble_eq_true rfl⟩) ⟨kx_blind, va_recv hK hPc (ci := 2) (q0 := 0) rfl rfl, kx_give (ws := []) (tys := []) hPc hDc hK hG hZ hS hFc⟩ rfl rfl hl.1 rfl (lv_room (Nat.le_of_ble_eq_true rfl)) dX5_writeMark_91 ⟨show 0 + 0 ≤ 100 from (by omega), show 0 + 0 ≤ 42000 from (by omega)⟩) hS (fun q _ h => hFc q h) hFc (fun u dn_52 dm_53 t H locs ht hvm hq_51 hB hk1 hS => ?_)
            obtain ⟨z_54, tl_55, F_56⟩ := u
            obtain ⟨hP1, hK1, hD1⟩ := hB
            rw [ht] at hP1
            obtain ⟨hP, hD⟩ := xj_pool (wr := [(o 15, .inr (5, [.ref (o 16), .ref (Eo 0 0), .int (iz (z 12)), .int (iz (z 13)), .int (iz (z 14)), .ref (o 0), .ref (o 1), .int (iz (z 15)), .ref (o 13), .ref (o 14), .int (iz (z 16)), .ref (o 2), .ref (o 12), .ref (o 3), .ref (o 10), .ref (o 11)])), (o 16, .inl (cE, 80, .inr (.inr (.inr (.inr G))))), (o 0, .inr (1, [.int (iz 80), .ref (r 0), .int (iz (z 0))])), (r 0, .inl (cI, n 0, .inl (iA (F 0)))), (o 1, .inr (1, [.int (iz 80), .ref (r 1), .int (iz (z 1))])), (r 1, .inl (cI, n 1, .inl (iA (F 1)))), (o 2, .inr (1, [.int (iz 80), .ref (r 2), .int (iz (z 2))])), (r 2, .inl (cI, n 2, .inl (iA (F 2)))), (o 3, .inr (1, [.int (iz 80), .ref (r 3), .int (iz (z 3))])), (r 3, .inl (cI, n 3, .inl (iA (F 3)))), (o 13, .inr (3, [.ref (o 4), .ref (o 5), .ref (o 6)])), (o 4, .inr (1, [.int (iz 1600), .ref (r 4), .int (iz (z 4))])), (r 4, .inl (cI, n 4, .inl (iA (F 4)))), (o 5, .inr (1, [.int (iz 1600), .ref (r 5), .int (iz (z 5))])), (r 5, .inl (cI, n 5, .inl (iA (F 5)))), (o 6, .inr (1, [.int (iz 1600), .ref (r 6), .int (iz (z 6))])), (r 6, .inl (cI, n 6, .inl (iA (F 6)))), (o 14, .inr (3, [.ref (o 7), .ref (o 8), .ref (o 9)])), (o 7, .inr (1, [.int (iz 1600), .ref (r 7), .int (iz (z 7))])), (r 7, .inl (cI, n 7, .inl (iA (F 7)))), (o 8, .inr (1, [.int (iz 1600), .ref (r 8), .int (iz (z 8))])), (r 8, .inl (cI, n 8, .inl (iA (F 8)))), (o 9, .inr (1, [.int (iz 1600), .ref (r 9), .int (iz (z 9))])), (r 9, .inl (cI, n 9, .inl (iA (F 9)))), (o 12, .inr (4, [.int (iz (z 17)), .int (iz (z 18)), .int (iz (z 19)), .int (iz (z 20)), .int (iz (z 21))])), (o 10, .inr (2, [.ref (r 10), .int (iz (z 10)), .int (iz (z 22))])), (r 10, .inl (cB, n 10, .inl (iA (F 10)))), (Eo ((p2 + 1).toNat) 0, .inr (0, [.int (iz (Ez ((p2 + 1).toNat) 7)), .int (iz (Ez ((p2 + 1).toNat) 8)), .ref (Eo ((p2 + 1).toNat) 1), .ref (Eo ((p2 + 1).toNat) 2), .ref (Eo ((p2 + 1).toNat) 3), .ref (Eo ((p2 + 1).toNat) 5), .ref (Eo ((p2 + 1).toNat) 4), .int (iz (Ez ((p2 + 1).toNat) 9)), .int (iz (Ez ((p2 + 1).toNat) 10)), .int (iz (Ez ((p2 + 1).toNat) 11)), .int (iz (Ez ((p2 + 1).toNat) 12)), .int (iz (Ez ((p2 + 1).toNat) 13))])), (Eo ((p2 + 1).toNat) 2, .inr (1, [.int (iz 20), .ref (Er ((p2 + 1).toNat) 1), .int (iz (Ez ((p2 + 1).toNat) 1))])), (Er ((p2 + 1).toNat) 1, .inl (cI, En ((p2 + 1).toNat) 1, .inl (iA (EF ((p2 + 1).toNat) 1)))), (Eo ((p2 + 1).toNat) 3, .inr (1, [.int (iz 40), .ref (Er ((p2 + 1).toNat) 2), .int (iz (Ez ((p2 + 1).toNat) 2))])), (Er ((p2 + 1).toNat) 2, .inl (cI, En ((p2 + 1).toNat) 2, .inl (iA (EF ((p2 + 1).toNat) 2)))), (Eo ((p2 + 1).toNat) 4, .inr (1, [.int (iz 5), .ref (Er ((p2 + 1).toNat) 3), .int (iz (Ez ((p2 + 1).toNat) 3))])), (Er ((p2 + 1).toNat) 3, .inl (cI, En ((p2 + 1).toNat) 3, .inl (iA (EF ((p2 + 1).toNat) 3)))), (Eo ((p2 + 1).toNat) 5, .inr (3, [.ref (Eo ((p2 + 1).toNat) 6), .ref (Eo ((p2 + 1).toNat) 7), .ref (Eo ((p2 + 1).toNat) 8)])), (Eo ((p2 + 1).toNat) 6, .inr (1, [.int (iz 20), .ref (Er ((p2 + 1).toNat) 4), .int (iz (Ez ((p2 + 1).toNat) 4))])), (Er ((p2 + 1).toNat) 4, .inl (cI, En ((p2 + 1).toNat) 4, .inl (iA (EF ((p2 + 1).toNat) 4)))), (Eo ((p2 + 1).toNat) 7, .inr (1, [.int (iz 20), .ref (Er ((p2 + 1).toNat) 5), .int (iz (Ez ((p2 + 1).toNat) 5))])), (Er ((p2 + 1).toNat) 5, .inl (cI, En ((p2 + 1).toNat) 5, .inl (iA (EF ((p2 + 1).toNat) 5)))), (Eo ((p2 + 1).toNat) 8, .inr (1, [.int (iz 20), .ref (Er ((p2 + 1).toNat) 6), .int (iz (Ez ((p2 + 1).toNat) 6))])), (Er ((p2 + 1).toNat) 6, .inl (cI, En ((p2 + 1).toNat) 6, .inl (iA (EF ((p2 + 1).toNat) 6))))]) (w1 := ((pU cB (o 11) (r 11) (n 11) z_54 tl_55 F_56) ++ (iU cI 20 (Eo ((p2 + 1).toNat) 1) (Er ((p2 + 1).toNat) 0) (En ((p2 + 1).toNat) 0) (Ez ((p2 + 1).toNat) 0) (EF ((p2 + 1).toNat) 0)))) (ws' := ((xU cI cB cE o r n (va_up (va_up z 11 z_54) 23 tl_55) (va_up F 11 F_56) G (Eo 0 0)) ++ (eU cI (Eo ((p2 + 1).toNat)) (Er ((p2 + 1).toNat)) (En ((p2 + 1).toNat)) (Ez ((p2 + 1).toNat)) (EF ((p2 + 1).toNat))))) hP hD [27, 28, 30, 31] [0, 1, 2, 3, 4, 5, 6, 7, 8, 9, 10, 11, 12, 13, 14, 15, 16, 17, 18, 19, 20, 21, 22, 23, 24, 25, 26, 29, 32, 33, 34, 35, 36, 37, 38, 39, 40, 41, 42, 43, 44] [0, 1, 2, 3, 4, 5, 6, 7, 8, 9, 10, 11, 12, 13, 14, 15, 16, 17, 18, 19, 20, 21, 22, 23, 24, 25, 26, 41, 42, 27, 43, 44, 28, 29, 30, 31, 32, 33, 34, 35, 36, 37, 38, 39, 40] rfl rfl (by decide) (by decide) hk1 hFc hP1 hD1 rfl (by decide)
            refine W.eq (g2 := F0 m 94 ls []) rfl ?_
            try dsimp only at hq_51
            obtain ⟨hd57, hm57, hz57, ht57, hF57, hX57⟩ := hq_51
            subst hd57
            subst hm57
            have hY57 := pt_X_app hX0 hX57
            refine lv_goto (tgt := 128) hx hb dX5_writeMark_94 (by decide) ?_
            have hP := eP_un0 hj46 hP
            have hD := eD_un0 hj46 hD
            have hok58 : xOk (va_up n 11 (n 11)) (va_up (va_up z 11 z_54) 23 tl_55) (va_up F 11 F_56) := ((hok.p 11 (by decide) (show 0 ≤ z_54 ∧ z_54 ≤ ((n 11 : Nat) : Int) ∧ (n 11 = 0 ∨ n 11 = 6000) by omega) hF57).s 23 (by decide) (show -2147483648 ≤ tl_55 ∧ tl_55 < 2147483648 by omega) (by omega))
            have hfr58 : xFr [11, 23] [11] z F (va_up (va_up z 11 z_54) 23 tl_55) (va_up F 11 F_56) := (((hfr.uz 11 (by decide) _).uz 23 (by decide) _).uf 11 (by decide) _)
            have hcg58 : (0) + xg (va_up n 11 (n 11)) ≤ xg n := by unfold xg; simp (decide := true) only [va_ev, ↓reduceIte]; omega
            have hcp58 : (0) + xp (va_up n 11 (n 11)) ≤ xp n := by unfold xp; simp (decide := true) only [va_ev, ↓reduceIte]; omega
            exact xk_vret (ov := (fun _ : (Nat → Nat) × (Nat → Nat) × (Nat → Int) × (Nat → Int → Int) × (Nat → Nat → Nat) × (Nat → Nat → Nat) × (Nat → Nat → Int) × (Nat → Nat → Int → Int) => none)) (post := (fun (u : (Nat → Nat) × (Nat → Nat) × (Nat → Int) × (Nat → Int → Int) × (Nat → Nat → Nat) × (Nat → Nat → Nat) × (Nat → Nat → Int) × (Nat → Nat → Int → Int)) (dn dm : Nat) => match u with | (r', n', z', F', Er', En', Ez', EF') => xR [11, 23] [11] [] [] N z F En Ez EF n' z' F' En' Ez' EF' ∧ (dn + xg n' ≤ xg n + 0 ∧ dm + xp n' ≤ xp n + 0) ∧ (pt_X (F 11) (z 11) (z 23) (pt_l (pt_mw (pt_wd Ez EF p2) (pt_bt pt_lo 44 (lo_pl (F 7) (F 8) (z 7).toNat 0)) (pt_bt (pt_wd Ez EF) 59 (kf_ls (F 2) 0 (z 2).toNat)) p1 p3 p0)) (F' 11) (z' 11) (z' 23) ∧ n' 11 = 6000 ∧ Er = Er' ∧ En = En' ∧ Ez = Ez' ∧ EF = EF'))) (ws := (fun u : (Nat → Nat) × (Nat → Nat) × (Nat → Int) × (Nat → Int → Int) × (Nat → Nat → Nat) × (Nat → Nat → Nat) × (Nat → Nat → Int) × (Nat → Nat → Int → Int) => match u with | (r', n', z', F', Er', En', Ez', EF') => (xU cI cB cE o r' n' z' F' G (Eo 0 0) ++ eP cI N Eo Er' En' Ez' EF'))) (tys := xT cI cB cE) (r, (va_up n 11 (n 11)), (va_up (va_up z 11 z_54) 23 tl_55), (va_up F 11 F_56), Er, En, Ez, EF) hx hb hr hlocks rfl hP hD hK hS dX5_writeMark_128 (fun dn dm hdn hdm => ⟨⟨hok58, hfr58, hPE, hef⟩, ⟨by omega, by omega⟩, ⟨(pt_X_eq hY57 (by rw [pt_mw_119 (by omega) (by omega)]; rfl)), hn6, rfl, rfl, rfl, rfl⟩⟩) (by omega) (by omega)
      · skip
        refine lv_aload_n hx hb dX5_writeMark_42 rfl (lv_at hl 0 rfl) ?_
        refine va_get (D := (dC, dI)) (ci := 5) (v := .ref (o 11)) (C := RX5) (T := TX5) (N := 16) hx hb hts kt_X5 hown hK hP 0 rfl rfl 15 (by decide) (kx_word hG kq_19_xouts_60 rfl) (fun _ h9 => h9) rfl dX5_writeMark_43 ?_
        refine lv_iload hx hb dX5_writeMark_46 (lv_at hl 4 rfl) ?_
        refine lv_bipush (v := iz 97) hx hb dX5_writeMark_48 (by decide) ?_
        refine ki_icmp_ge (tgt := 61) hx hb dX5_writeMark_50 (by decide) (by omega) (by omega) (by omega) (by omega) (fun c_59 => ?_) (fun c_59 => ?_)
        · skip
          refine lv_iload hx hb dX5_writeMark_61 (lv_at hl 4 rfl) ?_
          have hxp_60 : 0 ≤ z 11 ∧ z 11 ≤ ((n 11 : Nat) : Int) ∧ (n 11 = 0 ∨ n 11 = 6000) := hok.2.1 11 (by decide)
          have hxz_61 : -2147483648 ≤ z 23 ∧ z 23 < 2147483648 := hok.2.2.2.1 23
          have hxb_62 : z 23 = 0 ∨ z 23 = 1 := hok.2.2.2.2 23 (by decide)
          have hPc := hP.sub (ws' := (pU cB (o 11) (r 11) (n 11) (z 11) (z 23) (F 11))) [27, 28] rfl
          have hDc := hD.sub (ws' := (pU cB (o 11) (r 11) (n 11) (z 11) (z 23) (F 11))) [27, 28] (by decide) rfl
          have hFc := va_free (wc := (pU cB (o 11) (r 11) (n 11) (z 11) (z 23) (F 11))) hD hS hA [27, 28] rfl
          refine xk_call (va_runV (As := [.int (iz p3)]) (rest := []) ⟨hx, hb, hml, hown, hts⟩ (x_put2 l dC dI cI cB cE (o 11) (r 11) (n 11) (z 11) (z 23) (F 11) p3 s.heap.size (by omega) (by omega) (hok.2.2.1 11) hn6 (by omega) (by omega)) (cwV 1 hts (kx_gV kq_19_xouts_65 kq_15_xspan_15 kq_15_xspan_16 kq_15_xspan_17 kq_15_xspan_18 rfl) rfl rfl rfl (by decide +kernel) ⟨Nat.le_of_ble_eq_true rfl, Nat.le_of_ble_eq_true rfl⟩) ⟨kx_blind, va_recv hK hPc (ci := 2) (q0 := 0) rfl rfl, kx_give (ws := []) (tys := []) hPc hDc hK hG hZ hS hFc⟩ rfl rfl hl.1 rfl (lv_room (Nat.le_of_ble_eq_true rfl)) dX5_writeMark_63 ⟨show 0 + 0 ≤ 100 from (by omega), show 0 + 0 ≤ 42000 from (by omega)⟩) hS (fun q _ h => hFc q h) hFc (fun u dn_64 dm_65 t H locs ht hvm hq_63 hB hk1 hS => ?_)
          obtain ⟨z_66, tl_67, F_68⟩ := u
          obtain ⟨hP1, hK1, hD1⟩ := hB
          rw [ht] at hP1
          obtain ⟨hP, hD⟩ := xj_pool (wr := [(o 15, .inr (5, [.ref (o 16), .ref (Eo 0 0), .int (iz (z 12)), .int (iz (z 13)), .int (iz (z 14)), .ref (o 0), .ref (o 1), .int (iz (z 15)), .ref (o 13), .ref (o 14), .int (iz (z 16)), .ref (o 2), .ref (o 12), .ref (o 3), .ref (o 10), .ref (o 11)])), (o 16, .inl (cE, 80, .inr (.inr (.inr (.inr G))))), (o 0, .inr (1, [.int (iz 80), .ref (r 0), .int (iz (z 0))])), (r 0, .inl (cI, n 0, .inl (iA (F 0)))), (o 1, .inr (1, [.int (iz 80), .ref (r 1), .int (iz (z 1))])), (r 1, .inl (cI, n 1, .inl (iA (F 1)))), (o 2, .inr (1, [.int (iz 80), .ref (r 2), .int (iz (z 2))])), (r 2, .inl (cI, n 2, .inl (iA (F 2)))), (o 3, .inr (1, [.int (iz 80), .ref (r 3), .int (iz (z 3))])), (r 3, .inl (cI, n 3, .inl (iA (F 3)))), (o 13, .inr (3, [.ref (o 4), .ref (o 5), .ref (o 6)])), (o 4, .inr (1, [.int (iz 1600), .ref (r 4), .int (iz (z 4))])), (r 4, .inl (cI, n 4, .inl (iA (F 4)))), (o 5, .inr (1, [.int (iz 1600), .ref (r 5), .int (iz (z 5))])), (r 5, .inl (cI, n 5, .inl (iA (F 5)))), (o 6, .inr (1, [.int (iz 1600), .ref (r 6), .int (iz (z 6))])), (r 6, .inl (cI, n 6, .inl (iA (F 6)))), (o 14, .inr (3, [.ref (o 7), .ref (o 8), .ref (o 9)])), (o 7, .inr (1, [.int (iz 1600), .ref (r 7), .int (iz (z 7))])), (r 7, .inl (cI, n 7, .inl (iA (F 7)))), (o 8, .inr (1, [.int (iz 1600), .ref (r 8), .int (iz (z 8))])), (r 8, .inl (cI, n 8, .inl (iA (F 8)))), (o 9, .inr (1, [.int (iz 1600), .ref (r 9), .int (iz (z 9))])), (r 9, .inl (cI, n 9, .inl (iA (F 9)))), (o 12, .inr (4, [.int (iz (z 17)), .int (iz (z 18)), .int (iz (z 19)), .int (iz (z 20)), .int (iz (z 21))])), (o 10, .inr (2, [.ref (r 10), .int (iz (z 10)), .int (iz (z 22))])), (r 10, .inl (cB, n 10, .inl (iA (F 10))))]) (w1 := (pU cB (o 11) (r 11) (n 11) z_66 tl_67 F_68)) (ws' := (xU cI cB cE o r n (va_up (va_up z 11 z_66) 23 tl_67) (va_up F 11 F_68) G (Eo 0 0))) hP hD [27, 28] [0, 1, 2, 3, 4, 5, 6, 7, 8, 9, 10, 11, 12, 13, 14, 15, 16, 17, 18, 19, 20, 21, 22, 23, 24, 25, 26] [0, 1, 2, 3, 4, 5, 6, 7, 8, 9, 10, 11, 12, 13, 14, 15, 16, 17, 18, 19, 20, 21, 22, 23, 24, 25, 26, 27, 28] rfl rfl (by decide) (by decide) hk1 hFc hP1 hD1 rfl (by decide)
          refine W.eq (g2 := F0 m 66 ls []) rfl ?_
          try dsimp only at hq_63
          obtain ⟨hd69, hm69, hz69, ht69, hF69, hX69⟩ := hq_63
          subst hd69
          subst hm69
          have hY69 := pt_X_app hX0 hX69
          refine lv_goto (tgt := 128) hx hb dX5_writeMark_66 (by decide) ?_
          have hok70 : xOk (va_up n 11 (n 11)) (va_up (va_up z 11 z_66) 23 tl_67) (va_up F 11 F_68) := ((hok.p 11 (by decide) (show 0 ≤ z_66 ∧ z_66 ≤ ((n 11 : Nat) : Int) ∧ (n 11 = 0 ∨ n 11 = 6000) by omega) hF69).s 23 (by decide) (show -2147483648 ≤ tl_67 ∧ tl_67 < 2147483648 by omega) (by omega))
          have hfr70 : xFr [11, 23] [11] z F (va_up (va_up z 11 z_66) 23 tl_67) (va_up F 11 F_68) := (((hfr.uz 11 (by decide) _).uz 23 (by decide) _).uf 11 (by decide) _)
          have hcg70 : (0) + xg (va_up n 11 (n 11)) ≤ xg n := by unfold xg; simp (decide := true) only [va_ev, ↓reduceIte]; omega
          have hcp70 : (0) + xp (va_up n 11 (n 11)) ≤ xp n := by unfold xp; simp (decide := true) only [va_ev, ↓reduceIte]; omega
          exact xk_vret (ov := (fun _ : (Nat → Nat) × (Nat → Nat) × (Nat → Int) × (Nat → Int → Int) × (Nat → Nat → Nat) × (Nat → Nat → Nat) × (Nat → Nat → Int) × (Nat → Nat → Int → Int) => none)) (post := (fun (u : (Nat → Nat) × (Nat → Nat) × (Nat → Int) × (Nat → Int → Int) × (Nat → Nat → Nat) × (Nat → Nat → Nat) × (Nat → Nat → Int) × (Nat → Nat → Int → Int)) (dn dm : Nat) => match u with | (r', n', z', F', Er', En', Ez', EF') => xR [11, 23] [11] [] [] N z F En Ez EF n' z' F' En' Ez' EF' ∧ (dn + xg n' ≤ xg n + 0 ∧ dm + xp n' ≤ xp n + 0) ∧ (pt_X (F 11) (z 11) (z 23) (pt_l (pt_mw (pt_wd Ez EF p2) (pt_bt pt_lo 44 (lo_pl (F 7) (F 8) (z 7).toNat 0)) (pt_bt (pt_wd Ez EF) 59 (kf_ls (F 2) 0 (z 2).toNat)) p1 p3 p0)) (F' 11) (z' 11) (z' 23) ∧ n' 11 = 6000 ∧ Er = Er' ∧ En = En' ∧ Ez = Ez' ∧ EF = EF'))) (ws := (fun u : (Nat → Nat) × (Nat → Nat) × (Nat → Int) × (Nat → Int → Int) × (Nat → Nat → Nat) × (Nat → Nat → Nat) × (Nat → Nat → Int) × (Nat → Nat → Int → Int) => match u with | (r', n', z', F', Er', En', Ez', EF') => (xU cI cB cE o r' n' z' F' G (Eo 0 0) ++ eP cI N Eo Er' En' Ez' EF'))) (tys := xT cI cB cE) (r, (va_up n 11 (n 11)), (va_up (va_up z 11 z_66) 23 tl_67), (va_up F 11 F_68), Er, En, Ez, EF) hx hb hr hlocks rfl hP hD hK hS dX5_writeMark_128 (fun dn dm hdn hdm => ⟨⟨hok70, hfr70, hPE, hef⟩, ⟨by omega, by omega⟩, ⟨(pt_X_eq hY69 (by rw [pt_mw_103b (by omega) (by omega)]; rfl)), hn6, rfl, rfl, rfl, rfl⟩⟩) (by omega) (by omega)
        · skip
          refine lv_bipush (v := iz 48) hx hb dX5_writeMark_53 (by decide) ?_
          refine lv_iload hx hb dX5_writeMark_55 (lv_at hl 4 rfl) ?_
          refine ki_iadd hx hb dX5_writeMark_57 ?_
          refine lv_goto (tgt := 63) hx hb dX5_writeMark_58 (by decide) ?_
          have hxp_71 : 0 ≤ z 11 ∧ z 11 ≤ ((n 11 : Nat) : Int) ∧ (n 11 = 0 ∨ n 11 = 6000) := hok.2.1 11 (by decide)
          have hxz_72 : -2147483648 ≤ z 23 ∧ z 23 < 2147483648 := hok.2.2.2.1 23
          have hxb_73 : z 23 = 0 ∨ z 23 = 1 := hok.2.2.2.2 23 (by decide)
          have hPc := hP.sub (ws' := (pU cB (o 11) (r 11) (n 11) (z 11) (z 23) (F 11))) [27, 28] rfl
          have hDc := hD.sub (ws' := (pU cB (o 11) (r 11) (n 11) (z 11) (z 23) (F 11))) [27, 28] (by decide) rfl
          have hFc := va_free (wc := (pU cB (o 11) (r 11) (n 11) (z 11) (z 23) (F 11))) hD hS hA [27, 28] rfl
          refine xk_call (va_runV (As := [.int (iz (48 + p3))]) (rest := []) ⟨hx, hb, hml, hown, hts⟩ (x_put2 l dC dI cI cB cE (o 11) (r 11) (n 11) (z 11) (z 23) (F 11) (48 + p3) s.heap.size (by omega) (by omega) (hok.2.2.1 11) hn6 (by omega) (by omega)) (cwV 1 hts (kx_gV kq_19_xouts_65 kq_15_xspan_15 kq_15_xspan_16 kq_15_xspan_17 kq_15_xspan_18 rfl) rfl rfl rfl (by decide +kernel) ⟨Nat.le_of_ble_eq_true rfl, Nat.le_of_ble_eq_true rfl⟩) ⟨kx_blind, va_recv hK hPc (ci := 2) (q0 := 0) rfl rfl, kx_give (ws := []) (tys := []) hPc hDc hK hG hZ hS hFc⟩ rfl rfl hl.1 rfl (lv_room (Nat.le_of_ble_eq_true rfl)) dX5_writeMark_63 ⟨show 0 + 0 ≤ 100 from (by omega), show 0 + 0 ≤ 42000 from (by omega)⟩) hS (fun q _ h => hFc q h) hFc (fun u dn_75 dm_76 t H locs ht hvm hq_74 hB hk1 hS => ?_)
          obtain ⟨z_77, tl_78, F_79⟩ := u
          obtain ⟨hP1, hK1, hD1⟩ := hB
          rw [ht] at hP1
          obtain ⟨hP, hD⟩ := xj_pool (wr := [(o 15, .inr (5, [.ref (o 16), .ref (Eo 0 0), .int (iz (z 12)), .int (iz (z 13)), .int (iz (z 14)), .ref (o 0), .ref (o 1), .int (iz (z 15)), .ref (o 13), .ref (o 14), .int (iz (z 16)), .ref (o 2), .ref (o 12), .ref (o 3), .ref (o 10), .ref (o 11)])), (o 16, .inl (cE, 80, .inr (.inr (.inr (.inr G))))), (o 0, .inr (1, [.int (iz 80), .ref (r 0), .int (iz (z 0))])), (r 0, .inl (cI, n 0, .inl (iA (F 0)))), (o 1, .inr (1, [.int (iz 80), .ref (r 1), .int (iz (z 1))])), (r 1, .inl (cI, n 1, .inl (iA (F 1)))), (o 2, .inr (1, [.int (iz 80), .ref (r 2), .int (iz (z 2))])), (r 2, .inl (cI, n 2, .inl (iA (F 2)))), (o 3, .inr (1, [.int (iz 80), .ref (r 3), .int (iz (z 3))])), (r 3, .inl (cI, n 3, .inl (iA (F 3)))), (o 13, .inr (3, [.ref (o 4), .ref (o 5), .ref (o 6)])), (o 4, .inr (1, [.int (iz 1600), .ref (r 4), .int (iz (z 4))])), (r 4, .inl (cI, n 4, .inl (iA (F 4)))), (o 5, .inr (1, [.int (iz 1600), .ref (r 5), .int (iz (z 5))])), (r 5, .inl (cI, n 5, .inl (iA (F 5)))), (o 6, .inr (1, [.int (iz 1600), .ref (r 6), .int (iz (z 6))])), (r 6, .inl (cI, n 6, .inl (iA (F 6)))), (o 14, .inr (3, [.ref (o 7), .ref (o 8), .ref (o 9)])), (o 7, .inr (1, [.int (iz 1600), .ref (r 7), .int (iz (z 7))])), (r 7, .inl (cI, n 7, .inl (iA (F 7)))), (o 8, .inr (1, [.int (iz 1600), .ref (r 8), .int (iz (z 8))])), (r 8, .inl (cI, n 8, .inl (iA (F 8)))), (o 9, .inr (1, [.int (iz 1600), .ref (r 9), .int (iz (z 9))])), (r 9, .inl (cI, n 9, .inl (iA (F 9)))), (o 12, .inr (4, [.int (iz (z 17)), .int (iz (z 18)), .int (iz (z 19)), .int (iz (z 20)), .int (iz (z 21))])), (o 10, .inr (2, [.ref (r 10), .int (iz (z 10)), .int (iz (z 22))])), (r 10, .inl (cB, n 10, .inl (iA (F 10))))]) (w1 := (pU cB (o 11) (r 11) (n 11) z_77 tl_78 F_79)) (ws' := (xU cI cB cE o r n (va_up (va_up z 11 z_77) 23 tl_78) (va_up F 11 F_79) G (Eo 0 0))) hP hD [27, 28] [0, 1, 2, 3, 4, 5, 6, 7, 8, 9, 10, 11, 12, 13, 14, 15, 16, 17, 18, 19, 20, 21, 22, 23, 24, 25, 26] [0, 1, 2, 3, 4, 5, 6, 7, 8, 9, 10, 11, 12, 13, 14, 15, 16, 17, 18, 19, 20, 21, 22, 23, 24, 25, 26, 27, 28] rfl rfl (by decide) (by decide) hk1 hFc hP1 hD1 rfl (by decide)
          refine W.eq (g2 := F0 m 66 ls []) rfl ?_
          try dsimp only at hq_74
          obtain ⟨hd80, hm80, hz80, ht80, hF80, hX80⟩ := hq_74
          subst hd80
          subst hm80
          have hY80 := pt_X_app hX0 hX80
          refine lv_goto (tgt := 128) hx hb dX5_writeMark_66 (by decide) ?_
          have hok81 : xOk (va_up n 11 (n 11)) (va_up (va_up z 11 z_77) 23 tl_78) (va_up F 11 F_79) := ((hok.p 11 (by decide) (show 0 ≤ z_77 ∧ z_77 ≤ ((n 11 : Nat) : Int) ∧ (n 11 = 0 ∨ n 11 = 6000) by omega) hF80).s 23 (by decide) (show -2147483648 ≤ tl_78 ∧ tl_78 < 2147483648 by omega) (by omega))
          have hfr81 : xFr [11, 23] [11] z F (va_up (va_up z 11 z_77) 23 tl_78) (va_up F 11 F_79) := (((hfr.uz 11 (by decide) _).uz 23 (by decide) _).uf 11 (by decide) _)
          have hcg81 : (0) + xg (va_up n 11 (n 11)) ≤ xg n := by unfold xg; simp (decide := true) only [va_ev, ↓reduceIte]; omega
          have hcp81 : (0) + xp (va_up n 11 (n 11)) ≤ xp n := by unfold xp; simp (decide := true) only [va_ev, ↓reduceIte]; omega
          exact xk_vret (ov := (fun _ : (Nat → Nat) × (Nat → Nat) × (Nat → Int) × (Nat → Int → Int) × (Nat → Nat → Nat) × (Nat → Nat → Nat) × (Nat → Nat → Int) × (Nat → Nat → Int → Int) => none)) (post := (fun (u : (Nat → Nat) × (Nat → Nat) × (Nat → Int) × (Nat → Int → Int) × (Nat → Nat → Nat) × (Nat → Nat → Nat) × (Nat → Nat → Int) × (Nat → Nat → Int → Int)) (dn dm : Nat) => match u with | (r', n', z', F', Er', En', Ez', EF') => xR [11, 23] [11] [] [] N z F En Ez EF n' z' F' En' Ez' EF' ∧ (dn + xg n' ≤ xg n + 0 ∧ dm + xp n' ≤ xp n + 0) ∧ (pt_X (F 11) (z 11) (z 23) (pt_l (pt_mw (pt_wd Ez EF p2) (pt_bt pt_lo 44 (lo_pl (F 7) (F 8) (z 7).toNat 0)) (pt_bt (pt_wd Ez EF) 59 (kf_ls (F 2) 0 (z 2).toNat)) p1 p3 p0)) (F' 11) (z' 11) (z' 23) ∧ n' 11 = 6000 ∧ Er = Er' ∧ En = En' ∧ Ez = Ez' ∧ EF = EF'))) (ws := (fun u : (Nat → Nat) × (Nat → Nat) × (Nat → Int) × (Nat → Int → Int) × (Nat → Nat → Nat) × (Nat → Nat → Nat) × (Nat → Nat → Int) × (Nat → Nat → Int → Int) => match u with | (r', n', z', F', Er', En', Ez', EF') => (xU cI cB cE o r' n' z' F' G (Eo 0 0) ++ eP cI N Eo Er' En' Ez' EF'))) (tys := xT cI cB cE) (r, (va_up n 11 (n 11)), (va_up (va_up z 11 z_77) 23 tl_78), (va_up F 11 F_79), Er, En, Ez, EF) hx hb hr hlocks rfl hP hD hK hS dX5_writeMark_128 (fun dn dm hdn hdm => ⟨⟨hok81, hfr81, hPE, hef⟩, ⟨by omega, by omega⟩, ⟨(pt_X_eq hY80 (by rw [pt_mw_103a (by omega) (by omega)]; rfl)), hn6, rfl, rfl, rfl, rfl⟩⟩) (by omega) (by omega)
    · skip
      refine lv_aload_n hx hb dX5_writeMark_24 rfl (lv_at hl 0 rfl) ?_
      refine va_get (D := (dC, dI)) (ci := 5) (v := .ref (o 11)) (C := RX5) (T := TX5) (N := 16) hx hb hts kt_X5 hown hK hP 0 rfl rfl 15 (by decide) (kx_word hG kq_19_xouts_60 rfl) (fun _ h9 => h9) rfl dX5_writeMark_25 ?_
      refine lv_bipush (v := iz 10) hx hb dX5_writeMark_28 (by decide) ?_
      have hxp_82 : 0 ≤ z 11 ∧ z 11 ≤ ((n 11 : Nat) : Int) ∧ (n 11 = 0 ∨ n 11 = 6000) := hok.2.1 11 (by decide)
      have hxz_83 : -2147483648 ≤ z 23 ∧ z 23 < 2147483648 := hok.2.2.2.1 23
      have hxb_84 : z 23 = 0 ∨ z 23 = 1 := hok.2.2.2.2 23 (by decide)
      have hPc := hP.sub (ws' := (pU cB (o 11) (r 11) (n 11) (z 11) (z 23) (F 11))) [27, 28] rfl
      have hDc := hD.sub (ws' := (pU cB (o 11) (r 11) (n 11) (z 11) (z 23) (F 11))) [27, 28] (by decide) rfl
      have hFc := va_free (wc := (pU cB (o 11) (r 11) (n 11) (z 11) (z 23) (F 11))) hD hS hA [27, 28] rfl
      refine xk_call (va_runV (As := [.int (iz 10)]) (rest := []) ⟨hx, hb, hml, hown, hts⟩ (x_put2 l dC dI cI cB cE (o 11) (r 11) (n 11) (z 11) (z 23) (F 11) 10 s.heap.size (by omega) (by omega) (hok.2.2.1 11) hn6 (by omega) (by omega)) (cwV 1 hts (kx_gV kq_19_xouts_65 kq_15_xspan_15 kq_15_xspan_16 kq_15_xspan_17 kq_15_xspan_18 rfl) rfl rfl rfl (by decide +kernel) ⟨Nat.le_of_ble_eq_true rfl, Nat.le_of_ble_eq_true rfl⟩) ⟨kx_blind, va_recv hK hPc (ci := 2) (q0 := 0) rfl rfl, kx_give (ws := []) (tys := []) hPc hDc hK hG hZ hS hFc⟩ rfl rfl hl.1 rfl (lv_room (Nat.le_of_ble_eq_true rfl)) dX5_writeMark_30 ⟨show 0 + 0 ≤ 100 from (by omega), show 0 + 0 ≤ 42000 from (by omega)⟩) hS (fun q _ h => hFc q h) hFc (fun u dn_86 dm_87 t H locs ht hvm hq_85 hB hk1 hS => ?_)
      obtain ⟨z_88, tl_89, F_90⟩ := u
      obtain ⟨hP1, hK1, hD1⟩ := hB
      rw [ht] at hP1
      obtain ⟨hP, hD⟩ := xj_pool (wr := [(o 15, .inr (5, [.ref (o 16), .ref (Eo 0 0), .int (iz (z 12)), .int (iz (z 13)), .int (iz (z 14)), .ref (o 0), .ref (o 1), .int (iz (z 15)), .ref (o 13), .ref (o 14), .int (iz (z 16)), .ref (o 2), .ref (o 12), .ref (o 3), .ref (o 10), .ref (o 11)])), (o 16, .inl (cE, 80, .inr (.inr (.inr (.inr G))))), (o 0, .inr (1, [.int (iz 80), .ref (r 0), .int (iz (z 0))])), (r 0, .inl (cI, n 0, .inl (iA (F 0)))), (o 1, .inr (1, [.int (iz 80), .ref (r 1), .int (iz (z 1))])), (r 1, .inl (cI, n 1, .inl (iA (F 1)))), (o 2, .inr (1, [.int (iz 80), .ref (r 2), .int (iz (z 2))])), (r 2, .inl (cI, n 2, .inl (iA (F 2)))), (o 3, .inr (1, [.int (iz 80), .ref (r 3), .int (iz (z 3))])), (r 3, .inl (cI, n 3, .inl (iA (F 3)))), (o 13, .inr (3, [.ref (o 4), .ref (o 5), .ref (o 6)])), (o 4, .inr (1, [.int (iz 1600), .ref (r 4), .int (iz (z 4))])), (r 4, .inl (cI, n 4, .inl (iA (F 4)))), (o 5, .inr (1, [.int (iz 1600), .ref (r 5), .int (iz (z 5))])), (r 5, .inl (cI, n 5, .inl (iA (F 5)))), (o 6, .inr (1, [.int (iz 1600), .ref (r 6), .int (iz (z 6))])), (r 6, .inl (cI, n 6, .inl (iA (F 6)))), (o 14, .inr (3, [.ref (o 7), .ref (o 8), .ref (o 9)])), (o 7, .inr (1, [.int (iz 1600), .ref (r 7), .int (iz (z 7))])), (r 7, .inl (cI, n 7, .inl (iA (F 7)))), (o 8, .inr (1, [.int (iz 1600), .ref (r 8), .int (iz (z 8))])), (r 8, .inl (cI, n 8, .inl (iA (F 8)))), (o 9, .inr (1, [.int (iz 1600), .ref (r 9), .int (iz (z 9))])), (r 9, .inl (cI, n 9, .inl (iA (F 9)))), (o 12, .inr (4, [.int (iz (z 17)), .int (iz (z 18)), .int (iz (z 19)), .int (iz (z 20)), .int (iz (z 21))])), (o 10, .inr (2, [.ref (r 10), .int (iz (z 10)), .int (iz (z 22))])), (r 10, .inl (cB, n 10, .inl (iA (F 10))))]) (w1 := (pU cB (o 11) (r 11) (n 11) z_88 tl_89 F_90)) (ws' := (xU cI cB cE o r n (va_up (va_up z 11 z_88) 23 tl_89) (va_up F 11 F_90) G (Eo 0 0))) hP hD [27, 28] [0, 1, 2, 3, 4, 5, 6, 7, 8, 9, 10, 11, 12, 13, 14, 15, 16, 17, 18, 19, 20, 21, 22, 23, 24, 25, 26] [0, 1, 2, 3, 4, 5, 6, 7, 8, 9, 10, 11, 12, 13, 14, 15, 16, 17, 18, 19, 20, 21, 22, 23, 24, 25, 26, 27, 28] rfl rfl (by decide) (by decide) hk1 hFc hP1 hD1 rfl (by decide)
      refine W.eq (g2 := F0 m 33 ls []) rfl ?_
      try dsimp only at hq_85
      obtain ⟨hd91, hm91, hz91, ht91, hF91, hX91⟩ := hq_85
      subst hd91
      subst hm91
      have hY91 := pt_X_app hX0 hX91
      refine lv_goto (tgt := 128) hx hb dX5_writeMark_33 (by decide) ?_
      have hok92 : xOk (va_up n 11 (n 11)) (va_up (va_up z 11 z_88) 23 tl_89) (va_up F 11 F_90) := ((hok.p 11 (by decide) (show 0 ≤ z_88 ∧ z_88 ≤ ((n 11 : Nat) : Int) ∧ (n 11 = 0 ∨ n 11 = 6000) by omega) hF91).s 23 (by decide) (show -2147483648 ≤ tl_89 ∧ tl_89 < 2147483648 by omega) (by omega))
      have hfr92 : xFr [11, 23] [11] z F (va_up (va_up z 11 z_88) 23 tl_89) (va_up F 11 F_90) := (((hfr.uz 11 (by decide) _).uz 23 (by decide) _).uf 11 (by decide) _)
      have hcg92 : (0) + xg (va_up n 11 (n 11)) ≤ xg n := by unfold xg; simp (decide := true) only [va_ev, ↓reduceIte]; omega
      have hcp92 : (0) + xp (va_up n 11 (n 11)) ≤ xp n := by unfold xp; simp (decide := true) only [va_ev, ↓reduceIte]; omega
      exact xk_vret (ov := (fun _ : (Nat → Nat) × (Nat → Nat) × (Nat → Int) × (Nat → Int → Int) × (Nat → Nat → Nat) × (Nat → Nat → Nat) × (Nat → Nat → Int) × (Nat → Nat → Int → Int) => none)) (post := (fun (u : (Nat → Nat) × (Nat → Nat) × (Nat → Int) × (Nat → Int → Int) × (Nat → Nat → Nat) × (Nat → Nat → Nat) × (Nat → Nat → Int) × (Nat → Nat → Int → Int)) (dn dm : Nat) => match u with | (r', n', z', F', Er', En', Ez', EF') => xR [11, 23] [11] [] [] N z F En Ez EF n' z' F' En' Ez' EF' ∧ (dn + xg n' ≤ xg n + 0 ∧ dm + xp n' ≤ xp n + 0) ∧ (pt_X (F 11) (z 11) (z 23) (pt_l (pt_mw (pt_wd Ez EF p2) (pt_bt pt_lo 44 (lo_pl (F 7) (F 8) (z 7).toNat 0)) (pt_bt (pt_wd Ez EF) 59 (kf_ls (F 2) 0 (z 2).toNat)) p1 p3 p0)) (F' 11) (z' 11) (z' 23) ∧ n' 11 = 6000 ∧ Er = Er' ∧ En = En' ∧ Ez = Ez' ∧ EF = EF'))) (ws := (fun u : (Nat → Nat) × (Nat → Nat) × (Nat → Int) × (Nat → Int → Int) × (Nat → Nat → Nat) × (Nat → Nat → Nat) × (Nat → Nat → Int) × (Nat → Nat → Int → Int) => match u with | (r', n', z', F', Er', En', Ez', EF') => (xU cI cB cE o r' n' z' F' G (Eo 0 0) ++ eP cI N Eo Er' En' Ez' EF'))) (tys := xT cI cB cE) (r, (va_up n 11 (n 11)), (va_up (va_up z 11 z_88) 23 tl_89), (va_up F 11 F_90), Er, En, Ez, EF) hx hb hr hlocks rfl hP hD hK hS dX5_writeMark_128 (fun dn dm hdn hdm => ⟨⟨hok92, hfr92, hPE, hef⟩, ⟨by omega, by omega⟩, ⟨(pt_X_eq hY91 (by rw [pt_mw_110 (by omega)]; rfl)), hn6, rfl, rfl, rfl, rfl⟩⟩) (by omega) (by omega)
  · skip
    refine lv_aload_n hx hb dX5_writeMark_6 rfl (lv_at hl 0 rfl) ?_
    refine va_get (D := (dC, dI)) (ci := 5) (v := .ref (o 11)) (C := RX5) (T := TX5) (N := 16) hx hb hts kt_X5 hown hK hP 0 rfl rfl 15 (by decide) (kx_word hG kq_19_xouts_60 rfl) (fun _ h9 => h9) rfl dX5_writeMark_7 ?_
    refine lv_bipush (v := iz 37) hx hb dX5_writeMark_10 (by decide) ?_
    have hxp_93 : 0 ≤ z 11 ∧ z 11 ≤ ((n 11 : Nat) : Int) ∧ (n 11 = 0 ∨ n 11 = 6000) := hok.2.1 11 (by decide)
    have hxz_94 : -2147483648 ≤ z 23 ∧ z 23 < 2147483648 := hok.2.2.2.1 23
    have hxb_95 : z 23 = 0 ∨ z 23 = 1 := hok.2.2.2.2 23 (by decide)
    have hPc := hP.sub (ws' := (pU cB (o 11) (r 11) (n 11) (z 11) (z 23) (F 11))) [27, 28] rfl
    have hDc := hD.sub (ws' := (pU cB (o 11) (r 11) (n 11) (z 11) (z 23) (F 11))) [27, 28] (by decide) rfl
    have hFc := va_free (wc := (pU cB (o 11) (r 11) (n 11) (z 11) (z 23) (F 11))) hD hS hA [27, 28] rfl
    refine xk_call (va_runV (As := [.int (iz 37)]) (rest := []) ⟨hx, hb, hml, hown, hts⟩ (x_put2 l dC dI cI cB cE (o 11) (r 11) (n 11) (z 11) (z 23) (F 11) 37 s.heap.size (by omega) (by omega) (hok.2.2.1 11) hn6 (by omega) (by omega)) (cwV 1 hts (kx_gV kq_19_xouts_65 kq_15_xspan_15 kq_15_xspan_16 kq_15_xspan_17 kq_15_xspan_18 rfl) rfl rfl rfl (by decide +kernel) ⟨Nat.le_of_ble_eq_true rfl, Nat.le_of_ble_eq_true rfl⟩) ⟨kx_blind, va_recv hK hPc (ci := 2) (q0 := 0) rfl rfl, kx_give (ws := []) (tys := []) hPc hDc hK hG hZ hS hFc⟩ rfl rfl hl.1 rfl (lv_room (Nat.le_of_ble_eq_true rfl)) dX5_writeMark_12 ⟨show 0 + 0 ≤ 100 from (by omega), show 0 + 0 ≤ 42000 from (by omega)⟩) hS (fun q _ h => hFc q h) hFc (fun u dn_97 dm_98 t H locs ht hvm hq_96 hB hk1 hS => ?_)
    obtain ⟨z_99, tl_100, F_101⟩ := u
    obtain ⟨hP1, hK1, hD1⟩ := hB
    rw [ht] at hP1
    obtain ⟨hP, hD⟩ := xj_pool (wr := [(o 15, .inr (5, [.ref (o 16), .ref (Eo 0 0), .int (iz (z 12)), .int (iz (z 13)), .int (iz (z 14)), .ref (o 0), .ref (o 1), .int (iz (z 15)), .ref (o 13), .ref (o 14), .int (iz (z 16)), .ref (o 2), .ref (o 12), .ref (o 3), .ref (o 10), .ref (o 11)])), (o 16, .inl (cE, 80, .inr (.inr (.inr (.inr G))))), (o 0, .inr (1, [.int (iz 80), .ref (r 0), .int (iz (z 0))])), (r 0, .inl (cI, n 0, .inl (iA (F 0)))), (o 1, .inr (1, [.int (iz 80), .ref (r 1), .int (iz (z 1))])), (r 1, .inl (cI, n 1, .inl (iA (F 1)))), (o 2, .inr (1, [.int (iz 80), .ref (r 2), .int (iz (z 2))])), (r 2, .inl (cI, n 2, .inl (iA (F 2)))), (o 3, .inr (1, [.int (iz 80), .ref (r 3), .int (iz (z 3))])), (r 3, .inl (cI, n 3, .inl (iA (F 3)))), (o 13, .inr (3, [.ref (o 4), .ref (o 5), .ref (o 6)])), (o 4, .inr (1, [.int (iz 1600), .ref (r 4), .int (iz (z 4))])), (r 4, .inl (cI, n 4, .inl (iA (F 4)))), (o 5, .inr (1, [.int (iz 1600), .ref (r 5), .int (iz (z 5))])), (r 5, .inl (cI, n 5, .inl (iA (F 5)))), (o 6, .inr (1, [.int (iz 1600), .ref (r 6), .int (iz (z 6))])), (r 6, .inl (cI, n 6, .inl (iA (F 6)))), (o 14, .inr (3, [.ref (o 7), .ref (o 8), .ref (o 9)])), (o 7, .inr (1, [.int (iz 1600), .ref (r 7), .int (iz (z 7))])), (r 7, .inl (cI, n 7, .inl (iA (F 7)))), (o 8, .inr (1, [.int (iz 1600), .ref (r 8), .int (iz (z 8))])), (r 8, .inl (cI, n 8, .inl (iA (F 8)))), (o 9, .inr (1, [.int (iz 1600), .ref (r 9), .int (iz (z 9))])), (r 9, .inl (cI, n 9, .inl (iA (F 9)))), (o 12, .inr (4, [.int (iz (z 17)), .int (iz (z 18)), .int (iz (z 19)), .int (iz (z 20)), .int (iz (z 21))])), (o 10, .inr (2, [.ref (r 10), .int (iz (z 10)), .int (iz (z 22))])), (r 10, .inl (cB, n 10, .inl (iA (F 10))))]) (w1 := (pU cB (o 11) (r 11) (n 11) z_99 tl_100 F_101)) (ws' := (xU cI cB cE o r n (va_up (va_up z 11 z_99) 23 tl_100) (va_up F 11 F_101) G (Eo 0 0))) hP hD [27, 28] [0, 1, 2, 3, 4, 5, 6, 7, 8, 9, 10, 11, 12, 13, 14, 15, 16, 17, 18, 19, 20, 21, 22, 23, 24, 25, 26] [0, 1, 2, 3, 4, 5, 6, 7, 8, 9, 10, 11, 12, 13, 14, 15, 16, 17, 18, 19, 20, 21, 22, 23, 24, 25, 26, 27, 28] rfl rfl (by decide) (by decide) hk1 hFc hP1 hD1 rfl (by decide)
    refine W.eq (g2 := F0 m 15 ls []) rfl ?_
    try dsimp only at hq_96
    obtain ⟨hd102, hm102, hz102, ht102, hF102, hX102⟩ := hq_96
    subst hd102
    subst hm102
    have hY102 := pt_X_app hX0 hX102
    refine lv_goto (tgt := 128) hx hb dX5_writeMark_15 (by decide) ?_
    have hok103 : xOk (va_up n 11 (n 11)) (va_up (va_up z 11 z_99) 23 tl_100) (va_up F 11 F_101) := ((hok.p 11 (by decide) (show 0 ≤ z_99 ∧ z_99 ≤ ((n 11 : Nat) : Int) ∧ (n 11 = 0 ∨ n 11 = 6000) by omega) hF102).s 23 (by decide) (show -2147483648 ≤ tl_100 ∧ tl_100 < 2147483648 by omega) (by omega))
    have hfr103 : xFr [11, 23] [11] z F (va_up (va_up z 11 z_99) 23 tl_100) (va_up F 11 F_101) := (((hfr.uz 11 (by decide) _).uz 23 (by decide) _).uf 11 (by decide) _)
    have hcg103 : (0) + xg (va_up n 11 (n 11)) ≤ xg n := by unfold xg; simp (decide := true) only [va_ev, ↓reduceIte]; omega
    have hcp103 : (0) + xp (va_up n 11 (n 11)) ≤ xp n := by unfold xp; simp (decide := true) only [va_ev, ↓reduceIte]; omega
    exact xk_vret (ov := (fun _ : (Nat → Nat) × (Nat → Nat) × (Nat → Int) × (Nat → Int → Int) × (Nat → Nat → Nat) × (Nat → Nat → Nat) × (Nat → Nat → Int) × (Nat → Nat → Int → Int) => none)) (post := (fun (u : (Nat → Nat) × (Nat → Nat) × (Nat → Int) × (Nat → Int → Int) × (Nat → Nat → Nat) × (Nat → Nat → Nat) × (Nat → Nat → Int) × (Nat → Nat → Int → Int)) (dn dm : Nat) => match u with | (r', n', z', F', Er', En', Ez', EF') => xR [11, 23] [11] [] [] N z F En Ez EF n' z' F' En' Ez' EF' ∧ (dn + xg n' ≤ xg n + 0 ∧ dm + xp n' ≤ xp n + 0) ∧ (pt_X (F 11) (z 11) (z 23) (pt_l (pt_mw (pt_wd Ez EF p2) (pt_bt pt_lo 44 (lo_pl (F 7) (F 8) (z 7).toNat 0)) (pt_bt (pt_wd Ez EF) 59 (kf_ls (F 2) 0 (z 2).toNat)) p1 p3 p0)) (F' 11) (z' 11) (z' 23) ∧ n' 11 = 6000 ∧ Er = Er' ∧ En = En' ∧ Ez = Ez' ∧ EF = EF'))) (ws := (fun u : (Nat → Nat) × (Nat → Nat) × (Nat → Int) × (Nat → Int → Int) × (Nat → Nat → Nat) × (Nat → Nat → Nat) × (Nat → Nat → Int) × (Nat → Nat → Int → Int) => match u with | (r', n', z', F', Er', En', Ez', EF') => (xU cI cB cE o r' n' z' F' G (Eo 0 0) ++ eP cI N Eo Er' En' Ez' EF'))) (tys := xT cI cB cE) (r, (va_up n 11 (n 11)), (va_up (va_up z 11 z_99) 23 tl_100), (va_up F 11 F_101), Er, En, Ez, EF) hx hb hr hlocks rfl hP hD hK hS dX5_writeMark_128 (fun dn dm hdn hdm => ⟨⟨hok103, hfr103, hPE, hef⟩, ⟨by omega, by omega⟩, ⟨(pt_X_eq hY102 (by rw [pt_mw_37 (by omega)]; rfl)), hn6, rfl, rfl, rfl, rfl⟩⟩) (by omega) (by omega)
set_option maxHeartbeats 4000000 in
set_option maxRecDepth 100000 in
theorem y_writePart2 (l : Launch) (dC : Nat → ClassId) (dI : Nat → Nat → Nat) (cI cB cE : ClassId) (o r n : Nat → Nat) (z : Nat → Int) (F : Nat → Int → Int) (G : Nat → Option Nat) (N : Nat) (Eo Er En : Nat → Nat → Nat) (Ez : Nat → Nat → Int) (EF : Nat → Nat → Int → Int) (p0 : Int) (p1 : Int) (p2 : Int) (sz : Nat) (hok : xOk n z F) (hxG : xG N (z 12) G Eo) (hPE : eA N En Ez EF) (hp01 : -2147483648 ≤ p0) (hp02 : p0 < 2147483648) (hp21 : -2147483648 ≤ p2) (hp22 : p2 < 2147483648) (hp1 : 0 ≤ p1 ∧ p1 < z 12) (hn6 : n 11 = 6000) (hlz : (z 7 = z 8 ∧ z 8 = z 9)) (hpv : ∀ y, y ∈ (lo_pl (F 7) (F 8) (z 7).toNat 0) → pt_v y.1 ∧ pt_v y.2) (hsv : ∀ i, 0 ≤ i → i < z 2 → 0 ≤ F 2 i ∧ F 2 i < z 12) : Met l yX5_writePart [.code yX5_writePart cX5_writePart 7 none] ({ frames := 5, cells := 200, slots := 85000, locals := 113 }) (va_Pc [.ref (o 15), .int (iz p0), .int (iz p1), .int (iz p2)] (kx_Pre dC dI (xU cI cB cE o r n z F G (Eo 0 0) ++ eP cI N Eo Er En Ez EF) (xT cI cB cE) sz)) (xQ (fun _ : (Nat → Nat) × (Nat → Nat) × (Nat → Int) × (Nat → Int → Int) × (Nat → Nat → Nat) × (Nat → Nat → Nat) × (Nat → Nat → Int) × (Nat → Nat → Int → Int) => none) (fun (u : (Nat → Nat) × (Nat → Nat) × (Nat → Int) × (Nat → Int → Int) × (Nat → Nat → Nat) × (Nat → Nat → Nat) × (Nat → Nat → Int) × (Nat → Nat → Int → Int)) (dn dm : Nat) => match u with | (r', n', z', F', Er', En', Ez', EF') => xR [11, 23] [11] [] [] N z F En Ez EF n' z' F' En' Ez' EF' ∧ (dn + xg n' ≤ xg n + 0 ∧ dm + xp n' ≤ xp n + 0) ∧ (pt_X (F 11) (z 11) (z 23) (pt_l (pt_pt (F 3) (z 3) (fun c => pt_mw (pt_wd Ez EF p1) (pt_bt pt_lo 44 (lo_pl (F 7) (F 8) (z 7).toNat 0)) (pt_bt (pt_wd Ez EF) 59 (kf_ls (F 2) 0 (z 2).toNat)) (pt_of p0) p2 c) p0 (z 3).toNat 0 0)) (F' 11) (z' 11) (z' 23) ∧ n' 11 = 6000 ∧ Er = Er' ∧ En = En' ∧ Ez = Ez' ∧ EF = EF')) (fun u t => kx_At dC dI (va_A (xU cI cB cE o r n z F G (Eo 0 0) ++ eP cI N Eo Er En Ez EF) sz) ((fun u : (Nat → Nat) × (Nat → Nat) × (Nat → Int) × (Nat → Int → Int) × (Nat → Nat → Nat) × (Nat → Nat → Nat) × (Nat → Nat → Int) × (Nat → Nat → Int → Int) => match u with | (r', n', z', F', Er', En', Ez', EF') => (xU cI cB cE o r' n' z' F' G (Eo 0 0) ++ eP cI N Eo Er' En' Ez' EF')) u) (xT cI cB cE) t) (va_A (xU cI cB cE o r n z F G (Eo 0 0) ++ eP cI N Eo Er En Ez EF) sz)) 200 85000 (va_A (xU cI cB cE o r n z F G (Eo 0 0) ++ eP cI N Eo Er En Ez EF) sz) := by
  refine Met.ofW (cc := cX5_writePart) (maxL := 7) (ret := none) (by decide) rfl ?_
  intro p e s m args below meth c s₁ B hml hv
  obtain ⟨rfl, hsz, hP, hK, hD0, hG, hZ⟩ := hv
  have hx := B.exec
  have hb := B.bytes
  have hr := B.returns
  have hts := kx_hts (a := ([.ref (o 15), .int (iz p0), .int (iz p1), .int (iz p2)] : List Value).toArray) hG
  have hown : s.vm.findClass RX5 = some m.cls := findClass_of_methodNamed B.named
  have hlocks := B.notSynchronized
  subst hsz
  have hD := hD0.self (sz := s.heap.size)
  generalize hAe : va_A (xU cI cB cE o r n z F G (Eo 0 0) ++ eP cI N Eo Er En Ez EF) s.heap.size = A at hD hZ ⊢
  have hA : ∀ q : Nat, s.heap.size ≤ q → A q := fun q h => by rw [← hAe]; exact Or.inr h
  have hS : va_S A s.heap s.heap [] := va_S.rf
  have hl := lv_entry ([.ref (o 15), .int (iz p0), .int (iz p1), .int (iz p2)]) (n := 7) (Nat.le_of_ble_eq_true rfl)
  rw [lg_entry_eq]
  generalize (lg_sl ([.ref (o 15), .int (iz p0), .int (iz p1), .int (iz p2)]) ++ List.replicate (7 - (lg_sl ([.ref (o 15), .int (iz p0), .int (iz p1), .int (iz p2)])).length) Slot.unset).toArray = ls at hl ⊢
  obtain ⟨hN1, hN2, hN3, hN4⟩ := hxG
  have hef : eFr [] [] En Ez EF En Ez EF := eFr.rf
  have hfr : xFr [11, 23] [11] z F z F := xFr.rf
  have hxgl := xg_le n
  have hxpl := xp_le n
  have hl : lv_has ls 7 [(0, .ref (o 15)), (1, .int (iz p0)), (2, .int (iz p1)), (3, .int (iz p2))] := hl
  generalize hQe : MQ below (xQ (fun _ : (Nat → Nat) × (Nat → Nat) × (Nat → Int) × (Nat → Int → Int) × (Nat → Nat → Nat) × (Nat → Nat → Nat) × (Nat → Nat → Int) × (Nat → Nat → Int → Int) => none) (fun (u : (Nat → Nat) × (Nat → Nat) × (Nat → Int) × (Nat → Int → Int) × (Nat → Nat → Nat) × (Nat → Nat → Nat) × (Nat → Nat → Int) × (Nat → Nat → Int → Int)) (dn dm : Nat) => match u with | (r', n', z', F', Er', En', Ez', EF') => xR [11, 23] [11] [] [] N z F En Ez EF n' z' F' En' Ez' EF' ∧ (dn + xg n' ≤ xg n + 0 ∧ dm + xp n' ≤ xp n + 0) ∧ (pt_X (F 11) (z 11) (z 23) (pt_l (pt_pt (F 3) (z 3) (fun c => pt_mw (pt_wd Ez EF p1) (pt_bt pt_lo 44 (lo_pl (F 7) (F 8) (z 7).toNat 0)) (pt_bt (pt_wd Ez EF) 59 (kf_ls (F 2) 0 (z 2).toNat)) (pt_of p0) p2 c) p0 (z 3).toNat 0 0)) (F' 11) (z' 11) (z' 23) ∧ n' 11 = 6000 ∧ Er = Er' ∧ En = En' ∧ Ez = Ez' ∧ EF = EF')) (fun u t => kx_At dC dI A ((fun u : (Nat → Nat) × (Nat → Nat) × (Nat → Int) × (Nat → Int → Int) × (Nat → Nat → Nat) × (Nat → Nat → Nat) × (Nat → Nat → Int) × (Nat → Nat → Int → Int) => match u with | (r', n', z', F', Er', En', Ez', EF') => (xU cI cB cE o r' n' z' F' G (Eo 0 0) ++ eP cI N Eo Er' En' Ez' EF')) u) (xT cI cB cE) t) A) ([.ref (o 15), .int (iz p0), .int (iz p1), .int (iz p2)] : List Value).toArray s 200 85000 A = QQ
  have hX0 := pt_X_nil (F 11) (z 11) (z 23)
  have hz3 : 0 ≤ z 3 ∧ z 3 ≤ (n 3 : Int) ∧ (n 3 : Int) ≤ 80 := hok.1 3 (by decide)
  refine lv_iconst (v := iz 0) hx hb dX5_writePart_0 (by decide) ?_
  refine lv_istore (lv' := [(4, .int (iz 0)), (0, .ref (o 15)), (1, .int (iz p0)), (2, .int (iz p1)), (3, .int (iz p2))]) hx hb dX5_writePart_1 hl (by decide) rfl (fun ls hl => ?_)
  refine lv_iconst (v := iz 0) hx hb dX5_writePart_3 (by decide) ?_
  refine lv_istore (lv' := [(5, .int (iz 0)), (4, .int (iz 0)), (0, .ref (o 15)), (1, .int (iz p0)), (2, .int (iz p1)), (3, .int (iz p2))]) hx hb dX5_writePart_4 hl (by decide) rfl (fun ls hl => ?_)
  have lp6 : ∀ (n0 : Nat) (b : Int) (k : Int) (rL6 : Nat → Nat) (nL6 : Nat → Nat) (zL6 : Nat → Int) (FL6 : Nat → Int → Int) (cv : Nat) (sv : Nat), ((xR [11, 23] [11] [] [] N z F En Ez EF nL6 zL6 FL6 En Ez EF) ∧ (cv + xg nL6 ≤ xg n + (0) ∧ sv + xp nL6 ≤ xp n + (0)) ∧ (zL6 12 = z 12) ∧ (0 ≤ b ∧ b ≤ k) ∧ (0 ≤ k ∧ k ≤ z 3 + 1) ∧ (nL6 11 = 6000) ∧ (∃ Y9, pt_X (F 11) (z 11) (z 23) (pt_l Y9) (FL6 11) (zL6 11) (zL6 23) ∧ pt_pt (F 3) (z 3) (fun c => pt_mw (pt_wd Ez EF p1) (pt_bt pt_lo 44 (lo_pl (F 7) (F 8) (z 7).toNat 0)) (pt_bt (pt_wd Ez EF) 59 (kf_ls (F 2) 0 (z 2).toNat)) (pt_of p0) p2 c) p0 (z 3).toNat 0 0 = Y9 ++ pt_pt (F 3) (z 3) (fun c => pt_mw (pt_wd Ez EF p1) (pt_bt pt_lo 44 (lo_pl (F 7) (F 8) (z 7).toNat 0)) (pt_bt (pt_wd Ez EF) 59 (kf_ls (F 2) 0 (z 2).toNat)) (pt_of p0) p2 c) p0 (z 3 - k).toNat k b)) → (z 3 - k).toNat < n0 → ∀ (H : Heap) (locs : List Loc), va_P (dC, dI) kxCl ((xU cI cB cE o rL6 nL6 zL6 FL6 G (Eo 0 0)) ++ (eP cI N Eo Er En Ez EF)) H → va_D A ((xU cI cB cE o rL6 nL6 zL6 FL6 G (Eo 0 0)) ++ (eP cI N Eo Er En Ez EF)) → va_S A s.heap H locs → ∀ ls : Array Slot, lv_has ls 7 [(5, .int (iz k)), (4, .int (iz b)), (0, .ref (o 15)), (1, .int (iz p0)), (2, .int (iz p1)), (3, .int (iz p2))] → W p l e (headSpec [.code yX5_writePart cX5_writePart 7 none] ({ frames := 5, cells := 200, slots := 85000, locals := 113 })).room s m ([.ref (o 15), .int (iz p0), .int (iz p1), .int (iz p2)] : List Value).toArray below meth c H locs cv sv QQ (F0 m 6 ls []) := by
    intro n0
    induction n0 with
    | zero => intro b k rL6 nL6 zL6 FL6 cv sv hinv hm0; exact absurd hm0 (Nat.not_lt_zero _)
    | succ n0 ih6 =>
      intro b k rL6 nL6 zL6 FL6 cv sv hinv hm0 H locs hP hD hS ls hl
      obtain ⟨hRLL6, hCLL6, hZLL6, hb9, hk, hnv, hXv⟩ := hinv
      have hkzL6_3 : zL6 3 = z 3 := hRLL6.2.1.1 3 (by decide)
      have hkzL6_7 : zL6 7 = z 7 := hRLL6.2.1.1 7 (by decide)
      have hkzL6_8 : zL6 8 = z 8 := hRLL6.2.1.1 8 (by decide)
      have hkzL6_9 : zL6 9 = z 9 := hRLL6.2.1.1 9 (by decide)
      have hkzL6_2 : zL6 2 = z 2 := hRLL6.2.1.1 2 (by decide)
      have hkzL6_12 : zL6 12 = z 12 := hRLL6.2.1.1 12 (by decide)
      obtain ⟨Y9, hX9, hY9⟩ := hXv
      have hF39 : FL6 3 = F 3 := hRLL6.2.1.2 3 (by decide)
      have hF79 : FL6 7 = F 7 := hRLL6.2.1.2 7 (by decide)
      have hF89 : FL6 8 = F 8 := hRLL6.2.1.2 8 (by decide)
      have hF29 : FL6 2 = F 2 := hRLL6.2.1.2 2 (by decide)
      have hz79 : zL6 7 = z 7 := hRLL6.2.1.1 7 (by decide)
      have hz29 : zL6 2 = z 2 := hRLL6.2.1.1 2 (by decide)
      have hz129 : zL6 12 = z 12 := hRLL6.2.1.1 12 (by decide)
      refine lv_iload hx hb dX5_writePart_6 (lv_at hl 0 rfl) ?_
      refine lv_aload_n hx hb dX5_writePart_8 rfl (lv_at hl 2 rfl) ?_
      refine va_get (D := (dC, dI)) (ci := 5) (v := .ref (o 3)) (C := RX5) (T := TX5) (N := 16) hx hb hts kt_X5 hown hK hP 0 rfl rfl 13 (by decide) (kx_word hG kq_19_xouts_56 rfl) (fun _ h9 => h9) rfl dX5_writePart_9 ?_
      have hxi_1 : 0 ≤ zL6 3 ∧ zL6 3 ≤ ((nL6 3 : Nat) : Int) ∧ ((nL6 3 : Nat) : Int) ≤ 80 := hRLL6.1.1 3 (by decide)
      have hPc := hP.sub (ws' := (iU cI 80 (o 3) (rL6 3) (nL6 3) (zL6 3) (FL6 3))) [8, 9] rfl
      refine xk_pure (va_runV (As := []) (rest := [.int (iz k)]) ⟨hx, hb, hml, hown, hts⟩ (x_size l dC dI cI cB cE 80 (o 3) (rL6 3) (nL6 3) (zL6 3) (FL6 3)  H.size ) (cwV 0 hts (kx_gV kq_18_xrows_40 kq_15_xspan_10 kq_15_xspan_11 kq_13_xints_6 kq_15_xspan_12 rfl) rfl rfl rfl (by decide +kernel) ⟨Nat.le_of_ble_eq_true rfl, Nat.le_of_ble_eq_true rfl⟩) ⟨pPre_blind, va_recv hK hPc (ci := 1) (q0 := 0) rfl rfl, pPre_give hPc hK hG⟩ rfl rfl hl.1 rfl (lv_room (Nat.le_of_ble_eq_true rfl)) dX5_writePart_12 ⟨show cv + 0 ≤ 200 from (by omega), show sv + 0 ≤ 85000 from (by omega)⟩) hS (fun z_3 locs hq_2 hS => ?_)
      refine W.eq (g2 := F0 m 15 ls [.int (iz z_3), .int (iz k)]) rfl ?_
      try dsimp only at hq_2
      have hq_2 := hq_2.symm
      subst hq_2
      refine ki_icmp_ge (tgt := 106) hx hb dX5_writePart_15 (by decide) (by omega) (by omega) (by omega) (by omega) (fun c_4 => ?_) (fun c_4 => ?_)
      · skip
        rw [← hQe]
        exact xk_vret (ov := (fun _ : (Nat → Nat) × (Nat → Nat) × (Nat → Int) × (Nat → Int → Int) × (Nat → Nat → Nat) × (Nat → Nat → Nat) × (Nat → Nat → Int) × (Nat → Nat → Int → Int) => none)) (post := (fun (u : (Nat → Nat) × (Nat → Nat) × (Nat → Int) × (Nat → Int → Int) × (Nat → Nat → Nat) × (Nat → Nat → Nat) × (Nat → Nat → Int) × (Nat → Nat → Int → Int)) (dn dm : Nat) => match u with | (r', n', z', F', Er', En', Ez', EF') => xR [11, 23] [11] [] [] N z F En Ez EF n' z' F' En' Ez' EF' ∧ (dn + xg n' ≤ xg n + 0 ∧ dm + xp n' ≤ xp n + 0) ∧ (pt_X (F 11) (z 11) (z 23) (pt_l (pt_pt (F 3) (z 3) (fun c => pt_mw (pt_wd Ez EF p1) (pt_bt pt_lo 44 (lo_pl (F 7) (F 8) (z 7).toNat 0)) (pt_bt (pt_wd Ez EF) 59 (kf_ls (F 2) 0 (z 2).toNat)) (pt_of p0) p2 c) p0 (z 3).toNat 0 0)) (F' 11) (z' 11) (z' 23) ∧ n' 11 = 6000 ∧ Er = Er' ∧ En = En' ∧ Ez = Ez' ∧ EF = EF'))) (ws := (fun u : (Nat → Nat) × (Nat → Nat) × (Nat → Int) × (Nat → Int → Int) × (Nat → Nat → Nat) × (Nat → Nat → Nat) × (Nat → Nat → Int) × (Nat → Nat → Int → Int) => match u with | (r', n', z', F', Er', En', Ez', EF') => (xU cI cB cE o r' n' z' F' G (Eo 0 0) ++ eP cI N Eo Er' En' Ez' EF'))) (tys := xT cI cB cE) (rL6, nL6, zL6, FL6, Er, En, Ez, EF) hx hb hr hlocks rfl hP hD hK hS dX5_writePart_106 (fun dn dm hdn hdm => ⟨⟨hRLL6.1, hRLL6.2.1, hRLL6.2.2.1, hRLL6.2.2.2⟩, ⟨by omega, by omega⟩, ⟨(pt_X_eq hX9 (by rw [hY9, pt_pt_end (by omega), List.append_nil])), hnv, rfl, rfl, rfl, rfl⟩⟩) (by omega) (by omega)
      · skip
        refine lv_aload_n hx hb dX5_writePart_18 rfl (lv_at hl 2 rfl) ?_
        refine va_get (D := (dC, dI)) (ci := 5) (v := .ref (o 3)) (C := RX5) (T := TX5) (N := 16) hx hb hts kt_X5 hown hK hP 0 rfl rfl 13 (by decide) (kx_word hG kq_19_xouts_56 rfl) (fun _ h9 => h9) rfl dX5_writePart_19 ?_
        refine lv_iload hx hb dX5_writePart_22 (lv_at hl 0 rfl) ?_
        have hPc := hP.sub (ws' := (iU cI 80 (o 3) (rL6 3) (nL6 3) (zL6 3) (FL6 3))) [8, 9] rfl
        refine xk_pure (va_runV (As := [.int (iz k)]) (rest := []) ⟨hx, hb, hml, hown, hts⟩ (x_get l dC dI cI cB cE 80 (o 3) (rL6 3) (nL6 3) (zL6 3) (FL6 3) k H.size (by omega) (hRLL6.1.2.2.1 3) (by omega) (by omega)) (cwV 1 hts (kx_gV kq_18_xrows_41 kq_13_xints_4 kq_13_xints_5 kq_13_xints_6 kq_13_xints_7 rfl) rfl rfl rfl (by decide +kernel) ⟨Nat.le_of_ble_eq_true rfl, Nat.le_of_ble_eq_true rfl⟩) ⟨pPre_blind, va_recv hK hPc (ci := 1) (q0 := 0) rfl rfl, pPre_give hPc hK hG⟩ rfl rfl hl.1 rfl (lv_room (Nat.le_of_ble_eq_true rfl)) dX5_writePart_24 ⟨show cv + 0 ≤ 200 from (by omega), show sv + 0 ≤ 85000 from (by omega)⟩) hS (fun z_6 locs hq_5 hS => ?_)
        refine W.eq (g2 := F0 m 27 ls [.int (iz z_6)]) rfl ?_
        try dsimp only at hq_5
        have e9 := congrFun hF39 k
        have eg_7 : z_6 = F 3 k := by omega
        have hb9 : -2147483648 ≤ F 3 k ∧ F 3 k < 2147483648 := by omega
        subst eg_7
        refine W.eq (g2 := F0 m 27 ls [.int (iz (F 3 k))]) rfl ?_
        replace hq_5 := fun (_ : Unit) => hq_5
        refine lv_istore (lv' := [(6, .int (iz (F 3 k))), (5, .int (iz k)), (4, .int (iz b)), (0, .ref (o 15)), (1, .int (iz p0)), (2, .int (iz p1)), (3, .int (iz p2))]) hx hb dX5_writePart_27 hl (by decide) rfl (fun ls hl => ?_)
        refine lv_iload hx hb dX5_writePart_29 (lv_at hl 0 rfl) ?_
        refine lv_bipush (v := iz 124) hx hb dX5_writePart_31 (by decide) ?_
        refine ki_icmp_ne (tgt := 42) hx hb dX5_writePart_33 (by decide) (by omega) (by omega) (by omega) (by omega) (fun c_8 => ?_) (fun c_8 => ?_)
        · skip
          refine lv_iload hx hb dX5_writePart_42 (lv_at hl 0 rfl) ?_
          refine lv_bipush (v := iz 37) hx hb dX5_writePart_44 (by decide) ?_
          refine ki_icmp_ne (tgt := 85) hx hb dX5_writePart_46 (by decide) (by omega) (by omega) (by omega) (by omega) (fun c_9 => ?_) (fun c_9 => ?_)
          · skip
            refine lv_iload hx hb dX5_writePart_85 (lv_at hl 2 rfl) ?_
            refine lv_iload_n hx hb dX5_writePart_87 rfl (lv_at hl 4 rfl) ?_
            refine ki_icmp_ne (tgt := 100) hx hb dX5_writePart_88 (by decide) (by omega) (by omega) (by omega) (by omega) (fun c_10 => ?_) (fun c_10 => ?_)
            · skip
              refine lv_iinc (v := iz (k + 1)) (lv' := [(5, .int (iz (k + 1))), (6, .int (iz (F 3 k))), (4, .int (iz b)), (0, .ref (o 15)), (1, .int (iz p0)), (2, .int (iz p1)), (3, .int (iz p2))]) hx hb dX5_writePart_100 hl (k := 1) rfl (iz_add k 1) (by decide) rfl (fun ls hl => ?_)
              refine lv_goto (tgt := 6) hx hb dX5_writePart_103 (by decide) ?_
              exact ih6 b (k + 1) rL6 nL6 zL6 FL6 cv sv ⟨⟨hRLL6.1, hRLL6.2.1, hRLL6.2.2.1, hRLL6.2.2.2⟩, ⟨by omega, by omega⟩, (show zL6 12 = z 12 by omega), by omega, by omega, (show nL6 11 = 6000 by omega), ⟨(Y9 ++ []), (by rw [List.append_nil]; exact hX9), (by rw [hY9, pt_pt_sign (by omega) (show ¬ F 3 k = 124 by omega) (show ¬ F 3 k = 37 by omega), if_neg (show ¬ b = p0 by omega), List.append_assoc])⟩⟩ (by omega) _ _ hP hD hS ls (lv_sub hl [0, 2, 3, 4, 5, 6] rfl)
            · skip
              refine lv_aload_n hx hb dX5_writePart_91 rfl (lv_at hl 3 rfl) ?_
              refine va_get (D := (dC, dI)) (ci := 5) (v := .ref (o 11)) (C := RX5) (T := TX5) (N := 16) hx hb hts kt_X5 hown hK hP 0 rfl rfl 15 (by decide) (kx_word hG kq_19_xouts_60 rfl) (fun _ h9 => h9) rfl dX5_writePart_92 ?_
              refine lv_iload hx hb dX5_writePart_95 (lv_at hl 0 rfl) ?_
              have hxp_11 : 0 ≤ zL6 11 ∧ zL6 11 ≤ ((nL6 11 : Nat) : Int) ∧ (nL6 11 = 0 ∨ nL6 11 = 6000) := hRLL6.1.2.1 11 (by decide)
              have hxz_12 : -2147483648 ≤ zL6 23 ∧ zL6 23 < 2147483648 := hRLL6.1.2.2.2.1 23
              have hxb_13 : zL6 23 = 0 ∨ zL6 23 = 1 := hRLL6.1.2.2.2.2 23 (by decide)
              have hPc := hP.sub (ws' := (pU cB (o 11) (rL6 11) (nL6 11) (zL6 11) (zL6 23) (FL6 11))) [27, 28] rfl
              have hDc := hD.sub (ws' := (pU cB (o 11) (rL6 11) (nL6 11) (zL6 11) (zL6 23) (FL6 11))) [27, 28] (by decide) rfl
              have hFc := va_free (wc := (pU cB (o 11) (rL6 11) (nL6 11) (zL6 11) (zL6 23) (FL6 11))) hD hS hA [27, 28] rfl
              refine xk_call (va_runV (As := [.int (iz (F 3 k))]) (rest := []) ⟨hx, hb, hml, hown, hts⟩ (x_put2 l dC dI cI cB cE (o 11) (rL6 11) (nL6 11) (zL6 11) (zL6 23) (FL6 11) (F 3 k) H.size (by omega) (by omega) (hRLL6.1.2.2.1 11) (by omega) (by omega) (by omega)) (cwV 1 hts (kx_gV kq_19_xouts_65 kq_15_xspan_15 kq_15_xspan_16 kq_15_xspan_17 kq_15_xspan_18 rfl) rfl rfl rfl (by decide +kernel) ⟨Nat.le_of_ble_eq_true rfl, Nat.le_of_ble_eq_true rfl⟩) ⟨kx_blind, va_recv hK hPc (ci := 2) (q0 := 0) rfl rfl, kx_give (ws := []) (tys := []) hPc hDc hK hG hZ hS hFc⟩ rfl rfl hl.1 rfl (lv_room (Nat.le_of_ble_eq_true rfl)) dX5_writePart_97 ⟨show cv + 0 ≤ 200 from (by omega), show sv + 0 ≤ 85000 from (by omega)⟩) hS (fun q _ h => hFc q h) hFc (fun u dn_15 dm_16 t H locs ht hvm hq_14 hB hk1 hS => ?_)
              obtain ⟨z_17, tl_18, F_19⟩ := u
              obtain ⟨hP1, hK1, hD1⟩ := hB
              rw [ht] at hP1
              obtain ⟨hP, hD⟩ := xj_pool (wr := [(o 15, .inr (5, [.ref (o 16), .ref (Eo 0 0), .int (iz (zL6 12)), .int (iz (zL6 13)), .int (iz (zL6 14)), .ref (o 0), .ref (o 1), .int (iz (zL6 15)), .ref (o 13), .ref (o 14), .int (iz (zL6 16)), .ref (o 2), .ref (o 12), .ref (o 3), .ref (o 10), .ref (o 11)])), (o 16, .inl (cE, 80, .inr (.inr (.inr (.inr G))))), (o 0, .inr (1, [.int (iz 80), .ref (rL6 0), .int (iz (zL6 0))])), (rL6 0, .inl (cI, nL6 0, .inl (iA (FL6 0)))), (o 1, .inr (1, [.int (iz 80), .ref (rL6 1), .int (iz (zL6 1))])), (rL6 1, .inl (cI, nL6 1, .inl (iA (FL6 1)))), (o 2, .inr (1, [.int (iz 80), .ref (rL6 2), .int (iz (zL6 2))])), (rL6 2, .inl (cI, nL6 2, .inl (iA (FL6 2)))), (o 3, .inr (1, [.int (iz 80), .ref (rL6 3), .int (iz (zL6 3))])), (rL6 3, .inl (cI, nL6 3, .inl (iA (FL6 3)))), (o 13, .inr (3, [.ref (o 4), .ref (o 5), .ref (o 6)])), (o 4, .inr (1, [.int (iz 1600), .ref (rL6 4), .int (iz (zL6 4))])), (rL6 4, .inl (cI, nL6 4, .inl (iA (FL6 4)))), (o 5, .inr (1, [.int (iz 1600), .ref (rL6 5), .int (iz (zL6 5))])), (rL6 5, .inl (cI, nL6 5, .inl (iA (FL6 5)))), (o 6, .inr (1, [.int (iz 1600), .ref (rL6 6), .int (iz (zL6 6))])), (rL6 6, .inl (cI, nL6 6, .inl (iA (FL6 6)))), (o 14, .inr (3, [.ref (o 7), .ref (o 8), .ref (o 9)])), (o 7, .inr (1, [.int (iz 1600), .ref (rL6 7), .int (iz (zL6 7))])), (rL6 7, .inl (cI, nL6 7, .inl (iA (FL6 7)))), (o 8, .inr (1, [.int (iz 1600), .ref (rL6 8), .int (iz (zL6 8))])), (rL6 8, .inl (cI, nL6 8, .inl (iA (FL6 8)))), (o 9, .inr (1, [.int (iz 1600), .ref (rL6 9), .int (iz (zL6 9))])), (rL6 9, .inl (cI, nL6 9, .inl (iA (FL6 9)))), (o 12, .inr (4, [.int (iz (zL6 17)), .int (iz (zL6 18)), .int (iz (zL6 19)), .int (iz (zL6 20)), .int (iz (zL6 21))])), (o 10, .inr (2, [.ref (rL6 10), .int (iz (zL6 10)), .int (iz (zL6 22))])), (rL6 10, .inl (cB, nL6 10, .inl (iA (FL6 10))))]) (w1 := (pU cB (o 11) (rL6 11) (nL6 11) z_17 tl_18 F_19)) (ws' := (xU cI cB cE o rL6 nL6 (va_up (va_up zL6 11 z_17) 23 tl_18) (va_up FL6 11 F_19) G (Eo 0 0))) hP hD [27, 28] [0, 1, 2, 3, 4, 5, 6, 7, 8, 9, 10, 11, 12, 13, 14, 15, 16, 17, 18, 19, 20, 21, 22, 23, 24, 25, 26] [0, 1, 2, 3, 4, 5, 6, 7, 8, 9, 10, 11, 12, 13, 14, 15, 16, 17, 18, 19, 20, 21, 22, 23, 24, 25, 26, 27, 28] rfl rfl (by decide) (by decide) hk1 hFc hP1 hD1 rfl (by decide)
              refine W.eq (g2 := F0 m 100 ls []) rfl ?_
              try dsimp only at hq_14
              obtain ⟨hd20, hm20, hz20, ht20, hF20, hX20⟩ := hq_14
              subst hd20
              subst hm20
              have hY20 := pt_X_app hX9 hX20
              refine lv_iinc (v := iz (k + 1)) (lv' := [(5, .int (iz (k + 1))), (6, .int (iz (F 3 k))), (4, .int (iz b)), (0, .ref (o 15)), (1, .int (iz p0)), (2, .int (iz p1)), (3, .int (iz p2))]) hx hb dX5_writePart_100 hl (k := 1) rfl (iz_add k 1) (by decide) rfl (fun ls hl => ?_)
              refine lv_goto (tgt := 6) hx hb dX5_writePart_103 (by decide) ?_
              have hok21 : xOk (va_up nL6 11 (nL6 11)) (va_up (va_up zL6 11 z_17) 23 tl_18) (va_up FL6 11 F_19) := ((hRLL6.1.p 11 (by decide) (show 0 ≤ z_17 ∧ z_17 ≤ ((nL6 11 : Nat) : Int) ∧ (nL6 11 = 0 ∨ nL6 11 = 6000) by omega) hF20).s 23 (by decide) (show -2147483648 ≤ tl_18 ∧ tl_18 < 2147483648 by omega) (by omega))
              have hfr21 : xFr [11, 23] [11] z F (va_up (va_up zL6 11 z_17) 23 tl_18) (va_up FL6 11 F_19) := (((hRLL6.2.1.uz 11 (by decide) _).uz 23 (by decide) _).uf 11 (by decide) _)
              have hcg21 : (0) + xg (va_up nL6 11 (nL6 11)) ≤ xg nL6 := by unfold xg; simp (decide := true) only [va_ev, ↓reduceIte]; omega
              have hcp21 : (0) + xp (va_up nL6 11 (nL6 11)) ≤ xp nL6 := by unfold xp; simp (decide := true) only [va_ev, ↓reduceIte]; omega
              exact ih6 b (k + 1) rL6 (va_up nL6 11 (nL6 11)) (va_up (va_up zL6 11 z_17) 23 tl_18) (va_up FL6 11 F_19) (cv + 0) (sv + 0) ⟨⟨hok21, hfr21, hRLL6.2.2.1, hRLL6.2.2.2⟩, ⟨by omega, by omega⟩, (show zL6 12 = z 12 by omega), by omega, by omega, (show nL6 11 = 6000 by omega), ⟨(Y9 ++ [F 3 k]), (pt_X_eq hY20 (by rw [pt_l_app]; rfl)), (by rw [hY9, pt_pt_sign (by omega) (show ¬ F 3 k = 124 by omega) (show ¬ F 3 k = 37 by omega), if_pos (show b = p0 by omega), List.append_assoc])⟩⟩ (by omega) _ _ hP hD hS ls (lv_sub hl [0, 2, 3, 4, 5, 6] rfl)
          · skip
            refine lv_iinc (v := iz (k + 1)) (lv' := [(5, .int (iz (k + 1))), (6, .int (iz (F 3 k))), (4, .int (iz b)), (0, .ref (o 15)), (1, .int (iz p0)), (2, .int (iz p1)), (3, .int (iz p2))]) hx hb dX5_writePart_49 hl (k := 1) rfl (iz_add k 1) (by decide) rfl (fun ls hl => ?_)
            refine lv_iload hx hb dX5_writePart_52 (lv_at hl 2 rfl) ?_
            refine lv_iload_n hx hb dX5_writePart_54 rfl (lv_at hl 4 rfl) ?_
            refine ki_icmp_ne (tgt := 100) hx hb dX5_writePart_55 (by decide) (by omega) (by omega) (by omega) (by omega) (fun c_22 => ?_) (fun c_22 => ?_)
            · skip
              refine lv_iinc (v := iz ((k + 1) + 1)) (lv' := [(5, .int (iz ((k + 1) + 1))), (6, .int (iz (F 3 k))), (4, .int (iz b)), (0, .ref (o 15)), (1, .int (iz p0)), (2, .int (iz p1)), (3, .int (iz p2))]) hx hb dX5_writePart_100 hl (k := 0) rfl (iz_add (k + 1) 1) (by decide) rfl (fun ls hl => ?_)
              refine lv_goto (tgt := 6) hx hb dX5_writePart_103 (by decide) ?_
              exact ih6 b ((k + 1) + 1) rL6 nL6 zL6 FL6 cv sv ⟨⟨hRLL6.1, hRLL6.2.1, hRLL6.2.2.1, hRLL6.2.2.2⟩, ⟨by omega, by omega⟩, (show zL6 12 = z 12 by omega), by omega, by omega, (show nL6 11 = 6000 by omega), ⟨(Y9 ++ []), (by rw [List.append_nil]; exact hX9), (by rw [hY9, pt_pt_mark (by omega) (show F 3 k = 37 by omega), if_neg (show ¬ b = p0 by omega), show k + 1 + 1 = k + 2 by omega, List.append_assoc])⟩⟩ (by omega) _ _ hP hD hS ls (lv_sub hl [0, 2, 3, 4, 5, 6] rfl)
            · skip
              refine lv_aload_n hx hb dX5_writePart_58 rfl (lv_at hl 3 rfl) ?_
              refine lv_aload_n hx hb dX5_writePart_59 rfl (lv_at hl 3 rfl) ?_
              refine va_get (D := (dC, dI)) (ci := 5) (v := .ref (o 3)) (C := RX5) (T := TX5) (N := 16) hx hb hts kt_X5 hown hK hP 0 rfl rfl 13 (by decide) (kx_word hG kq_19_xouts_56 rfl) (fun _ h9 => h9) rfl dX5_writePart_60 ?_
              refine lv_iload hx hb dX5_writePart_63 (lv_at hl 0 rfl) ?_
              have hPc := hP.sub (ws' := (iU cI 80 (o 3) (rL6 3) (nL6 3) (zL6 3) (FL6 3))) [8, 9] rfl
              refine xk_pure (va_runV (As := [.int (iz (k + 1))]) (rest := [.ref (o 15)]) ⟨hx, hb, hml, hown, hts⟩ (x_get l dC dI cI cB cE 80 (o 3) (rL6 3) (nL6 3) (zL6 3) (FL6 3) (k + 1) H.size (by omega) (hRLL6.1.2.2.1 3) (by omega) (by omega)) (cwV 1 hts (kx_gV kq_18_xrows_41 kq_13_xints_4 kq_13_xints_5 kq_13_xints_6 kq_13_xints_7 rfl) rfl rfl rfl (by decide +kernel) ⟨Nat.le_of_ble_eq_true rfl, Nat.le_of_ble_eq_true rfl⟩) ⟨pPre_blind, va_recv hK hPc (ci := 1) (q0 := 0) rfl rfl, pPre_give hPc hK hG⟩ rfl rfl hl.1 rfl (lv_room (Nat.le_of_ble_eq_true rfl)) dX5_writePart_65 ⟨show cv + 0 ≤ 200 from (by omega), show sv + 0 ≤ 85000 from (by omega)⟩) hS (fun z_24 locs hq_23 hS => ?_)
              refine W.eq (g2 := F0 m 68 ls [.int (iz z_24), .ref (o 15)]) rfl ?_
              try dsimp only at hq_23
              have e9 := congrFun hF39 (k + 1)
              have eg_25 : z_24 = pt_gt (F 3) (z 3) (k + 1) := by unfold pt_gt; split <;> omega
              have hb9 : -2147483648 ≤ pt_gt (F 3) (z 3) (k + 1) ∧ pt_gt (F 3) (z 3) (k + 1) < 2147483648 := by omega
              subst eg_25
              refine W.eq (g2 := F0 m 68 ls [.int (iz (pt_gt (F 3) (z 3) (k + 1))), .ref (o 15)]) rfl ?_
              replace hq_23 := fun (_ : Unit) => hq_23
              refine lv_iload_n hx hb dX5_writePart_68 rfl (lv_at hl 4 rfl) ?_
              refine ki_if_le (tgt := 76) hx hb dX5_writePart_69 (by decide) (by omega) (by omega) (fun c_26 => ?_) (fun c_26 => ?_)
              · skip
                refine lv_iconst (v := iz 0) hx hb dX5_writePart_76 (by decide) ?_
                refine lv_iload_n hx hb dX5_writePart_77 rfl (lv_at hl 5 rfl) ?_
                refine lv_iload_n hx hb dX5_writePart_78 rfl (lv_at hl 6 rfl) ?_
                have hxz_27 : -2147483648 ≤ zL6 12 ∧ zL6 12 < 2147483648 := hRLL6.1.2.2.2.1 12
                have hxG9 : xG N (zL6 12) G Eo := ⟨by omega, by omega, by omega, fun e9 h9 => hN4 e9 (by omega)⟩
                have hP : va_P (dC, dI) kxCl (xU cI cB cE o rL6 nL6 zL6 FL6 G (Eo 0 0) ++ eP cI N Eo Er En Ez EF) H := hP
                have hD : va_D A (xU cI cB cE o rL6 nL6 zL6 FL6 G (Eo 0 0) ++ eP cI N Eo Er En Ez EF) := hD
                have hFc := xw_free hD hS hA
                refine xk_call (va_runV (As := [.int (iz (pt_gt (F 3) (z 3) (k + 1))), .int (iz 0), .int (iz p1), .int (iz p2)]) (rest := []) ⟨hx, hb, hml, hown, hts⟩ (y_writeMark2 l dC dI cI cB cE o rL6 nL6 zL6 FL6 G N Eo Er En Ez EF (pt_gt (F 3) (z 3) (k + 1)) 0 p1 p2 H.size hRLL6.1 hxG9 hRLL6.2.2.1 (by omega) (by omega) (by omega) (by omega) (by omega) (by omega) (by omega) (by omega) (by rw [hF79, hF89, hz79]; exact hpv) (by rw [hF29, hz29, hz129]; exact hsv)) (cwV 4 hts (kx_gV kq_19_xouts_83 kq_19_xouts_84 kq_19_xouts_85 kq_18_xrows_4 kq_19_xouts_86 rfl) rfl rfl rfl (by decide +kernel) ⟨Nat.le_of_ble_eq_true rfl, Nat.le_of_ble_eq_true rfl⟩) ⟨kx_blind, va_recv hK hP (ci := 5) (q0 := 0) rfl rfl, kx_give (ws := []) (tys := []) hP hD hK hG hZ hS hFc⟩ rfl rfl hl.1 rfl (lv_room (Nat.le_of_ble_eq_true rfl)) dX5_writePart_79 ⟨show cv + 100 ≤ 200 from (by omega), show sv + 42000 ≤ 85000 from (by omega)⟩) hS (fun q _ h => hFc q h) hFc (fun u dn_30 dm_31 t H locs ht hvm hq_28 hB hk1 hS => ?_)
                obtain ⟨r_32, n_33, z_34, F_35, Er_36, En_37, Ez_38, EF_39⟩ := u
                obtain ⟨hP, hK1, hD1⟩ := hB
                rw [ht] at hP
                have hD := hD1.weaken (fun _ q _ h => hFc _ h)
                obtain ⟨hR40, hC40, hq_28⟩ := hq_28
                have hok40 := hR40.1
                have hfr40 := hRLL6.2.1.tr (hR40.2.1.mono (S' := [11, 23]) (T' := [11]) (by decide) (by decide))
                have hPE40 := hR40.2.2.1
                have hef40 := hRLL6.2.2.2.tr (hR40.2.2.2.mono (S' := []) (T' := []) (by decide) (by decide))
                have hz40 : z_34 12 = (zL6 12) := hR40.2.1.1 12 (by decide)
                have hkz40_3 : z_34 3 = z 3 := hfr40.1 3 (by decide)
                have hkz40_7 : z_34 7 = z 7 := hfr40.1 7 (by decide)
                have hkz40_8 : z_34 8 = z 8 := hfr40.1 8 (by decide)
                have hkz40_9 : z_34 9 = z 9 := hfr40.1 9 (by decide)
                have hkz40_2 : z_34 2 = z 2 := hfr40.1 2 (by decide)
                have hkz40_12 : z_34 12 = z 12 := hfr40.1 12 (by decide)
                refine W.eq (g2 := F0 m 82 ls []) rfl ?_
                try dsimp only at hq_28
                rw [hF79, hF89, hz79, hF29, hz29] at hq_28
                obtain ⟨hX41, hnn41, hkp41⟩ := hq_28
                obtain ⟨rfl, rfl, rfl, rfl⟩ := hkp41
                have hY41 := pt_X_app hX9 hX41
                refine lv_goto (tgt := 100) hx hb dX5_writePart_82 (by decide) ?_
                refine lv_iinc (v := iz ((k + 1) + 1)) (lv' := [(5, .int (iz ((k + 1) + 1))), (6, .int (iz (F 3 k))), (4, .int (iz b)), (0, .ref (o 15)), (1, .int (iz p0)), (2, .int (iz p1)), (3, .int (iz p2))]) hx hb dX5_writePart_100 hl (k := 0) rfl (iz_add (k + 1) 1) (by decide) rfl (fun ls hl => ?_)
                refine lv_goto (tgt := 6) hx hb dX5_writePart_103 (by decide) ?_
                exact ih6 b ((k + 1) + 1) r_32 n_33 z_34 F_35 (cv + dn_30) (sv + dm_31) ⟨⟨hok40, hfr40, hPE40, hef40⟩, ⟨by omega, by omega⟩, (show z_34 12 = z 12 by omega), by omega, by omega, (show n_33 11 = 6000 by omega), ⟨(Y9 ++ pt_mw (pt_wd Ez EF p1) (pt_bt pt_lo 44 (lo_pl (F 7) (F 8) (z 7).toNat 0)) (pt_bt (pt_wd Ez EF) 59 (kf_ls (F 2) 0 (z 2).toNat)) (pt_of p0) p2 (pt_gt (F 3) (z 3) (k + 1))), (pt_X_eq hY41 (by rw [pt_l_app]; first | rfl | (rw [show pt_of p0 = 1 from if_pos (by omega)]) | (rw [show pt_of p0 = 0 from if_neg (by omega)]))), (by rw [hY9, pt_pt_mark (by omega) (show F 3 k = 37 by omega), if_pos (show b = p0 by omega), show k + 1 + 1 = k + 2 by omega, List.append_assoc])⟩⟩ (by omega) _ _ hP hD hS ls (lv_sub hl [0, 2, 3, 4, 5, 6] rfl)
              · skip
                refine lv_iconst (v := iz 1) hx hb dX5_writePart_72 (by decide) ?_
                refine lv_goto (tgt := 77) hx hb dX5_writePart_73 (by decide) ?_
                refine lv_iload_n hx hb dX5_writePart_77 rfl (lv_at hl 5 rfl) ?_
                refine lv_iload_n hx hb dX5_writePart_78 rfl (lv_at hl 6 rfl) ?_
                have hxz_42 : -2147483648 ≤ zL6 12 ∧ zL6 12 < 2147483648 := hRLL6.1.2.2.2.1 12
                have hxG9 : xG N (zL6 12) G Eo := ⟨by omega, by omega, by omega, fun e9 h9 => hN4 e9 (by omega)⟩
                have hP : va_P (dC, dI) kxCl (xU cI cB cE o rL6 nL6 zL6 FL6 G (Eo 0 0) ++ eP cI N Eo Er En Ez EF) H := hP
                have hD : va_D A (xU cI cB cE o rL6 nL6 zL6 FL6 G (Eo 0 0) ++ eP cI N Eo Er En Ez EF) := hD
                have hFc := xw_free hD hS hA
                refine xk_call (va_runV (As := [.int (iz (pt_gt (F 3) (z 3) (k + 1))), .int (iz 1), .int (iz p1), .int (iz p2)]) (rest := []) ⟨hx, hb, hml, hown, hts⟩ (y_writeMark2 l dC dI cI cB cE o rL6 nL6 zL6 FL6 G N Eo Er En Ez EF (pt_gt (F 3) (z 3) (k + 1)) 1 p1 p2 H.size hRLL6.1 hxG9 hRLL6.2.2.1 (by omega) (by omega) (by omega) (by omega) (by omega) (by omega) (by omega) (by omega) (by rw [hF79, hF89, hz79]; exact hpv) (by rw [hF29, hz29, hz129]; exact hsv)) (cwV 4 hts (kx_gV kq_19_xouts_83 kq_19_xouts_84 kq_19_xouts_85 kq_18_xrows_4 kq_19_xouts_86 rfl) rfl rfl rfl (by decide +kernel) ⟨Nat.le_of_ble_eq_true rfl, Nat.le_of_ble_eq_true rfl⟩) ⟨kx_blind, va_recv hK hP (ci := 5) (q0 := 0) rfl rfl, kx_give (ws := []) (tys := []) hP hD hK hG hZ hS hFc⟩ rfl rfl hl.1 rfl (lv_room (Nat.le_of_ble_eq_true rfl)) dX5_writePart_79 ⟨show cv + 100 ≤ 200 from (by omega), show sv + 42000 ≤ 85000 from (by omega)⟩) hS (fun q _ h => hFc q h) hFc (fun u dn_45 dm_46 t H locs ht hvm hq_43 hB hk1 hS => ?_)
                obtain ⟨r_47, n_48, z_49, F_50, Er_51, En_52, Ez_53, EF_54⟩ := u
                obtain ⟨hP, hK1, hD1⟩ := hB
                rw [ht] at hP
                have hD := hD1.weaken (fun _ q _ h => hFc _ h)
                obtain ⟨hR55, hC55, hq_43⟩ := hq_43
                have hok55 := hR55.1
                have hfr55 := hRLL6.2.1.tr (hR55.2.1.mono (S' := [11, 23]) (T' := [11]) (by decide) (by decide))
                have hPE55 := hR55.2.2.1
                have hef55 := hRLL6.2.2.2.tr (hR55.2.2.2.mono (S' := []) (T' := []) (by decide) (by decide))
                have hz55 : z_49 12 = (zL6 12) := hR55.2.1.1 12 (by decide)
                have hkz55_3 : z_49 3 = z 3 := hfr55.1 3 (by decide)
                have hkz55_7 : z_49 7 = z 7 := hfr55.1 7 (by decide)
                have hkz55_8 : z_49 8 = z 8 := hfr55.1 8 (by decide)
                have hkz55_9 : z_49 9 = z 9 := hfr55.1 9 (by decide)
                have hkz55_2 : z_49 2 = z 2 := hfr55.1 2 (by decide)
                have hkz55_12 : z_49 12 = z 12 := hfr55.1 12 (by decide)
                refine W.eq (g2 := F0 m 82 ls []) rfl ?_
                try dsimp only at hq_43
                rw [hF79, hF89, hz79, hF29, hz29] at hq_43
                obtain ⟨hX56, hnn56, hkp56⟩ := hq_43
                obtain ⟨rfl, rfl, rfl, rfl⟩ := hkp56
                have hY56 := pt_X_app hX9 hX56
                refine lv_goto (tgt := 100) hx hb dX5_writePart_82 (by decide) ?_
                refine lv_iinc (v := iz ((k + 1) + 1)) (lv' := [(5, .int (iz ((k + 1) + 1))), (6, .int (iz (F 3 k))), (4, .int (iz b)), (0, .ref (o 15)), (1, .int (iz p0)), (2, .int (iz p1)), (3, .int (iz p2))]) hx hb dX5_writePart_100 hl (k := 0) rfl (iz_add (k + 1) 1) (by decide) rfl (fun ls hl => ?_)
                refine lv_goto (tgt := 6) hx hb dX5_writePart_103 (by decide) ?_
                exact ih6 b ((k + 1) + 1) r_47 n_48 z_49 F_50 (cv + dn_45) (sv + dm_46) ⟨⟨hok55, hfr55, hPE55, hef55⟩, ⟨by omega, by omega⟩, (show z_49 12 = z 12 by omega), by omega, by omega, (show n_48 11 = 6000 by omega), ⟨(Y9 ++ pt_mw (pt_wd Ez EF p1) (pt_bt pt_lo 44 (lo_pl (F 7) (F 8) (z 7).toNat 0)) (pt_bt (pt_wd Ez EF) 59 (kf_ls (F 2) 0 (z 2).toNat)) (pt_of p0) p2 (pt_gt (F 3) (z 3) (k + 1))), (pt_X_eq hY56 (by rw [pt_l_app]; first | rfl | (rw [show pt_of p0 = 1 from if_pos (by omega)]) | (rw [show pt_of p0 = 0 from if_neg (by omega)]))), (by rw [hY9, pt_pt_mark (by omega) (show F 3 k = 37 by omega), if_pos (show b = p0 by omega), show k + 1 + 1 = k + 2 by omega, List.append_assoc])⟩⟩ (by omega) _ _ hP hD hS ls (lv_sub hl [0, 2, 3, 4, 5, 6] rfl)
        · skip
          refine lv_iinc (v := iz (b + 1)) (lv' := [(4, .int (iz (b + 1))), (6, .int (iz (F 3 k))), (5, .int (iz k)), (0, .ref (o 15)), (1, .int (iz p0)), (2, .int (iz p1)), (3, .int (iz p2))]) hx hb dX5_writePart_36 hl (k := 2) rfl (iz_add b 1) (by decide) rfl (fun ls hl => ?_)
          refine lv_goto (tgt := 100) hx hb dX5_writePart_39 (by decide) ?_
          refine lv_iinc (v := iz (k + 1)) (lv' := [(5, .int (iz (k + 1))), (4, .int (iz (b + 1))), (6, .int (iz (F 3 k))), (0, .ref (o 15)), (1, .int (iz p0)), (2, .int (iz p1)), (3, .int (iz p2))]) hx hb dX5_writePart_100 hl (k := 2) rfl (iz_add k 1) (by decide) rfl (fun ls hl => ?_)
          refine lv_goto (tgt := 6) hx hb dX5_writePart_103 (by decide) ?_
          exact ih6 (b + 1) (k + 1) rL6 nL6 zL6 FL6 cv sv ⟨⟨hRLL6.1, hRLL6.2.1, hRLL6.2.2.1, hRLL6.2.2.2⟩, ⟨by omega, by omega⟩, (show zL6 12 = z 12 by omega), by omega, by omega, (show nL6 11 = 6000 by omega), ⟨Y9, hX9, (by rw [hY9, pt_pt_bar (by omega) (show F 3 k = 124 by omega)])⟩⟩ (by omega) _ _ hP hD hS ls (lv_sub hl [0, 1, 3, 4, 5, 6] rfl)
  exact lp6 _ 0 0 r n z F 0 0 ⟨⟨hok, hfr, hPE, hef⟩, ⟨by omega, by omega⟩, (show z 12 = z 12 by omega), by omega, by omega, hn6, ⟨[], pt_X_eq hX0 rfl, (by rw [List.nil_append, Int.sub_zero])⟩⟩ (Nat.lt_succ_self _) _ _ hP hD hS ls (lv_sub hl [0, 1, 2, 3, 4, 5] rfl)
set_option maxHeartbeats 4000000 in
set_option maxRecDepth 100000 in
theorem x_isMark2 (l : Launch) (dC : Nat → ClassId) (dI : Nat → Nat → Nat) (cI cB cE : ClassId) (p0 : Int) (sz : Nat) (hp01 : -2147483648 ≤ p0) (hp02 : p0 < 2147483648) : Met l yX5_isMark [.code yX5_isMark cX5_isMark 1 (some .boolean)] ({ frames := 0, cells := 0, slots := 0, locals := 0 }) (va_Pc [.int (iz p0)] (pPre dC dI [] (xT cI cB cE) sz)) (pQ (fun z => some (.int (iz z))) (fun (q : Int) => (q = 1 ∧ pt_mk p0) ∨ (q = 0 ∧ ¬ pt_mk p0))) 0 0 (fun _ => False) := by
  refine Met.ofW (cc := cX5_isMark) (maxL := 1) (ret := (some .boolean)) (by decide) rfl ?_
  intro p e s m args below meth c s₁ B hml hv
  obtain ⟨rfl, hsz, hP, hK, hG⟩ := hv
  have hx := B.exec
  have hb := B.bytes
  have hr := B.returns
  have hts := kx_hts (a := ([.int (iz p0)] : List Value).toArray) hG
  have hown : s.vm.findClass RX5 = some m.cls := findClass_of_methodNamed B.named
  have hlocks := B.notSynchronized
  subst hsz
  have hS : va_S (fun _ => False) s.heap s.heap [] := va_S.rf
  have hl := lv_entry ([.int (iz p0)]) (n := 1) (Nat.le_of_ble_eq_true rfl)
  rw [lg_entry_eq]
  generalize (lg_sl ([.int (iz p0)]) ++ List.replicate (1 - (lg_sl ([.int (iz p0)])).length) Slot.unset).toArray = ls at hl ⊢
  have hl : lv_has ls 1 [(0, .int (iz p0))] := hl
  refine lv_iload_n hx hb dX5_isMark_0 rfl (lv_at hl 0 rfl) ?_
  refine lv_bipush (v := iz 119) hx hb dX5_isMark_1 (by decide) ?_
  refine ki_icmp_eq (tgt := 36) hx hb dX5_isMark_3 (by decide) (by omega) (by omega) (by omega) (by omega) (fun c_1 => ?_) (fun c_1 => ?_)
  · skip
    refine lv_iconst (v := iz 1) hx hb dX5_isMark_36 (by decide) ?_
    refine lv_goto (tgt := 41) hx hb dX5_isMark_37 (by decide) ?_
    exact xp_iret (z := 1) hx hb hr (mz_bool (by omega)).1 hlocks rfl hS.2.2 dX5_isMark_41 (by unfold pt_mk; omega)
  · skip
    refine lv_iload_n hx hb dX5_isMark_6 rfl (lv_at hl 0 rfl) ?_
    refine lv_bipush (v := iz 112) hx hb dX5_isMark_7 (by decide) ?_
    refine ki_icmp_eq (tgt := 36) hx hb dX5_isMark_9 (by decide) (by omega) (by omega) (by omega) (by omega) (fun c_2 => ?_) (fun c_2 => ?_)
    · skip
      refine lv_iconst (v := iz 1) hx hb dX5_isMark_36 (by decide) ?_
      refine lv_goto (tgt := 41) hx hb dX5_isMark_37 (by decide) ?_
      exact xp_iret (z := 1) hx hb hr (mz_bool (by omega)).1 hlocks rfl hS.2.2 dX5_isMark_41 (by unfold pt_mk; omega)
    · skip
      refine lv_iload_n hx hb dX5_isMark_12 rfl (lv_at hl 0 rfl) ?_
      refine lv_bipush (v := iz 115) hx hb dX5_isMark_13 (by decide) ?_
      refine ki_icmp_eq (tgt := 36) hx hb dX5_isMark_15 (by decide) (by omega) (by omega) (by omega) (by omega) (fun c_3 => ?_) (fun c_3 => ?_)
      · skip
        refine lv_iconst (v := iz 1) hx hb dX5_isMark_36 (by decide) ?_
        refine lv_goto (tgt := 41) hx hb dX5_isMark_37 (by decide) ?_
        exact xp_iret (z := 1) hx hb hr (mz_bool (by omega)).1 hlocks rfl hS.2.2 dX5_isMark_41 (by unfold pt_mk; omega)
      · skip
        refine lv_iload_n hx hb dX5_isMark_18 rfl (lv_at hl 0 rfl) ?_
        refine lv_bipush (v := iz 103) hx hb dX5_isMark_19 (by decide) ?_
        refine ki_icmp_eq (tgt := 36) hx hb dX5_isMark_21 (by decide) (by omega) (by omega) (by omega) (by omega) (fun c_4 => ?_) (fun c_4 => ?_)
        · skip
          refine lv_iconst (v := iz 1) hx hb dX5_isMark_36 (by decide) ?_
          refine lv_goto (tgt := 41) hx hb dX5_isMark_37 (by decide) ?_
          exact xp_iret (z := 1) hx hb hr (mz_bool (by omega)).1 hlocks rfl hS.2.2 dX5_isMark_41 (by unfold pt_mk; omega)
        · skip
          refine lv_iload_n hx hb dX5_isMark_24 rfl (lv_at hl 0 rfl) ?_
          refine lv_bipush (v := iz 110) hx hb dX5_isMark_25 (by decide) ?_
          refine ki_icmp_eq (tgt := 36) hx hb dX5_isMark_27 (by decide) (by omega) (by omega) (by omega) (by omega) (fun c_5 => ?_) (fun c_5 => ?_)
          · skip
            refine lv_iconst (v := iz 1) hx hb dX5_isMark_36 (by decide) ?_
            refine lv_goto (tgt := 41) hx hb dX5_isMark_37 (by decide) ?_
            exact xp_iret (z := 1) hx hb hr (mz_bool (by omega)).1 hlocks rfl hS.2.2 dX5_isMark_41 (by unfold pt_mk; omega)
          · skip
            refine lv_iload_n hx hb dX5_isMark_30 rfl (lv_at hl 0 rfl) ?_
            refine lv_bipush (v := iz 37) hx hb dX5_isMark_31 (by decide) ?_
            refine ki_icmp_ne (tgt := 40) hx hb dX5_isMark_33 (by decide) (by omega) (by omega) (by omega) (by omega) (fun c_6 => ?_) (fun c_6 => ?_)
            · skip
              refine lv_iconst (v := iz 0) hx hb dX5_isMark_40 (by decide) ?_
              exact xp_iret (z := 0) hx hb hr (mz_bool (by omega)).1 hlocks rfl hS.2.2 dX5_isMark_41 (by unfold pt_mk; omega)
            · skip
              refine lv_iconst (v := iz 1) hx hb dX5_isMark_36 (by decide) ?_
              refine lv_goto (tgt := 41) hx hb dX5_isMark_37 (by decide) ?_
              exact xp_iret (z := 1) hx hb hr (mz_bool (by omega)).1 hlocks rfl hS.2.2 dX5_isMark_41 (by unfold pt_mk; omega)
set_option maxHeartbeats 4000000 in
set_option maxRecDepth 100000 in
theorem y_firstFault2 (l : Launch) (dC : Nat → ClassId) (dI : Nat → Nat → Nat) (cI cB cE : ClassId) (o r n : Nat → Nat) (z : Nat → Int) (F : Nat → Int → Int) (G : Nat → Option Nat) (N : Nat) (Eo Er En : Nat → Nat → Nat) (Ez : Nat → Nat → Int) (EF : Nat → Nat → Int → Int) (sz : Nat) (hok : xOk n z F) (hxG : xG N (z 12) G Eo) (hPE : eA N En Ez EF) : Met l yX5_firstFault [.code yX5_firstFault cX5_firstFault 4 (some .int)] ({ frames := 1, cells := 0, slots := 0, locals := 21 }) (va_Pc [.ref (o 15)] (pPre dC dI (xU cI cB cE o r n z F G (Eo 0 0) ++ eP cI N Eo Er En Ez EF) (xT cI cB cE) sz)) (pQ (fun z => some (.int (iz z))) (fun (q : Int) => q = pt_ft (F 3) (z 3) (z 3).toNat 0 0 ∧ -1 ≤ q ∧ q ≤ 80)) 0 0 (fun _ => False) := by
  refine Met.ofW (cc := cX5_firstFault) (maxL := 4) (ret := (some .int)) (by decide) rfl ?_
  intro p e s m args below meth c s₁ B hml hv
  obtain ⟨rfl, hsz, hP, hK, hG⟩ := hv
  have hx := B.exec
  have hb := B.bytes
  have hr := B.returns
  have hts := kx_hts (a := ([.ref (o 15)] : List Value).toArray) hG
  have hown : s.vm.findClass RX5 = some m.cls := findClass_of_methodNamed B.named
  have hlocks := B.notSynchronized
  subst hsz
  have hS : va_S (fun _ => False) s.heap s.heap [] := va_S.rf
  have hl := lv_entry ([.ref (o 15)]) (n := 4) (Nat.le_of_ble_eq_true rfl)
  rw [lg_entry_eq]
  generalize (lg_sl ([.ref (o 15)]) ++ List.replicate (4 - (lg_sl ([.ref (o 15)])).length) Slot.unset).toArray = ls at hl ⊢
  obtain ⟨hN1, hN2, hN3, hN4⟩ := hxG
  have hl : lv_has ls 4 [(0, .ref (o 15))] := hl
  generalize hQe : MQ below (pQ (fun z => some (.int (iz z))) (fun (q : Int) => q = pt_ft (F 3) (z 3) (z 3).toNat 0 0 ∧ -1 ≤ q ∧ q ≤ 80)) ([.ref (o 15)] : List Value).toArray s 0 0 (fun _ => False) = QQ
  have hz3 : 0 ≤ z 3 ∧ z 3 ≤ (n 3 : Int) ∧ (n 3 : Int) ≤ 80 := hok.1 3 (by decide)
  refine lv_iconst (v := iz 0) hx hb dX5_firstFault_0 (by decide) ?_
  refine lv_istore_n (lv' := [(1, .int (iz 0)), (0, .ref (o 15))]) hx hb dX5_firstFault_1 rfl hl (by decide) rfl (fun ls hl => ?_)
  refine lv_iconst (v := iz 0) hx hb dX5_firstFault_2 (by decide) ?_
  refine lv_istore_n (lv' := [(2, .int (iz 0)), (1, .int (iz 0)), (0, .ref (o 15))]) hx hb dX5_firstFault_3 rfl hl (by decide) rfl (fun ls hl => ?_)
  have lp4 : ∀ (n0 : Nat) (b : Int) (k : Int), ((0 ≤ b ∧ b ≤ 3) ∧ (0 ≤ k ∧ k ≤ z 3) ∧ (pt_ft (F 3) (z 3) (z 3).toNat 0 0 = pt_ft (F 3) (z 3) (z 3 - k).toNat k b)) → (z 3 - k).toNat < n0 → ∀ (locs : List Loc), va_S (fun _ => False) s.heap s.heap locs → ∀ ls : Array Slot, lv_has ls 4 [(2, .int (iz k)), (1, .int (iz b)), (0, .ref (o 15))] → W p l e (headSpec [.code yX5_firstFault cX5_firstFault 4 (some .int)] ({ frames := 1, cells := 0, slots := 0, locals := 21 })).room s m ([.ref (o 15)] : List Value).toArray below meth c s.heap locs 0 0 QQ (F0 m 4 ls []) := by
    intro n0
    induction n0 with
    | zero => intro b k hinv hm0; exact absurd hm0 (Nat.not_lt_zero _)
    | succ n0 ih4 =>
      intro b k hinv hm0 locs hS ls hl
      obtain ⟨hb9, hk, hft⟩ := hinv
      refine lv_iload_n hx hb dX5_firstFault_4 rfl (lv_at hl 0 rfl) ?_
      refine lv_aload_n hx hb dX5_firstFault_5 rfl (lv_at hl 2 rfl) ?_
      refine va_get (D := (dC, dI)) (ci := 5) (v := .ref (o 3)) (C := RX5) (T := TX5) (N := 16) hx hb hts kt_X5 hown hK hP 0 rfl rfl 13 (by decide) (kx_word hG kq_19_xouts_56 rfl) (fun _ h9 => h9) rfl dX5_firstFault_6 ?_
      have hxi_1 : 0 ≤ z 3 ∧ z 3 ≤ ((n 3 : Nat) : Int) ∧ ((n 3 : Nat) : Int) ≤ 80 := hok.1 3 (by decide)
      have hPc := hP.sub (ws' := (iU cI 80 (o 3) (r 3) (n 3) (z 3) (F 3))) [8, 9] rfl
      refine xk_pure (va_runV (As := []) (rest := [.int (iz k)]) ⟨hx, hb, hml, hown, hts⟩ (x_size l dC dI cI cB cE 80 (o 3) (r 3) (n 3) (z 3) (F 3)  s.heap.size ) (cwV 0 hts (kx_gV kq_18_xrows_40 kq_15_xspan_10 kq_15_xspan_11 kq_13_xints_6 kq_15_xspan_12 rfl) rfl rfl rfl (by decide +kernel) ⟨Nat.le_of_ble_eq_true rfl, Nat.le_of_ble_eq_true rfl⟩) ⟨pPre_blind, va_recv hK hPc (ci := 1) (q0 := 0) rfl rfl, pPre_give hPc hK hG⟩ rfl rfl hl.1 rfl (lv_room (Nat.le_of_ble_eq_true rfl)) dX5_firstFault_9 ⟨Nat.le_of_ble_eq_true rfl, Nat.le_of_ble_eq_true rfl⟩) hS (fun z_3 locs hq_2 hS => ?_)
      refine W.eq (g2 := F0 m 12 ls [.int (iz z_3), .int (iz k)]) rfl ?_
      try dsimp only at hq_2
      have hq_2 := hq_2.symm
      subst hq_2
      refine ki_icmp_ge (tgt := 76) hx hb dX5_firstFault_12 (by decide) (by omega) (by omega) (by omega) (by omega) (fun c_4 => ?_) (fun c_4 => ?_)
      · skip
        refine lv_iload_n hx hb dX5_firstFault_76 rfl (lv_at hl 1 rfl) ?_
        refine lv_iconst (v := iz 3) hx hb dX5_firstFault_77 (by decide) ?_
        refine ki_icmp_ge (tgt := 91) hx hb dX5_firstFault_78 (by decide) (by omega) (by omega) (by omega) (by omega) (fun c_5 => ?_) (fun c_5 => ?_)
        · skip
          refine lv_iconst (v := iz (-1)) hx hb dX5_firstFault_91 (by decide) ?_
          rw [← hQe]
          exact xp_iret (z := (-1)) hx hb hr rfl hlocks rfl hS.2.2 dX5_firstFault_92 (⟨(by rw [hft, pt_ft_end (by omega)]; first | (rw [if_pos (by omega)]) | (rw [if_neg (by omega)])), by omega, by omega⟩)
        · skip
          refine lv_aload_n hx hb dX5_firstFault_81 rfl (lv_at hl 2 rfl) ?_
          refine va_get (D := (dC, dI)) (ci := 5) (v := .ref (o 3)) (C := RX5) (T := TX5) (N := 16) hx hb hts kt_X5 hown hK hP 0 rfl rfl 13 (by decide) (kx_word hG kq_19_xouts_56 rfl) (fun _ h9 => h9) rfl dX5_firstFault_82 ?_
          have hPc := hP.sub (ws' := (iU cI 80 (o 3) (r 3) (n 3) (z 3) (F 3))) [8, 9] rfl
          refine xk_pure (va_runV (As := []) (rest := []) ⟨hx, hb, hml, hown, hts⟩ (x_size l dC dI cI cB cE 80 (o 3) (r 3) (n 3) (z 3) (F 3)  s.heap.size ) (cwV 0 hts (kx_gV kq_18_xrows_40 kq_15_xspan_10 kq_15_xspan_11 kq_13_xints_6 kq_15_xspan_12 rfl) rfl rfl rfl (by decide +kernel) ⟨Nat.le_of_ble_eq_true rfl, Nat.le_of_ble_eq_true rfl⟩) ⟨pPre_blind, va_recv hK hPc (ci := 1) (q0 := 0) rfl rfl, pPre_give hPc hK hG⟩ rfl rfl hl.1 rfl (lv_room (Nat.le_of_ble_eq_true rfl)) dX5_firstFault_85 ⟨Nat.le_of_ble_eq_true rfl, Nat.le_of_ble_eq_true rfl⟩) hS (fun z_7 locs hq_6 hS => ?_)
          refine W.eq (g2 := F0 m 88 ls [.int (iz z_7)]) rfl ?_
          try dsimp only at hq_6
          have hq_6 := hq_6.symm
          subst hq_6
          refine lv_goto (tgt := 92) hx hb dX5_firstFault_88 (by decide) ?_
          rw [← hQe]
          exact xp_iret (z := z 3) hx hb hr rfl hlocks rfl hS.2.2 dX5_firstFault_92 (⟨(by rw [hft, pt_ft_end (by omega)]; first | (rw [if_pos (by omega)]) | (rw [if_neg (by omega)])), by omega, by omega⟩)
      · skip
        refine lv_aload_n hx hb dX5_firstFault_15 rfl (lv_at hl 2 rfl) ?_
        refine va_get (D := (dC, dI)) (ci := 5) (v := .ref (o 3)) (C := RX5) (T := TX5) (N := 16) hx hb hts kt_X5 hown hK hP 0 rfl rfl 13 (by decide) (kx_word hG kq_19_xouts_56 rfl) (fun _ h9 => h9) rfl dX5_firstFault_16 ?_
        refine lv_iload_n hx hb dX5_firstFault_19 rfl (lv_at hl 0 rfl) ?_
        have hPc := hP.sub (ws' := (iU cI 80 (o 3) (r 3) (n 3) (z 3) (F 3))) [8, 9] rfl
        refine xk_pure (va_runV (As := [.int (iz k)]) (rest := []) ⟨hx, hb, hml, hown, hts⟩ (x_get l dC dI cI cB cE 80 (o 3) (r 3) (n 3) (z 3) (F 3) k s.heap.size (by omega) (hok.2.2.1 3) (by omega) (by omega)) (cwV 1 hts (kx_gV kq_18_xrows_41 kq_13_xints_4 kq_13_xints_5 kq_13_xints_6 kq_13_xints_7 rfl) rfl rfl rfl (by decide +kernel) ⟨Nat.le_of_ble_eq_true rfl, Nat.le_of_ble_eq_true rfl⟩) ⟨pPre_blind, va_recv hK hPc (ci := 1) (q0 := 0) rfl rfl, pPre_give hPc hK hG⟩ rfl rfl hl.1 rfl (lv_room (Nat.le_of_ble_eq_true rfl)) dX5_firstFault_20 ⟨Nat.le_of_ble_eq_true rfl, Nat.le_of_ble_eq_true rfl⟩) hS (fun z_9 locs hq_8 hS => ?_)
        refine W.eq (g2 := F0 m 23 ls [.int (iz z_9)]) rfl ?_
        try dsimp only at hq_8
        have eg_10 : z_9 = F 3 k := by omega
        have hb9 : -2147483648 ≤ F 3 k ∧ F 3 k < 2147483648 := by omega
        subst eg_10
        refine W.eq (g2 := F0 m 23 ls [.int (iz (F 3 k))]) rfl ?_
        replace hq_8 := fun (_ : Unit) => hq_8
        refine lv_istore_n (lv' := [(3, .int (iz (F 3 k))), (2, .int (iz k)), (1, .int (iz b)), (0, .ref (o 15))]) hx hb dX5_firstFault_23 rfl hl (by decide) rfl (fun ls hl => ?_)
        refine lv_iload_n hx hb dX5_firstFault_24 rfl (lv_at hl 0 rfl) ?_
        refine lv_bipush (v := iz 37) hx hb dX5_firstFault_25 (by decide) ?_
        refine ki_icmp_ne (tgt := 54) hx hb dX5_firstFault_27 (by decide) (by omega) (by omega) (by omega) (by omega) (fun c_11 => ?_) (fun c_11 => ?_)
        · skip
          refine lv_iload_n hx hb dX5_firstFault_54 rfl (lv_at hl 0 rfl) ?_
          refine lv_bipush (v := iz 124) hx hb dX5_firstFault_55 (by decide) ?_
          refine ki_icmp_ne (tgt := 70) hx hb dX5_firstFault_57 (by decide) (by omega) (by omega) (by omega) (by omega) (fun c_12 => ?_) (fun c_12 => ?_)
          · skip
            refine lv_iinc (v := iz (k + 1)) (lv' := [(2, .int (iz (k + 1))), (3, .int (iz (F 3 k))), (1, .int (iz b)), (0, .ref (o 15))]) hx hb dX5_firstFault_70 hl (k := 1) rfl (iz_add k 1) (by decide) rfl (fun ls hl => ?_)
            refine lv_goto (tgt := 4) hx hb dX5_firstFault_73 (by decide) ?_
            exact ih4 b (k + 1) ⟨by omega, by omega, (hft.trans (pt_ft_sign (by omega) (show ¬ F 3 k = 124 by omega) (show ¬ F 3 k = 37 by omega)))⟩ (by omega) _ hS ls (lv_sub hl [0, 2, 3] rfl)
          · skip
            refine lv_iinc (v := iz (b + 1)) (lv' := [(1, .int (iz (b + 1))), (3, .int (iz (F 3 k))), (2, .int (iz k)), (0, .ref (o 15))]) hx hb dX5_firstFault_60 hl (k := 2) rfl (iz_add b 1) (by decide) rfl (fun ls hl => ?_)
            refine lv_iload_n hx hb dX5_firstFault_63 rfl (lv_at hl 0 rfl) ?_
            refine lv_iconst (v := iz 3) hx hb dX5_firstFault_64 (by decide) ?_
            refine ki_icmp_le (tgt := 70) hx hb dX5_firstFault_65 (by decide) (by omega) (by omega) (by omega) (by omega) (fun c_13 => ?_) (fun c_13 => ?_)
            · skip
              refine lv_iinc (v := iz (k + 1)) (lv' := [(2, .int (iz (k + 1))), (1, .int (iz (b + 1))), (3, .int (iz (F 3 k))), (0, .ref (o 15))]) hx hb dX5_firstFault_70 hl (k := 2) rfl (iz_add k 1) (by decide) rfl (fun ls hl => ?_)
              refine lv_goto (tgt := 4) hx hb dX5_firstFault_73 (by decide) ?_
              exact ih4 (b + 1) (k + 1) ⟨by omega, by omega, (hft.trans (pt_ft_bar (by omega) (show F 3 k = 124 by omega) (by omega)))⟩ (by omega) _ hS ls (lv_sub hl [0, 1, 3] rfl)
            · skip
              refine lv_iload_n hx hb dX5_firstFault_68 rfl (lv_at hl 2 rfl) ?_
              rw [← hQe]
              exact xp_iret (z := k) hx hb hr rfl hlocks rfl hS.2.2 dX5_firstFault_69 (⟨(by rw [hft]; exact (pt_ft_many (by omega) (show F 3 k = 124 by omega) (by omega)).symm), by omega, by omega⟩)
        · skip
          refine lv_aload_n hx hb dX5_firstFault_30 rfl (lv_at hl 3 rfl) ?_
          refine va_get (D := (dC, dI)) (ci := 5) (v := .ref (o 3)) (C := RX5) (T := TX5) (N := 16) hx hb hts kt_X5 hown hK hP 0 rfl rfl 13 (by decide) (kx_word hG kq_19_xouts_56 rfl) (fun _ h9 => h9) rfl dX5_firstFault_31 ?_
          refine lv_iload_n hx hb dX5_firstFault_34 rfl (lv_at hl 1 rfl) ?_
          refine lv_iconst (v := iz 1) hx hb dX5_firstFault_35 (by decide) ?_
          refine ki_iadd hx hb dX5_firstFault_36 ?_
          have hPc := hP.sub (ws' := (iU cI 80 (o 3) (r 3) (n 3) (z 3) (F 3))) [8, 9] rfl
          refine xk_pure (va_runV (As := [.int (iz (k + 1))]) (rest := []) ⟨hx, hb, hml, hown, hts⟩ (x_get l dC dI cI cB cE 80 (o 3) (r 3) (n 3) (z 3) (F 3) (k + 1) s.heap.size (by omega) (hok.2.2.1 3) (by omega) (by omega)) (cwV 1 hts (kx_gV kq_18_xrows_41 kq_13_xints_4 kq_13_xints_5 kq_13_xints_6 kq_13_xints_7 rfl) rfl rfl rfl (by decide +kernel) ⟨Nat.le_of_ble_eq_true rfl, Nat.le_of_ble_eq_true rfl⟩) ⟨pPre_blind, va_recv hK hPc (ci := 1) (q0 := 0) rfl rfl, pPre_give hPc hK hG⟩ rfl rfl hl.1 rfl (lv_room (Nat.le_of_ble_eq_true rfl)) dX5_firstFault_37 ⟨Nat.le_of_ble_eq_true rfl, Nat.le_of_ble_eq_true rfl⟩) hS (fun z_15 locs hq_14 hS => ?_)
          refine W.eq (g2 := F0 m 40 ls [.int (iz z_15)]) rfl ?_
          try dsimp only at hq_14
          have hgz : (k + 1 < z 3 ∧ z_15 = F 3 (k + 1)) ∨ (z 3 ≤ k + 1 ∧ z_15 = 0) := by omega
          have hb8 : -2147483648 ≤ z_15 ∧ z_15 < 2147483648 := by omega
          replace hq_14 := fun (_ : Unit) => hq_14
          have hPc : va_P (dC, dI) kxCl [] s.heap := fun k q h => by simp at h
          refine xk_pure (va_runS (As := [.int (iz z_15)]) (rest := []) ⟨hx, hb, hml, hown, hts⟩ (x_isMark2 l dC dI cI cB cE z_15 s.heap.size (by omega) (by omega)) (va_cwS 1 hts (kx_gS kq_19_xouts_57 kq_19_xouts_58 kq_18_xrows_4 kq_19_xouts_59 rfl) rfl rfl rfl (by decide +kernel) ⟨Nat.le_of_ble_eq_true rfl, Nat.le_of_ble_eq_true rfl⟩) ⟨pPre_blind, pPre_give hPc hK hG⟩ rfl rfl hl.1 rfl (lv_room (Nat.le_of_ble_eq_true rfl)) dX5_firstFault_40 ⟨Nat.le_of_ble_eq_true rfl, Nat.le_of_ble_eq_true rfl⟩) hS (fun z_18 locs hq_17 hS => ?_)
          refine W.eq (g2 := F0 m 43 ls [.int (iz z_18)]) rfl ?_
          try dsimp only at hq_17
          replace hgz := fun (_ : Unit) => hgz
          rcases hq_17 with ⟨rfl, hq_17⟩ | ⟨rfl, hq_17⟩
          · skip
            refine ki_if_ne (tgt := 48) hx hb dX5_firstFault_43 (by decide) (by omega) (by omega) (fun c_19 => ?_) (fun c_19 => ?_)
            · skip
              refine lv_iinc (v := iz (k + 1)) (lv' := [(2, .int (iz (k + 1))), (3, .int (iz (F 3 k))), (1, .int (iz b)), (0, .ref (o 15))]) hx hb dX5_firstFault_48 hl (k := 1) rfl (iz_add k 1) (by decide) rfl (fun ls hl => ?_)
              refine lv_goto (tgt := 70) hx hb dX5_firstFault_51 (by decide) ?_
              refine lv_iinc (v := iz ((k + 1) + 1)) (lv' := [(2, .int (iz ((k + 1) + 1))), (3, .int (iz (F 3 k))), (1, .int (iz b)), (0, .ref (o 15))]) hx hb dX5_firstFault_70 hl (k := 0) rfl (iz_add (k + 1) 1) (by decide) rfl (fun ls hl => ?_)
              refine lv_goto (tgt := 4) hx hb dX5_firstFault_73 (by decide) ?_
              exact ih4 b ((k + 1) + 1) ⟨by omega, (show 0 ≤ k + 1 + 1 ∧ k + 1 + 1 ≤ z 3 from (by rcases hgz () with ⟨a, b9⟩ | ⟨a, b9⟩; omega; (exfalso; rw [b9] at hq_17; revert hq_17; unfold pt_mk; omega))), (by rw [hft, show k + 1 + 1 = k + 2 by omega]; rcases hgz () with ⟨a, b9⟩ | ⟨a, b9⟩; exact pt_ft_mark (by omega) (show F 3 k = 37 by omega) (by omega) (by rw [← b9]; exact hq_17); (exfalso; rw [b9] at hq_17; revert hq_17; unfold pt_mk; omega))⟩ (by omega) _ hS ls (lv_sub hl [0, 2, 3] rfl)
            · omega
          · skip
            refine ki_if_ne (tgt := 48) hx hb dX5_firstFault_43 (by decide) (by omega) (by omega) (fun c_20 => ?_) (fun c_20 => ?_)
            · omega
            · skip
              refine lv_iload_n hx hb dX5_firstFault_46 rfl (lv_at hl 1 rfl) ?_
              rw [← hQe]
              exact xp_iret (z := k) hx hb hr rfl hlocks rfl hS.2.2 dX5_firstFault_47 (⟨(by rw [hft]; exact (pt_ft_bad (by omega) (show F 3 k = 37 by omega) (fun h9 => by rcases hgz () with ⟨a, b9⟩ | ⟨a, b9⟩; exact hq_17 (by rw [b9]; exact h9.2); omega)).symm), by omega, by omega⟩)
  exact lp4 _ 0 0 ⟨by omega, by omega, (by rw [Int.sub_zero])⟩ (Nat.lt_succ_self _) _ hS ls (lv_sub hl [0, 1, 2] rfl)
