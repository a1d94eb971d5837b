/-! the landed object: row, exact -/

set_option maxHeartbeats 4000000 in
set_option maxRecDepth 100000 in
theorem y_row6 (l : Launch) (hlf : l.stackTraces = false) (dC : Nat → ClassId) (dI : Nat → Nat → Nat) (cI cB cE : ClassId) (o r n : Nat → Nat) (z : Nat → Int) (F : Nat → Int → Int) (G : Nat → Option Nat) (N : Nat) (Eo Er En : Nat → Nat → Nat) (Ez : Nat → Nat → Int) (EF : Nat → Nat → Int → Int) (p0 : Int) (p1 : Int) (lv : Int → Int) (ab : Int → Int) (Wd : Int → Int → Prop) (cm : Int → Int → Int) (sz : Nat) (hok : xOk n z F) (hxG : xG N (z 12) G Eo) (hPE : eA N En Ez EF) (hp01 : -2147483648 ≤ p0) (hp02 : p0 < 2147483648) (hp11 : -2147483648 ≤ p1) (hp12 : p1 < 2147483648) (hRH : rs_H (z 12) Ez EF lv ab Wd cm) (h79 : z 12 ≤ 78) (hkn : rs_RK z F Ez lv ab Wd cm) (lH : lo_H (z 12) Ez EF) (hck : lo_K z F Ez EF) (sH : sn_H (z 12) Ez EF) : vx_Met l yX5_row [.code yX5_row cX5_row 4 (some .int)] ({ frames := 7, cells := 1200, slots := 600000, locals := 196 }) (va_Pc [.ref (o 15), .int (iz p0), .int (iz p1)] (kx_Pre dC dI (xU cI cB cE o r n z F G (Eo 0 0) ++ eP cI N Eo Er En Ez EF) (xT cI cB cE) sz)) (xQ (fun u : (Int) × (Nat → Nat) × (Nat → Nat) × (Nat → Int) × (Nat → Int → Int) × (Nat → Nat → Nat) × (Nat → Nat → Nat) × (Nat → Nat → Int) × (Nat → Nat → Int → Int) => match u with | (q, r', n', z', F', Er', En', Ez', EF') => some (.int (iz q))) (fun (u : (Int) × (Nat → Nat) × (Nat → Nat) × (Nat → Int) × (Nat → Int → Int) × (Nat → Nat → Nat) × (Nat → Nat → Nat) × (Nat → Nat → Int) × (Nat → Nat → Int → Int)) (dn dm : Nat) => match u with | (q, r', n', z', F', Er', En', Ez', EF') => xR [0, 1, 2, 4, 5, 6, 7, 8, 9, 15, 16] [0, 1, 2, 4, 5, 6, 7, 8, 9] [10] [] N z F En Ez EF n' z' F' En' Ez' EF' ∧ (dn + xg n' ≤ xg n + 0 ∧ dm + xp n' ≤ xp n + 0) ∧ (rs_RK z' F' Ez' lv ab Wd cm ∧ lo_K z' F' Ez' EF' ∧ z' 15 = 1 ∧ ((0 ≤ p0 ∧ p0 < z' 1) ∧ 0 ≤ p1 ∧ p1 ≤ 4) ∧ (p1 = 0 → q = (F' 1 p0)) ∧ (p1 = 1 → q = Ez' (((F' 1 p0) + 1).toNat) 7) ∧ (p1 = 2 → z' 16 = (F' 1 p0) ∧ q = z' 7) ∧ (p1 = 3 → q = (((sn_r (rs_sE Ez') (sn_c Ez') (sn_f EF') (F' 1 p0) (z' 12).toNat).length : Nat) : Int)) ∧ (p1 = 4 → q = sn_g (kf_ls (EF' ((rs_w lv ab (rs_sE Ez') (F' 1 p0) 0 + 1).toNat) 2) 0 (Ez' ((rs_w lv ab (rs_sE Ez') (F' 1 p0) 0 + 1).toNat) 2).toNat)))) (fun u t => kx_At dC dI (va_A (xU cI cB cE o r n z F G (Eo 0 0) ++ eP cI N Eo Er En Ez EF) sz) ((fun u : (Int) × (Nat → Nat) × (Nat → Nat) × (Nat → Int) × (Nat → Int → Int) × (Nat → Nat → Nat) × (Nat → Nat → Nat) × (Nat → Nat → Int) × (Nat → Nat → Int → Int) => match u with | (q, r', n', z', F', Er', En', Ez', EF') => (xU cI cB cE o r' n' z' F' G (Eo 0 0) ++ eP cI N Eo Er' En' Ez' EF')) u) (xT cI cB cE) t) (va_A (xU cI cB cE o r n z F G (Eo 0 0) ++ eP cI N Eo Er En Ez EF) sz)) (yX (fun E => (E = "java/lang/IndexOutOfBoundsException" ∧ (True))) 95 41800 (fun t => ∃ u : (Nat → Nat) × (Nat → Nat) × (Nat → Int) × (Nat → Int → Int) × (Nat → Nat → Nat) × (Nat → Nat → Nat) × (Nat → Nat → Int) × (Nat → Nat → Int → Int), match u with | (r', n', z', F', Er', En', Ez', EF') => xR [0, 1, 2, 4, 5, 6, 7, 8, 9, 15, 16] [0, 1, 2, 4, 5, 6, 7, 8, 9] [10] [] N z F En Ez EF n' z' F' En' Ez' EF' ∧ (rs_RK z' F' Ez' lv ab Wd cm ∧ lo_K z' F' Ez' EF' ∧ z' 15 = 1 ∧ ¬ ((0 ≤ p0 ∧ p0 < z' 1) ∧ 0 ≤ p1 ∧ p1 ≤ 4)) ∧ kx_At dC dI (va_A (xU cI cB cE o r n z F G (Eo 0 0) ++ eP cI N Eo Er En Ez EF) sz) (xU cI cB cE o r' n' z' F' G (Eo 0 0) ++ eP cI N Eo Er' En' Ez' EF') (xT cI cB cE) t) (va_A (xU cI cB cE o r n z F G (Eo 0 0) ++ eP cI N Eo Er En Ez EF) sz)) 1200 600000 (va_A (xU cI cB cE o r n z F G (Eo 0 0) ++ eP cI N Eo Er En Ez EF) sz) := by
  refine vx_ofW (cc := cX5_row) (maxL := 4) (ret := (some .int)) (by decide) rfl ?_
  intro p e s m args below meth c s₁ B hml htab hv
  obtain ⟨rfl, hsz, hP, hK, hD0, hG, hZ⟩ := hv
  have hx := B.exec
  have hb := B.bytes
  have hr := B.returns
  have hts := kx_hts (a := ([.ref (o 15), .int (iz p0), .int (iz p1)] : List Value).toArray) hG
  have hown : s.vm.findClass RX5 = some m.cls := findClass_of_methodNamed B.named
  have hlocks := B.notSynchronized
  subst hsz
  have hD := hD0.self (sz := s.heap.size)
  generalize hAe : va_A (xU cI cB cE o r n z F G (Eo 0 0) ++ eP cI N Eo Er En Ez EF) s.heap.size = A at hD hZ ⊢
  have hA : ∀ q : Nat, s.heap.size ≤ q → A q := fun q h => by rw [← hAe]; exact Or.inr h
  have hS : va_S A s.heap s.heap [] := va_S.rf
  have hl := lv_entry ([.ref (o 15), .int (iz p0), .int (iz p1)]) (n := 4) (Nat.le_of_ble_eq_true rfl)
  rw [lg_entry_eq]
  generalize (lg_sl ([.ref (o 15), .int (iz p0), .int (iz p1)]) ++ List.replicate (4 - (lg_sl ([.ref (o 15), .int (iz p0), .int (iz p1)])).length) Slot.unset).toArray = ls at hl ⊢
  obtain ⟨hN1, hN2, hN3, hN4⟩ := hxG
  have hef : eFr [10] [] En Ez EF En Ez EF := eFr.rf
  have hfr : xFr [0, 1, 2, 4, 5, 6, 7, 8, 9, 15, 16] [0, 1, 2, 4, 5, 6, 7, 8, 9] z F z F := xFr.rf
  have hxgl := xg_le n
  have hxpl := xp_le n
  have hl : lv_has ls 4 [(0, .ref (o 15)), (1, .int (iz p0)), (2, .int (iz p1))] := hl
  refine lv_aload_n hx hb dX5_row_0 rfl (lv_at hl 0 rfl) ?_
  have hxz_1 : -2147483648 ≤ z 12 ∧ z 12 < 2147483648 := hok.2.2.2.1 12
  have hxG9 : xG N (z 12) G Eo := ⟨by omega, by omega, by omega, fun e9 h9 => hN4 e9 (by omega)⟩
  have hP : va_P (dC, dI) kxCl (xU cI cB cE o r n z F G (Eo 0 0) ++ eP cI N Eo Er En Ez EF) s.heap := hP
  have hD : va_D A (xU cI cB cE o r n z F G (Eo 0 0) ++ eP cI N Eo Er En Ez EF) := hD
  have hFc := xw_free hD hS hA
  refine xk_call (va_runV (As := []) (rest := []) ⟨hx, hb, hml, hown, hts⟩ (y_findRows2 l dC dI cI cB cE o r n z F G N Eo Er En Ez EF lv ab Wd cm s.heap.size hok hxG9 hPE (by first | exact hRH | exact hRH.fr hef (by decide) (by decide)) (show z 12 ≤ 78 by omega) hkn) (cwV 0 hts (kx_gV kq_21_xcalls_25 kq_21_xcalls_26 kq_21_xcalls_27 kq_18_xrows_4 kq_21_xcalls_28 rfl) rfl rfl rfl (by decide +kernel) ⟨Nat.le_of_ble_eq_true rfl, Nat.le_of_ble_eq_true rfl⟩) ⟨kx_blind, va_recv hK hP (ci := 5) (q0 := 0) rfl rfl, kx_give (ws := []) (tys := []) hP hD hK hG hZ hS hFc⟩ rfl rfl hl.1 rfl (lv_room (Nat.le_of_ble_eq_true rfl)) dX5_row_1 ⟨show 0 + 600 ≤ 1200 from (by omega), show 0 + 300000 ≤ 600000 from (by omega)⟩) hS (fun q _ h => hFc q h) hFc (fun u dn_4 dm_5 t H locs ht hvm hq_2 hB hk1 hS => ?_)
  obtain ⟨r_6, n_7, z_8, F_9, Er_10, En_11, Ez_12, EF_13⟩ := u
  obtain ⟨hP, hK1, hD1⟩ := hB
  rw [ht] at hP
  have hD := hD1.weaken (fun _ q _ h => hFc _ h)
  obtain ⟨hR14, hC14, hq_2⟩ := hq_2
  have hok14 := hR14.1
  have hfr14 := hfr.tr (hR14.2.1.mono (S' := [0, 1, 2, 4, 5, 6, 7, 8, 9, 15, 16]) (T' := [0, 1, 2, 4, 5, 6, 7, 8, 9]) (by decide) (by decide))
  have hPE14 := hR14.2.2.1
  have hef14 := hef.tr (hR14.2.2.2.mono (S' := [10]) (T' := []) (by decide) (by decide))
  have hz14 : z_8 12 = (z 12) := hR14.2.1.1 12 (by decide)
  refine W.eq (g2 := F0 m 4 ls []) rfl ?_
  try dsimp only at hq_2
  obtain ⟨hk1515, hrr15⟩ := hq_2
  have hrk15 : rs_RK z_8 F_9 Ez_12 lv ab Wd cm := fun _ => hrr15
  have hck15 : lo_K z_8 F_9 Ez_12 EF_13 := lo_K.find hck hkn hRH.1.1 hRH.1.2.1 hrr15 hk1515 (hR14.2.1.1 16 (by decide)) (hR14.2.1.1 12 (by decide)) (hR14.2.1.1 7 (by decide)) (hR14.2.1.1 8 (by decide)) (hR14.2.1.1 9 (by decide)) (hR14.2.1.2 7 (by decide)) (hR14.2.1.2 8 (by decide)) (fun j => hR14.2.2.2.1 j 4 (by decide)) (fun j => ⟨(hR14.2.2.2.2 j 4 (by decide)).2, (hR14.2.2.2.2 j 5 (by decide)).2, (hR14.2.2.2.2 j 6 (by decide)).2⟩)
  have lH15 : lo_H (z 12) Ez_12 EF_13 := lo_H.fr lH hef14 (by decide) (by decide)
  have hz1215 : z_8 12 = z 12 := by omega
  refine lv_iload_n hx hb dX5_row_4 rfl (lv_at hl 1 rfl) ?_
  refine ki_if_lt (tgt := 19) hx hb dX5_row_5 (by decide) (by omega) (by omega) (fun c_16 => ?_) (fun c_16 => ?_)
  · skip
    exact ky_thr_IOB hx hb hlf hown hG hZ hS (hl.1.trans hml.symm) dX5_row_19 dX5_row_22 dX5_row_23 dX5_row_26 htab (Nat.le_of_ble_eq_true rfl) (Nat.le_of_ble_eq_true rfl) (show (0 + dn_4) + 1 ≤ 1200 from (by omega)) (show (0 + dm_5) + 6 ≤ 600000 from (by omega)) hlocks (⟨rfl, by first | trivial | omega⟩) (fun t hvm h1 h2 => ⟨(r_6, n_7, z_8, F_9, Er_10, En_11, Ez_12, EF_13), ⟨hok14, hfr14, hPE14, hef14⟩, ⟨hrk15, hck15, by omega, by omega⟩, hP.kept (fun k q hk => h2 q.1 (hP k q hk).lt), va_K.moved hvm hK, hD⟩) hS.2.2 (by omega) (by omega) (by omega) (by omega)
  · skip
    refine lv_iload_n hx hb dX5_row_8 rfl (lv_at hl 1 rfl) ?_
    refine lv_aload_n hx hb dX5_row_9 rfl (lv_at hl 0 rfl) ?_
    refine va_get (D := (dC, dI)) (ci := 5) (v := .ref (o 1)) (C := RX5) (T := TX5) (N := 16) hx hb hts kt_X5 hown hK hP 0 rfl rfl 6 (by decide) (kx_word hG kq_18_xrows_47 rfl) (fun _ h9 => h9) rfl dX5_row_10 ?_
    have hxi_17 : 0 ≤ z_8 1 ∧ z_8 1 ≤ ((n_7 1 : Nat) : Int) ∧ ((n_7 1 : Nat) : Int) ≤ 80 := hok14.1 1 (by decide)
    have hPc := hP.sub (ws' := (iU cI 80 (o 1) (r_6 1) (n_7 1) (z_8 1) (F_9 1))) [4, 5] rfl
    refine xk_pure (va_runV (As := []) (rest := [.int (iz p0)]) ⟨hx, hb, hml, hown, hts⟩ (x_size l dC dI cI cB cE 80 (o 1) (r_6 1) (n_7 1) (z_8 1) (F_9 1)  H.size ) (cwV 0 hts (kx_gV kq_18_xrows_40 kq_15_xspan_10 kq_15_xspan_11 kq_13_xints_6 kq_15_xspan_12 rfl) rfl rfl rfl (by decide +kernel) ⟨Nat.le_of_ble_eq_true rfl, Nat.le_of_ble_eq_true rfl⟩) ⟨pPre_blind, va_recv hK hPc (ci := 1) (q0 := 0) rfl rfl, pPre_give hPc hK hG⟩ rfl rfl hl.1 rfl (lv_room (Nat.le_of_ble_eq_true rfl)) dX5_row_13 ⟨show (0 + dn_4) + 0 ≤ 1200 from (by omega), show (0 + dm_5) + 0 ≤ 600000 from (by omega)⟩) hS (fun z_19 locs hq_18 hS => ?_)
    refine W.eq (g2 := F0 m 16 ls [.int (iz z_19), .int (iz p0)]) rfl ?_
    try dsimp only at hq_18
    have hq_18 := hq_18.symm
    subst hq_18
    refine ki_icmp_lt (tgt := 27) hx hb dX5_row_16 (by decide) (by omega) (by omega) (by omega) (by omega) (fun c_20 => ?_) (fun c_20 => ?_)
    · skip
      refine lv_aload_n hx hb dX5_row_27 rfl (lv_at hl 0 rfl) ?_
      refine va_get (D := (dC, dI)) (ci := 5) (v := .ref (o 1)) (C := RX5) (T := TX5) (N := 16) hx hb hts kt_X5 hown hK hP 0 rfl rfl 6 (by decide) (kx_word hG kq_18_xrows_47 rfl) (fun _ h9 => h9) rfl dX5_row_28 ?_
      refine lv_iload_n hx hb dX5_row_31 rfl (lv_at hl 1 rfl) ?_
      have hPc := hP.sub (ws' := (iU cI 80 (o 1) (r_6 1) (n_7 1) (z_8 1) (F_9 1))) [4, 5] rfl
      refine xk_pure (va_runV (As := [.int (iz p0)]) (rest := []) ⟨hx, hb, hml, hown, hts⟩ (x_get l dC dI cI cB cE 80 (o 1) (r_6 1) (n_7 1) (z_8 1) (F_9 1) p0 H.size (by omega) (hok14.2.2.1 1) (by omega) (by omega)) (cwV 1 hts (kx_gV kq_18_xrows_41 kq_13_xints_4 kq_13_xints_5 kq_13_xints_6 kq_13_xints_7 rfl) rfl rfl rfl (by decide +kernel) ⟨Nat.le_of_ble_eq_true rfl, Nat.le_of_ble_eq_true rfl⟩) ⟨pPre_blind, va_recv hK hPc (ci := 1) (q0 := 0) rfl rfl, pPre_give hPc hK hG⟩ rfl rfl hl.1 rfl (lv_room (Nat.le_of_ble_eq_true rfl)) dX5_row_32 ⟨show (0 + dn_4) + 0 ≤ 1200 from (by omega), show (0 + dm_5) + 0 ≤ 600000 from (by omega)⟩) hS (fun z_22 locs hq_21 hS => ?_)
      refine W.eq (g2 := F0 m 35 ls [.int (iz z_22)]) rfl ?_
      try dsimp only at hq_21
      have eg_23 : z_22 = F_9 1 p0 := by omega
      subst eg_23
      refine W.eq (g2 := F0 m 35 ls [.int (iz (F_9 1 p0))]) rfl ?_
      have hRrhme_24 := hrk15 (by omega)
      have hme_24 := (hRrhme_24.2.2 (F_9 1 p0)).mp ⟨p0, by omega, by omega, rfl⟩
      refine lv_istore_n (lv' := [(3, .int (iz (F_9 1 p0))), (0, .ref (o 15)), (1, .int (iz p0)), (2, .int (iz p1))]) hx hb dX5_row_35 rfl hl (by decide) rfl (fun ls hl => ?_)
      refine lv_iload_n hx hb dX5_row_36 rfl (lv_at hl 3 rfl) ?_
      by_cases hsw_25 : p1 = 0
      · skip
        refine ki_is (show iz (p1) = iz 0 by rw [hsw_25]) ?_
        refine lv_tableIn (off := 35) (tgt := 72) hx hb dX5_row_37 (by decide) (by decide) (by decide) (by decide) ?_
        refine lv_iload_n hx hb dX5_row_72 rfl (lv_at hl 0 rfl) ?_
        refine vx_ret ?_
        exact xk_iret (ov := (fun u : (Int) × (Nat → Nat) × (Nat → Nat) × (Nat → Int) × (Nat → Int → Int) × (Nat → Nat → Nat) × (Nat → Nat → Nat) × (Nat → Nat → Int) × (Nat → Nat → Int → Int) => match u with | (q, r', n', z', F', Er', En', Ez', EF') => some (.int (iz q)))) (post := (fun (u : (Int) × (Nat → Nat) × (Nat → Nat) × (Nat → Int) × (Nat → Int → Int) × (Nat → Nat → Nat) × (Nat → Nat → Nat) × (Nat → Nat → Int) × (Nat → Nat → Int → Int)) (dn dm : Nat) => match u with | (q, r', n', z', F', Er', En', Ez', EF') => xR [0, 1, 2, 4, 5, 6, 7, 8, 9, 15, 16] [0, 1, 2, 4, 5, 6, 7, 8, 9] [10] [] N z F En Ez EF n' z' F' En' Ez' EF' ∧ (dn + xg n' ≤ xg n + 0 ∧ dm + xp n' ≤ xp n + 0) ∧ (rs_RK z' F' Ez' lv ab Wd cm ∧ lo_K z' F' Ez' EF' ∧ z' 15 = 1 ∧ ((0 ≤ p0 ∧ p0 < z' 1) ∧ 0 ≤ p1 ∧ p1 ≤ 4) ∧ (p1 = 0 → q = (F' 1 p0)) ∧ (p1 = 1 → q = Ez' (((F' 1 p0) + 1).toNat) 7) ∧ (p1 = 2 → z' 16 = (F' 1 p0) ∧ q = z' 7) ∧ (p1 = 3 → q = (((sn_r (rs_sE Ez') (sn_c Ez') (sn_f EF') (F' 1 p0) (z' 12).toNat).length : Nat) : Int)) ∧ (p1 = 4 → q = sn_g (kf_ls (EF' ((rs_w lv ab (rs_sE Ez') (F' 1 p0) 0 + 1).toNat) 2) 0 (Ez' ((rs_w lv ab (rs_sE Ez') (F' 1 p0) 0 + 1).toNat) 2).toNat))))) (ws := (fun u : (Int) × (Nat → Nat) × (Nat → Nat) × (Nat → Int) × (Nat → Int → Int) × (Nat → Nat → Nat) × (Nat → Nat → Nat) × (Nat → Nat → Int) × (Nat → Nat → Int → Int) => match u with | (q, r', n', z', F', Er', En', Ez', EF') => (xU cI cB cE o r' n' z' F' G (Eo 0 0) ++ eP cI N Eo Er' En' Ez' EF'))) (tys := xT cI cB cE) (z := F_9 1 p0) (F_9 1 p0, r_6, n_7, z_8, F_9, Er_10, En_11, Ez_12, EF_13) hx hb hr rfl hlocks rfl hP hD hK hS dX5_row_73 (fun dn dm hdn hdm => ⟨⟨hok14, hfr14, hPE14, hef14⟩, ⟨by omega, by omega⟩, ⟨hrk15, hck15, by omega, by omega, fun _ => rfl, fun h9 => absurd h9 (by omega), fun h9 => absurd h9 (by omega), fun h9 => absurd h9 (by omega), fun h9 => absurd h9 (by omega)⟩⟩) (by omega) (by omega)
      by_cases hsw_26 : p1 = 1
      · skip
        refine ki_is (show iz (p1) = iz 1 by rw [hsw_26]) ?_
        refine lv_tableIn (off := 37) (tgt := 74) hx hb dX5_row_37 (by decide) (by decide) (by decide) (by decide) ?_
        refine lv_aload_n hx hb dX5_row_74 rfl (lv_at hl 1 rfl) ?_
        refine lv_iload_n hx hb dX5_row_75 rfl (lv_at hl 0 rfl) ?_
        have hxz_27 : -2147483648 ≤ z_8 12 ∧ z_8 12 < 2147483648 := hok14.2.2.2.1 12
        have hxG9 : xG N (z_8 12) G Eo := ⟨by omega, by omega, by omega, fun e9 h9 => hN4 e9 (by omega)⟩
        have hP : va_P (dC, dI) kxCl (xU cI cB cE o r_6 n_7 z_8 F_9 G (Eo 0 0) ++ eP cI N Eo Er_10 En_11 Ez_12 EF_13) H := hP
        refine xk_pure (va_runV (As := [.int (iz (F_9 1 p0))]) (rest := []) ⟨hx, hb, hml, hown, hts⟩ (y_known l dC dI cI cB cE o r_6 n_7 z_8 F_9 G N Eo Er_10 En_11 Ez_12 EF_13 (F_9 1 p0) H.size hok14 hxG9 hPE14 (by omega) (by omega)) (cwV 1 hts (kx_gV kq_18_xrows_8 kq_18_xrows_9 kq_18_xrows_10 kq_18_xrows_4 kq_18_xrows_11 rfl) rfl rfl rfl (by decide +kernel) ⟨Nat.le_of_ble_eq_true rfl, Nat.le_of_ble_eq_true rfl⟩) ⟨pPre_blind, va_recv hK hP (ci := 5) (q0 := 0) rfl rfl, pPre_give hP hK hG⟩ rfl rfl hl.1 rfl (lv_room (Nat.le_of_ble_eq_true rfl)) dX5_row_76 ⟨show (0 + dn_4) + 0 ≤ 1200 from (by omega), show (0 + dm_5) + 0 ≤ 600000 from (by omega)⟩) hS (fun z_29 locs hq_28 hS => ?_)
        refine W.eq (g2 := F0 m 79 ls [.ref z_29.toNat]) rfl ?_
        try dsimp only at hq_28
        obtain ⟨j30, hj30, ez30, hje30⟩ := hq_28
        subst ez30
        refine W.eq (g2 := F0 m 79 ls [.ref (Eo j30 0)]) rfl ?_
        have ej30 : j30 = ((F_9 1 p0) + 1).toNat := by omega
        subst ej30
        have hP := eP_foc hj30 hP
        have hD := eD_foc hj30 hD
        have hez_31 : -2147483648 ≤ Ez_12 (((F_9 1 p0) + 1).toNat) 7 ∧ Ez_12 (((F_9 1 p0) + 1).toNat) 7 < 2147483648 := (hPE14 (((F_9 1 p0) + 1).toNat) hj30).2.2 7
        refine va_getN (D := (dC, dI)) (ci := 0) (v := .int (iz (Ez_12 (((F_9 1 p0) + 1).toNat) 7))) (C := RX0) (T := TX0) (N := 12) hx hb hts kt_X0 hown hK hP 29 rfl rfl 0 (by decide) (va_Nw.use rfl (kx_nf hG kq_18_xrows_12)) (fun _ h9 => h9) rfl dX5_row_79 ?_
        have hP := eP_un0 hj30 hP
        have hD := eD_un0 hj30 hD
        refine vx_ret ?_
        exact xk_iret (ov := (fun u : (Int) × (Nat → Nat) × (Nat → Nat) × (Nat → Int) × (Nat → Int → Int) × (Nat → Nat → Nat) × (Nat → Nat → Nat) × (Nat → Nat → Int) × (Nat → Nat → Int → Int) => match u with | (q, r', n', z', F', Er', En', Ez', EF') => some (.int (iz q)))) (post := (fun (u : (Int) × (Nat → Nat) × (Nat → Nat) × (Nat → Int) × (Nat → Int → Int) × (Nat → Nat → Nat) × (Nat → Nat → Nat) × (Nat → Nat → Int) × (Nat → Nat → Int → Int)) (dn dm : Nat) => match u with | (q, r', n', z', F', Er', En', Ez', EF') => xR [0, 1, 2, 4, 5, 6, 7, 8, 9, 15, 16] [0, 1, 2, 4, 5, 6, 7, 8, 9] [10] [] N z F En Ez EF n' z' F' En' Ez' EF' ∧ (dn + xg n' ≤ xg n + 0 ∧ dm + xp n' ≤ xp n + 0) ∧ (rs_RK z' F' Ez' lv ab Wd cm ∧ lo_K z' F' Ez' EF' ∧ z' 15 = 1 ∧ ((0 ≤ p0 ∧ p0 < z' 1) ∧ 0 ≤ p1 ∧ p1 ≤ 4) ∧ (p1 = 0 → q = (F' 1 p0)) ∧ (p1 = 1 → q = Ez' (((F' 1 p0) + 1).toNat) 7) ∧ (p1 = 2 → z' 16 = (F' 1 p0) ∧ q = z' 7) ∧ (p1 = 3 → q = (((sn_r (rs_sE Ez') (sn_c Ez') (sn_f EF') (F' 1 p0) (z' 12).toNat).length : Nat) : Int)) ∧ (p1 = 4 → q = sn_g (kf_ls (EF' ((rs_w lv ab (rs_sE Ez') (F' 1 p0) 0 + 1).toNat) 2) 0 (Ez' ((rs_w lv ab (rs_sE Ez') (F' 1 p0) 0 + 1).toNat) 2).toNat))))) (ws := (fun u : (Int) × (Nat → Nat) × (Nat → Nat) × (Nat → Int) × (Nat → Int → Int) × (Nat → Nat → Nat) × (Nat → Nat → Nat) × (Nat → Nat → Int) × (Nat → Nat → Int → Int) => match u with | (q, r', n', z', F', Er', En', Ez', EF') => (xU cI cB cE o r' n' z' F' G (Eo 0 0) ++ eP cI N Eo Er' En' Ez' EF'))) (tys := xT cI cB cE) (z := Ez_12 (((F_9 1 p0) + 1).toNat) 7) (Ez_12 (((F_9 1 p0) + 1).toNat) 7, r_6, n_7, z_8, F_9, Er_10, En_11, Ez_12, EF_13) hx hb hr rfl hlocks rfl hP hD hK hS dX5_row_82 (fun dn dm hdn hdm => ⟨⟨hok14, hfr14, hPE14, hef14⟩, ⟨by omega, by omega⟩, ⟨hrk15, hck15, by omega, by omega, fun h9 => absurd h9 (by omega), fun _ => rfl, fun h9 => absurd h9 (by omega), fun h9 => absurd h9 (by omega), fun h9 => absurd h9 (by omega)⟩⟩) (by omega) (by omega)
      by_cases hsw_32 : p1 = 2
      · skip
        refine ki_is (show iz (p1) = iz 2 by rw [hsw_32]) ?_
        refine lv_tableIn (off := 46) (tgt := 83) hx hb dX5_row_37 (by decide) (by decide) (by decide) (by decide) ?_
        refine lv_aload_n hx hb dX5_row_83 rfl (lv_at hl 1 rfl) ?_
        refine lv_iload_n hx hb dX5_row_84 rfl (lv_at hl 0 rfl) ?_
        have hxz_33 : -2147483648 ≤ z_8 12 ∧ z_8 12 < 2147483648 := hok14.2.2.2.1 12
        have hxG9 : xG N (z_8 12) G Eo := ⟨by omega, by omega, by omega, fun e9 h9 => hN4 e9 (by omega)⟩
        have hP : va_P (dC, dI) kxCl (xU cI cB cE o r_6 n_7 z_8 F_9 G (Eo 0 0) ++ eP cI N Eo Er_10 En_11 Ez_12 EF_13) H := hP
        have hD : va_D A (xU cI cB cE o r_6 n_7 z_8 F_9 G (Eo 0 0) ++ eP cI N Eo Er_10 En_11 Ez_12 EF_13) := hD
        have hFc := xw_free hD hS hA
        refine xk_call (va_runV (As := [.int (iz (F_9 1 p0))]) (rest := []) ⟨hx, hb, hml, hown, hts⟩ (y_findLocators2 l dC dI cI cB cE o r_6 n_7 z_8 F_9 G N Eo Er_10 En_11 Ez_12 EF_13 (F_9 1 p0) H.size hok14 hxG9 hPE14 (by omega) (by show ∀ e, 0 ≤ e → e < z_8 12 → 0 ≤ rs_sE Ez_12 e ∧ rs_sE Ez_12 e ≤ e; exact fun e a b => (hRrhme_24.1 e a b).1) (show z_8 12 ≤ 78 by omega) (by show lo_H (z_8 12) Ez_12 EF_13; rw [show z_8 12 = z 12 by omega]; exact lo_H.fr lH hef14 (by decide) (by decide)) (hck15.imp id (fun h9 => ⟨h9.2.1, h9.2.2⟩))) (cwV 1 hts (kx_gV kq_21_xcalls_29 kq_21_xcalls_30 kq_21_xcalls_31 kq_18_xrows_4 kq_21_xcalls_32 rfl) rfl rfl rfl (by decide +kernel) ⟨Nat.le_of_ble_eq_true rfl, Nat.le_of_ble_eq_true rfl⟩) ⟨kx_blind, va_recv hK hP (ci := 5) (q0 := 0) rfl rfl, kx_give (ws := []) (tys := []) hP hD hK hG hZ hS hFc⟩ rfl rfl hl.1 rfl (lv_room (Nat.le_of_ble_eq_true rfl)) dX5_row_85 ⟨show (0 + dn_4) + 400 ≤ 1200 from (by omega), show (0 + dm_5) + 170000 ≤ 600000 from (by omega)⟩) hS (fun q _ h => hFc q h) hFc (fun u dn_36 dm_37 t H locs ht hvm hq_34 hB hk1 hS => ?_)
        obtain ⟨r_38, n_39, z_40, F_41, Er_42, En_43, Ez_44, EF_45⟩ := u
        obtain ⟨hP, hK1, hD1⟩ := hB
        rw [ht] at hP
        have hD := hD1.weaken (fun _ q _ h => hFc _ h)
        obtain ⟨hR46, hC46, hq_34⟩ := hq_34
        have hok46 := hR46.1
        have hfr46 := hfr14.tr (hR46.2.1.mono (S' := [0, 1, 2, 4, 5, 6, 7, 8, 9, 15, 16]) (T' := [0, 1, 2, 4, 5, 6, 7, 8, 9]) (by decide) (by decide))
        have hPE46 := hR46.2.2.1
        have hef46 := hef14.tr (hR46.2.2.2.mono (S' := [10]) (T' := []) (by decide) (by decide))
        have hz46 : z_40 12 = (z_8 12) := hR46.2.1.1 12 (by decide)
        have hkr46_15 : z_40 15 = z_8 15 := hR46.2.1.1 15 (by decide)
        have hkr46_1 : z_40 1 = z_8 1 := hR46.2.1.1 1 (by decide)
        refine W.eq (g2 := F0 m 88 ls []) rfl ?_
        try dsimp only at hq_34
        have hrk47 : rs_RK z_40 F_41 Ez_44 lv ab Wd cm := rs_RK.fr hrk15 (hR46.2.1.1 15 (by decide)) (hR46.2.1.1 12 (by decide)) (hR46.2.1.1 1 (by decide)) (hR46.2.1.2 1 (by decide)) (fun j => hR46.2.2.2.1 j 10 (by decide))
        obtain ⟨hl1647, hlz47, hlq47, hkp47⟩ := hq_34
        obtain ⟨rfl, rfl, rfl, rfl⟩ := hkp47
        have hck47 : lo_K z_40 F_41 Ez_12 EF_13 := Or.inr ⟨by omega, hlz47, (by rw [hl1647, show z_40 12 = z_8 12 by omega]; exact hlq47)⟩
        have hf1 : F_9 1 p0 = F_41 1 p0 := (congrFun (hR46.2.1.2 1 (by decide)) p0).symm
        refine lv_aload_n hx hb dX5_row_88 rfl (lv_at hl 1 rfl) ?_
        refine va_get (D := (dC, dI)) (ci := 5) (v := .ref (o 14)) (C := RX5) (T := TX5) (N := 16) hx hb hts kt_X5 hown hK hP 0 rfl rfl 9 (by decide) (kx_word hG kq_19_xouts_0 rfl) (fun _ h9 => h9) rfl dX5_row_89 ?_
        have hxi_48 : 0 ≤ z_40 7 ∧ z_40 7 ≤ ((n_39 7 : Nat) : Int) ∧ ((n_39 7 : Nat) : Int) ≤ 1600 := hok46.1 7 (by decide)
        have hxi_49 : 0 ≤ z_40 8 ∧ z_40 8 ≤ ((n_39 8 : Nat) : Int) ∧ ((n_39 8 : Nat) : Int) ≤ 1600 := hok46.1 8 (by decide)
        have hxi_50 : 0 ≤ z_40 9 ∧ z_40 9 ≤ ((n_39 9 : Nat) : Int) ∧ ((n_39 9 : Nat) : Int) ≤ 1600 := hok46.1 9 (by decide)
        have hPc := hP.sub (ws' := (sU cI 1600 (o 14) (o 7) (o 8) (o 9) (r_38 7) (r_38 8) (r_38 9) (n_39 7) (n_39 8) (n_39 9) (z_40 7) (z_40 8) (z_40 9) (F_41 7) (F_41 8) (F_41 9))) [17, 18, 19, 20, 21, 22, 23] rfl
        refine xk_pure (va_runV (As := []) (rest := []) ⟨hx, hb, hml, hown, hts⟩ (x_ssize l dC dI cI cB cE 1600 (o 14) (o 7) (o 8) (o 9) (r_38 7) (r_38 8) (r_38 9) (n_39 7) (n_39 8) (n_39 9) (z_40 7) (z_40 8) (z_40 9) (F_41 7) (F_41 8) (F_41 9)  H.size ) (cwV 0 hts (kx_gV kq_19_xouts_3 kq_15_xspan_51 kq_15_xspan_52 kq_15_xspan_53 kq_15_xspan_54 rfl) rfl rfl rfl (by decide +kernel) ⟨Nat.le_of_ble_eq_true rfl, Nat.le_of_ble_eq_true rfl⟩) ⟨pPre_blind, va_recv hK hPc (ci := 3) (q0 := 0) rfl rfl, pPre_give hPc hK hG⟩ rfl rfl hl.1 rfl (lv_room (Nat.le_of_ble_eq_true rfl)) dX5_row_92 ⟨show ((0 + dn_4) + dn_36) + 0 ≤ 1200 from (by omega), show ((0 + dm_5) + dm_37) + 0 ≤ 600000 from (by omega)⟩) hS (fun z_52 locs hq_51 hS => ?_)
        refine W.eq (g2 := F0 m 95 ls [.int (iz z_52)]) rfl ?_
        try dsimp only at hq_51
        have hq_51 := hq_51.symm
        subst hq_51
        refine vx_ret ?_
        exact xk_iret (ov := (fun u : (Int) × (Nat → Nat) × (Nat → Nat) × (Nat → Int) × (Nat → Int → Int) × (Nat → Nat → Nat) × (Nat → Nat → Nat) × (Nat → Nat → Int) × (Nat → Nat → Int → Int) => match u with | (q, r', n', z', F', Er', En', Ez', EF') => some (.int (iz q)))) (post := (fun (u : (Int) × (Nat → Nat) × (Nat → Nat) × (Nat → Int) × (Nat → Int → Int) × (Nat → Nat → Nat) × (Nat → Nat → Nat) × (Nat → Nat → Int) × (Nat → Nat → Int → Int)) (dn dm : Nat) => match u with | (q, r', n', z', F', Er', En', Ez', EF') => xR [0, 1, 2, 4, 5, 6, 7, 8, 9, 15, 16] [0, 1, 2, 4, 5, 6, 7, 8, 9] [10] [] N z F En Ez EF n' z' F' En' Ez' EF' ∧ (dn + xg n' ≤ xg n + 0 ∧ dm + xp n' ≤ xp n + 0) ∧ (rs_RK z' F' Ez' lv ab Wd cm ∧ lo_K z' F' Ez' EF' ∧ z' 15 = 1 ∧ ((0 ≤ p0 ∧ p0 < z' 1) ∧ 0 ≤ p1 ∧ p1 ≤ 4) ∧ (p1 = 0 → q = (F' 1 p0)) ∧ (p1 = 1 → q = Ez' (((F' 1 p0) + 1).toNat) 7) ∧ (p1 = 2 → z' 16 = (F' 1 p0) ∧ q = z' 7) ∧ (p1 = 3 → q = (((sn_r (rs_sE Ez') (sn_c Ez') (sn_f EF') (F' 1 p0) (z' 12).toNat).length : Nat) : Int)) ∧ (p1 = 4 → q = sn_g (kf_ls (EF' ((rs_w lv ab (rs_sE Ez') (F' 1 p0) 0 + 1).toNat) 2) 0 (Ez' ((rs_w lv ab (rs_sE Ez') (F' 1 p0) 0 + 1).toNat) 2).toNat))))) (ws := (fun u : (Int) × (Nat → Nat) × (Nat → Nat) × (Nat → Int) × (Nat → Int → Int) × (Nat → Nat → Nat) × (Nat → Nat → Nat) × (Nat → Nat → Int) × (Nat → Nat → Int → Int) => match u with | (q, r', n', z', F', Er', En', Ez', EF') => (xU cI cB cE o r' n' z' F' G (Eo 0 0) ++ eP cI N Eo Er' En' Ez' EF'))) (tys := xT cI cB cE) (z := z_40 7) (z_40 7, r_38, n_39, z_40, F_41, Er_10, En_11, Ez_12, EF_13) hx hb hr rfl hlocks rfl hP hD hK hS dX5_row_95 (fun dn dm hdn hdm => ⟨⟨hok46, hfr46, hPE46, hef46⟩, ⟨by omega, by omega⟩, ⟨hrk47, hck47, by omega, by omega, fun h9 => absurd h9 (by omega), fun h9 => absurd h9 (by omega), fun _ => ⟨hl1647.trans hf1, rfl⟩, fun h9 => absurd h9 (by omega), fun h9 => absurd h9 (by omega)⟩⟩) (by omega) (by omega)
      by_cases hsw_53 : p1 = 3
      · skip
        refine ki_is (show iz (p1) = iz 3 by rw [hsw_53]) ?_
        refine lv_tableIn (off := 59) (tgt := 96) hx hb dX5_row_37 (by decide) (by decide) (by decide) (by decide) ?_
        refine lv_aload_n hx hb dX5_row_96 rfl (lv_at hl 1 rfl) ?_
        refine lv_iload_n hx hb dX5_row_97 rfl (lv_at hl 0 rfl) ?_
        have hxz_54 : -2147483648 ≤ z_8 12 ∧ z_8 12 < 2147483648 := hok14.2.2.2.1 12
        have hxG9 : xG N (z_8 12) G Eo := ⟨by omega, by omega, by omega, fun e9 h9 => hN4 e9 (by omega)⟩
        have hP : va_P (dC, dI) kxCl (xU cI cB cE o r_6 n_7 z_8 F_9 G (Eo 0 0) ++ eP cI N Eo Er_10 En_11 Ez_12 EF_13) H := hP
        have hD : va_D A (xU cI cB cE o r_6 n_7 z_8 F_9 G (Eo 0 0) ++ eP cI N Eo Er_10 En_11 Ez_12 EF_13) := hD
        have hFc := xw_free hD hS hA
        refine xk_call (va_runV (As := [.int (iz (F_9 1 p0))]) (rest := []) ⟨hx, hb, hml, hown, hts⟩ (y_findSeen2 l dC dI cI cB cE o r_6 n_7 z_8 F_9 G N Eo Er_10 En_11 Ez_12 EF_13 (F_9 1 p0) H.size hok14 hxG9 hPE14 (by omega) (by omega) (by show ∀ e, 0 ≤ e → e < z_8 12 → 0 ≤ rs_sE Ez_12 e ∧ rs_sE Ez_12 e ≤ e; exact fun e a b => (hRrhme_24.1 e a b).1) (show z_8 12 ≤ 78 by omega) (by show sn_H (z_8 12) Ez_12 EF_13; rw [show z_8 12 = z 12 by omega]; exact sn_H.fr sH hef14 (by decide) (by decide))) (cwV 1 hts (kx_gV kq_21_xcalls_33 kq_21_xcalls_34 kq_21_xcalls_35 kq_18_xrows_4 kq_21_xcalls_36 rfl) rfl rfl rfl (by decide +kernel) ⟨Nat.le_of_ble_eq_true rfl, Nat.le_of_ble_eq_true rfl⟩) ⟨kx_blind, va_recv hK hP (ci := 5) (q0 := 0) rfl rfl, kx_give (ws := []) (tys := []) hP hD hK hG hZ hS hFc⟩ rfl rfl hl.1 rfl (lv_room (Nat.le_of_ble_eq_true rfl)) dX5_row_98 ⟨show (0 + dn_4) + 260 ≤ 1200 from (by omega), show (0 + dm_5) + 110000 ≤ 600000 from (by omega)⟩) hS (fun q _ h => hFc q h) hFc (fun u dn_57 dm_58 t H locs ht hvm hq_55 hB hk1 hS => ?_)
        obtain ⟨r_59, n_60, z_61, F_62, Er_63, En_64, Ez_65, EF_66⟩ := u
        obtain ⟨hP, hK1, hD1⟩ := hB
        rw [ht] at hP
        have hD := hD1.weaken (fun _ q _ h => hFc _ h)
        obtain ⟨hR67, hC67, hq_55⟩ := hq_55
        have hok67 := hR67.1
        have hfr67 := hfr14.tr (hR67.2.1.mono (S' := [0, 1, 2, 4, 5, 6, 7, 8, 9, 15, 16]) (T' := [0, 1, 2, 4, 5, 6, 7, 8, 9]) (by decide) (by decide))
        have hPE67 := hR67.2.2.1
        have hef67 := hef14.tr (hR67.2.2.2.mono (S' := [10]) (T' := []) (by decide) (by decide))
        have hz67 : z_61 12 = (z_8 12) := hR67.2.1.1 12 (by decide)
        have hkr67_15 : z_61 15 = z_8 15 := hR67.2.1.1 15 (by decide)
        have hkr67_1 : z_61 1 = z_8 1 := hR67.2.1.1 1 (by decide)
        refine W.eq (g2 := F0 m 101 ls []) rfl ?_
        try dsimp only at hq_55
        have hrk68 : rs_RK z_61 F_62 Ez_65 lv ab Wd cm := rs_RK.fr hrk15 (hR67.2.1.1 15 (by decide)) (hR67.2.1.1 12 (by decide)) (hR67.2.1.1 1 (by decide)) (hR67.2.1.2 1 (by decide)) (fun j => hR67.2.2.2.1 j 10 (by decide))
        have hck68 : lo_K z_61 F_62 Ez_65 EF_66 := lo_K.fr hck15 (hR67.2.1.1 16 (by decide)) (hR67.2.1.1 15 (by decide)) (hR67.2.1.1 12 (by decide)) (hR67.2.1.1 7 (by decide)) (hR67.2.1.1 8 (by decide)) (hR67.2.1.1 9 (by decide)) (hR67.2.1.2 7 (by decide)) (hR67.2.1.2 8 (by decide)) (fun j => hR67.2.2.2.1 j 10 (by decide)) (fun j => hR67.2.2.2.1 j 4 (by decide)) (fun j => ⟨(hR67.2.2.2.2 j 4 (by decide)).2, (hR67.2.2.2.2 j 5 (by decide)).2, (hR67.2.2.2.2 j 6 (by decide)).2⟩)
        obtain ⟨hsl, hkp⟩ := hq_55
        obtain ⟨rfl, rfl, rfl, rfl⟩ := hkp
        have hf1 : F_9 1 p0 = F_62 1 p0 := (congrFun (hR67.2.1.2 1 (by decide)) p0).symm
        have hz2 : 0 ≤ z_61 2 ∧ z_61 2 ≤ ((n_60 2 : Nat) : Int) ∧ ((n_60 2 : Nat) : Int) ≤ 80 := hok67.1 2 (by decide)
        have hsn := congrArg List.length hsl
        rw [kf_ls_len] at hsn
        refine lv_aload_n hx hb dX5_row_101 rfl (lv_at hl 1 rfl) ?_
        refine va_get (D := (dC, dI)) (ci := 5) (v := .ref (o 2)) (C := RX5) (T := TX5) (N := 16) hx hb hts kt_X5 hown hK hP 0 rfl rfl 11 (by decide) (kx_word hG kq_19_xouts_27 rfl) (fun _ h9 => h9) rfl dX5_row_102 ?_
        have hxi_69 : 0 ≤ z_61 2 ∧ z_61 2 ≤ ((n_60 2 : Nat) : Int) ∧ ((n_60 2 : Nat) : Int) ≤ 80 := hok67.1 2 (by decide)
        have hPc := hP.sub (ws' := (iU cI 80 (o 2) (r_59 2) (n_60 2) (z_61 2) (F_62 2))) [6, 7] rfl
        refine xk_pure (va_runV (As := []) (rest := []) ⟨hx, hb, hml, hown, hts⟩ (x_size l dC dI cI cB cE 80 (o 2) (r_59 2) (n_60 2) (z_61 2) (F_62 2)  H.size ) (cwV 0 hts (kx_gV kq_18_xrows_40 kq_15_xspan_10 kq_15_xspan_11 kq_13_xints_6 kq_15_xspan_12 rfl) rfl rfl rfl (by decide +kernel) ⟨Nat.le_of_ble_eq_true rfl, Nat.le_of_ble_eq_true rfl⟩) ⟨pPre_blind, va_recv hK hPc (ci := 1) (q0 := 0) rfl rfl, pPre_give hPc hK hG⟩ rfl rfl hl.1 rfl (lv_room (Nat.le_of_ble_eq_true rfl)) dX5_row_105 ⟨show ((0 + dn_4) + dn_57) + 0 ≤ 1200 from (by omega), show ((0 + dm_5) + dm_58) + 0 ≤ 600000 from (by omega)⟩) hS (fun z_71 locs hq_70 hS => ?_)
        refine W.eq (g2 := F0 m 108 ls [.int (iz z_71)]) rfl ?_
        try dsimp only at hq_70
        have hq_70 := hq_70.symm
        subst hq_70
        refine vx_ret ?_
        exact xk_iret (ov := (fun u : (Int) × (Nat → Nat) × (Nat → Nat) × (Nat → Int) × (Nat → Int → Int) × (Nat → Nat → Nat) × (Nat → Nat → Nat) × (Nat → Nat → Int) × (Nat → Nat → Int → Int) => match u with | (q, r', n', z', F', Er', En', Ez', EF') => some (.int (iz q)))) (post := (fun (u : (Int) × (Nat → Nat) × (Nat → Nat) × (Nat → Int) × (Nat → Int → Int) × (Nat → Nat → Nat) × (Nat → Nat → Nat) × (Nat → Nat → Int) × (Nat → Nat → Int → Int)) (dn dm : Nat) => match u with | (q, r', n', z', F', Er', En', Ez', EF') => xR [0, 1, 2, 4, 5, 6, 7, 8, 9, 15, 16] [0, 1, 2, 4, 5, 6, 7, 8, 9] [10] [] N z F En Ez EF n' z' F' En' Ez' EF' ∧ (dn + xg n' ≤ xg n + 0 ∧ dm + xp n' ≤ xp n + 0) ∧ (rs_RK z' F' Ez' lv ab Wd cm ∧ lo_K z' F' Ez' EF' ∧ z' 15 = 1 ∧ ((0 ≤ p0 ∧ p0 < z' 1) ∧ 0 ≤ p1 ∧ p1 ≤ 4) ∧ (p1 = 0 → q = (F' 1 p0)) ∧ (p1 = 1 → q = Ez' (((F' 1 p0) + 1).toNat) 7) ∧ (p1 = 2 → z' 16 = (F' 1 p0) ∧ q = z' 7) ∧ (p1 = 3 → q = (((sn_r (rs_sE Ez') (sn_c Ez') (sn_f EF') (F' 1 p0) (z' 12).toNat).length : Nat) : Int)) ∧ (p1 = 4 → q = sn_g (kf_ls (EF' ((rs_w lv ab (rs_sE Ez') (F' 1 p0) 0 + 1).toNat) 2) 0 (Ez' ((rs_w lv ab (rs_sE Ez') (F' 1 p0) 0 + 1).toNat) 2).toNat))))) (ws := (fun u : (Int) × (Nat → Nat) × (Nat → Nat) × (Nat → Int) × (Nat → Int → Int) × (Nat → Nat → Nat) × (Nat → Nat → Nat) × (Nat → Nat → Int) × (Nat → Nat → Int → Int) => match u with | (q, r', n', z', F', Er', En', Ez', EF') => (xU cI cB cE o r' n' z' F' G (Eo 0 0) ++ eP cI N Eo Er' En' Ez' EF'))) (tys := xT cI cB cE) (z := z_61 2) (z_61 2, r_59, n_60, z_61, F_62, Er_10, En_11, Ez_12, EF_13) hx hb hr rfl hlocks rfl hP hD hK hS dX5_row_108 (fun dn dm hdn hdm => ⟨⟨hok67, hfr67, hPE67, hef67⟩, ⟨by omega, by omega⟩, ⟨hrk68, hck68, by omega, by omega, fun h9 => absurd h9 (by omega), fun h9 => absurd h9 (by omega), fun h9 => absurd h9 (by omega), fun _ => (by show z_61 2 = (((sn_r (rs_sE Ez_12) (sn_c Ez_12) (sn_f EF_13) (F_62 1 p0) (z_61 12).toNat).length : Nat) : Int); rw [← hf1, show z_61 12 = z_8 12 by omega]; omega), fun h9 => absurd h9 (by omega)⟩⟩) (by omega) (by omega)
      by_cases hsw_72 : p1 = 4
      · skip
        refine ki_is (show iz (p1) = iz 4 by rw [hsw_72]) ?_
        refine lv_tableIn (off := 72) (tgt := 109) hx hb dX5_row_37 (by decide) (by decide) (by decide) (by decide) ?_
        refine lv_aload_n hx hb dX5_row_109 rfl (lv_at hl 1 rfl) ?_
        refine lv_iload_n hx hb dX5_row_110 rfl (lv_at hl 0 rfl) ?_
        have hxz_73 : -2147483648 ≤ z_8 12 ∧ z_8 12 < 2147483648 := hok14.2.2.2.1 12
        have hxG9 : xG N (z_8 12) G Eo := ⟨by omega, by omega, by omega, fun e9 h9 => hN4 e9 (by omega)⟩
        have hP : va_P (dC, dI) kxCl (xU cI cB cE o r_6 n_7 z_8 F_9 G (Eo 0 0) ++ eP cI N Eo Er_10 En_11 Ez_12 EF_13) H := hP
        refine xk_pure (va_runV (As := [.int (iz (F_9 1 p0))]) (rest := []) ⟨hx, hb, hml, hown, hts⟩ (y_groupOf2 l dC dI cI cB cE o r_6 n_7 z_8 F_9 G N Eo Er_10 En_11 Ez_12 EF_13 (F_9 1 p0) lv ab Wd cm H.size hok14 hxG9 hPE14 (by omega) (by show rs_H (z_8 12) Ez_12 EF_13 lv ab Wd cm; rw [show z_8 12 = z 12 by omega]; exact hRH.fr hef14 (by decide) (by decide)) (by show ∀ e, 0 ≤ e → e < z_8 12 → 0 ≤ rs_sE Ez_12 e ∧ rs_sE Ez_12 e ≤ e; exact fun e a b => (hRrhme_24.1 e a b).1) (show z_8 12 ≤ 78 by omega) (fun e a b => rs_P_lv (rs_C_P hRH.1.2.1 hRrhme_24.1) a b)) (cwV 1 hts (kx_gV kq_21_xcalls_37 kq_21_xcalls_38 kq_21_xcalls_39 kq_18_xrows_4 kq_21_xcalls_40 rfl) rfl rfl rfl (by decide +kernel) ⟨Nat.le_of_ble_eq_true rfl, Nat.le_of_ble_eq_true rfl⟩) ⟨pPre_blind, va_recv hK hP (ci := 5) (q0 := 0) rfl rfl, pPre_give hP hK hG⟩ rfl rfl hl.1 rfl (lv_room (Nat.le_of_ble_eq_true rfl)) dX5_row_111 ⟨show (0 + dn_4) + 0 ≤ 1200 from (by omega), show (0 + dm_5) + 0 ≤ 600000 from (by omega)⟩) hS (fun z_75 locs hq_74 hS => ?_)
        refine W.eq (g2 := F0 m 114 ls [.int (iz z_75)]) rfl ?_
        try dsimp only at hq_74
        refine vx_ret ?_
        exact xk_iret (ov := (fun u : (Int) × (Nat → Nat) × (Nat → Nat) × (Nat → Int) × (Nat → Int → Int) × (Nat → Nat → Nat) × (Nat → Nat → Nat) × (Nat → Nat → Int) × (Nat → Nat → Int → Int) => match u with | (q, r', n', z', F', Er', En', Ez', EF') => some (.int (iz q)))) (post := (fun (u : (Int) × (Nat → Nat) × (Nat → Nat) × (Nat → Int) × (Nat → Int → Int) × (Nat → Nat → Nat) × (Nat → Nat → Nat) × (Nat → Nat → Int) × (Nat → Nat → Int → Int)) (dn dm : Nat) => match u with | (q, r', n', z', F', Er', En', Ez', EF') => xR [0, 1, 2, 4, 5, 6, 7, 8, 9, 15, 16] [0, 1, 2, 4, 5, 6, 7, 8, 9] [10] [] N z F En Ez EF n' z' F' En' Ez' EF' ∧ (dn + xg n' ≤ xg n + 0 ∧ dm + xp n' ≤ xp n + 0) ∧ (rs_RK z' F' Ez' lv ab Wd cm ∧ lo_K z' F' Ez' EF' ∧ z' 15 = 1 ∧ ((0 ≤ p0 ∧ p0 < z' 1) ∧ 0 ≤ p1 ∧ p1 ≤ 4) ∧ (p1 = 0 → q = (F' 1 p0)) ∧ (p1 = 1 → q = Ez' (((F' 1 p0) + 1).toNat) 7) ∧ (p1 = 2 → z' 16 = (F' 1 p0) ∧ q = z' 7) ∧ (p1 = 3 → q = (((sn_r (rs_sE Ez') (sn_c Ez') (sn_f EF') (F' 1 p0) (z' 12).toNat).length : Nat) : Int)) ∧ (p1 = 4 → q = sn_g (kf_ls (EF' ((rs_w lv ab (rs_sE Ez') (F' 1 p0) 0 + 1).toNat) 2) 0 (Ez' ((rs_w lv ab (rs_sE Ez') (F' 1 p0) 0 + 1).toNat) 2).toNat))))) (ws := (fun u : (Int) × (Nat → Nat) × (Nat → Nat) × (Nat → Int) × (Nat → Int → Int) × (Nat → Nat → Nat) × (Nat → Nat → Nat) × (Nat → Nat → Int) × (Nat → Nat → Int → Int) => match u with | (q, r', n', z', F', Er', En', Ez', EF') => (xU cI cB cE o r' n' z' F' G (Eo 0 0) ++ eP cI N Eo Er' En' Ez' EF'))) (tys := xT cI cB cE) (z := z_75) (z_75, r_6, n_7, z_8, F_9, Er_10, En_11, Ez_12, EF_13) hx hb hr rfl hlocks rfl hP hD hK hS dX5_row_114 (fun dn dm hdn hdm => ⟨⟨hok14, hfr14, hPE14, hef14⟩, ⟨by omega, by omega⟩, ⟨hrk15, hck15, by omega, by omega, fun h9 => absurd h9 (by omega), fun h9 => absurd h9 (by omega), fun h9 => absurd h9 (by omega), fun h9 => absurd h9 (by omega), fun _ => hq_74.1⟩⟩) (by omega) (by omega)
      refine lv_tableOut (tgt := 115) hx hb dX5_row_37 (by rw [iz_toInt (by omega) (by omega)]; omega) (by decide) ?_
      exact ky_thr_IOB hx hb hlf hown hG hZ hS (hl.1.trans hml.symm) dX5_row_115 dX5_row_118 dX5_row_119 dX5_row_122 htab (Nat.le_of_ble_eq_true rfl) (Nat.le_of_ble_eq_true rfl) (show (0 + dn_4) + 1 ≤ 1200 from (by omega)) (show (0 + dm_5) + 6 ≤ 600000 from (by omega)) hlocks (⟨rfl, by first | trivial | omega⟩) (fun t hvm h1 h2 => ⟨(r_6, n_7, z_8, F_9, Er_10, En_11, Ez_12, EF_13), ⟨hok14, hfr14, hPE14, hef14⟩, ⟨hrk15, hck15, by omega, by omega⟩, hP.kept (fun k q hk => h2 q.1 (hP k q hk).lt), va_K.moved hvm hK, hD⟩) hS.2.2 (by omega) (by omega) (by omega) (by omega)
    · skip
      exact ky_thr_IOB hx hb hlf hown hG hZ hS (hl.1.trans hml.symm) dX5_row_19 dX5_row_22 dX5_row_23 dX5_row_26 htab (Nat.le_of_ble_eq_true rfl) (Nat.le_of_ble_eq_true rfl) (show (0 + dn_4) + 1 ≤ 1200 from (by omega)) (show (0 + dm_5) + 6 ≤ 600000 from (by omega)) hlocks (⟨rfl, by first | trivial | omega⟩) (fun t hvm h1 h2 => ⟨(r_6, n_7, z_8, F_9, Er_10, En_11, Ez_12, EF_13), ⟨hok14, hfr14, hPE14, hef14⟩, ⟨hrk15, hck15, by omega, by omega⟩, hP.kept (fun k q hk => h2 q.1 (hP k q hk).lt), va_K.moved hvm hK, hD⟩) hS.2.2 (by omega) (by omega) (by omega) (by omega)
