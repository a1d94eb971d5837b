/-! the landed object: its asking calls, with the locators that stand there -/

set_option maxHeartbeats 4000000 in
set_option maxRecDepth 100000 in
theorem y_row5 (l : Launch) (hlf : l.stackTraces = false) (dC : Nat → ClassId) (dI : Nat → Nat → Nat) (cI cB cE : ClassId) (o r n : Nat → Nat) (z : Nat → Int) (F : Nat → Int → Int) (G : Nat → Option Nat) (N : Nat) (Eo Er En : Nat → Nat → Nat) (Ez : Nat → Nat → Int) (EF : Nat → Nat → Int → Int) (p0 : Int) (p1 : Int) (lv : Int → Int) (ab : Int → Int) (Wd : Int → Int → Prop) (cm : Int → Int → Int) (sz : Nat) (hok : xOk n z F) (hxG : xG N (z 12) G Eo) (hPE : eA N En Ez EF) (hp01 : -2147483648 ≤ p0) (hp02 : p0 < 2147483648) (hp11 : -2147483648 ≤ p1) (hp12 : p1 < 2147483648) (hRH : rs_H (z 12) Ez EF lv ab Wd cm) (h79 : z 12 ≤ 78) (hkn : rs_RK z F Ez lv ab Wd cm) (lH : lo_H (z 12) Ez EF) (hck : lo_K z F Ez EF) : vx_Met l yX5_row [.code yX5_row cX5_row 4 (some .int)] ({ frames := 7, cells := 1200, slots := 600000, locals := 196 }) (va_Pc [.ref (o 15), .int (iz p0), .int (iz p1)] (kx_Pre dC dI (xU cI cB cE o r n z F G (Eo 0 0) ++ eP cI N Eo Er En Ez EF) (xT cI cB cE) sz)) (xQ (fun u : (Int) × (Nat → Nat) × (Nat → Nat) × (Nat → Int) × (Nat → Int → Int) × (Nat → Nat → Nat) × (Nat → Nat → Nat) × (Nat → Nat → Int) × (Nat → Nat → Int → Int) => match u with | (q, r', n', z', F', Er', En', Ez', EF') => some (.int (iz q))) (fun (u : (Int) × (Nat → Nat) × (Nat → Nat) × (Nat → Int) × (Nat → Int → Int) × (Nat → Nat → Nat) × (Nat → Nat → Nat) × (Nat → Nat → Int) × (Nat → Nat → Int → Int)) (dn dm : Nat) => match u with | (q, r', n', z', F', Er', En', Ez', EF') => xR [0, 1, 2, 4, 5, 6, 7, 8, 9, 15, 16] [0, 1, 2, 4, 5, 6, 7, 8, 9] [10] [] N z F En Ez EF n' z' F' En' Ez' EF' ∧ (dn + xg n' ≤ xg n + 0 ∧ dm + xp n' ≤ xp n + 0) ∧ (rs_RK z' F' Ez' lv ab Wd cm ∧ lo_K z' F' Ez' EF')) (fun u t => kx_At dC dI (va_A (xU cI cB cE o r n z F G (Eo 0 0) ++ eP cI N Eo Er En Ez EF) sz) ((fun u : (Int) × (Nat → Nat) × (Nat → Nat) × (Nat → Int) × (Nat → Int → Int) × (Nat → Nat → Nat) × (Nat → Nat → Nat) × (Nat → Nat → Int) × (Nat → Nat → Int → Int) => match u with | (q, r', n', z', F', Er', En', Ez', EF') => (xU cI cB cE o r' n' z' F' G (Eo 0 0) ++ eP cI N Eo Er' En' Ez' EF')) u) (xT cI cB cE) t) (va_A (xU cI cB cE o r n z F G (Eo 0 0) ++ eP cI N Eo Er En Ez EF) sz)) (yX (fun E => (E = "java/lang/IndexOutOfBoundsException" ∧ (True))) 95 41800 (fun t => ∃ u : (Nat → Nat) × (Nat → Nat) × (Nat → Int) × (Nat → Int → Int) × (Nat → Nat → Nat) × (Nat → Nat → Nat) × (Nat → Nat → Int) × (Nat → Nat → Int → Int), match u with | (r', n', z', F', Er', En', Ez', EF') => xR [0, 1, 2, 4, 5, 6, 7, 8, 9, 15, 16] [0, 1, 2, 4, 5, 6, 7, 8, 9] [10] [] N z F En Ez EF n' z' F' En' Ez' EF' ∧ (rs_RK z' F' Ez' lv ab Wd cm ∧ lo_K z' F' Ez' EF') ∧ kx_At dC dI (va_A (xU cI cB cE o r n z F G (Eo 0 0) ++ eP cI N Eo Er En Ez EF) sz) (xU cI cB cE o r' n' z' F' G (Eo 0 0) ++ eP cI N Eo Er' En' Ez' EF') (xT cI cB cE) t) (va_A (xU cI cB cE o r n z F G (Eo 0 0) ++ eP cI N Eo Er En Ez EF) sz)) 1200 600000 (va_A (xU cI cB cE o r n z F G (Eo 0 0) ++ eP cI N Eo Er En Ez EF) sz) := by
  refine vx_ofW (cc := cX5_row) (maxL := 4) (ret := (some .int)) (by decide) rfl ?_
  intro p e s m args below meth c s₁ B hml htab hv
  obtain ⟨rfl, hsz, hP, hK, hD0, hG, hZ⟩ := hv
  have hx := B.exec
  have hb := B.bytes
  have hr := B.returns
  have hts := kx_hts (a := ([.ref (o 15), .int (iz p0), .int (iz p1)] : List Value).toArray) hG
  have hown : s.vm.findClass RX5 = some m.cls := findClass_of_methodNamed B.named
  have hlocks := B.notSynchronized
  subst hsz
  have hD := hD0.self (sz := s.heap.size)
  generalize hAe : va_A (xU cI cB cE o r n z F G (Eo 0 0) ++ eP cI N Eo Er En Ez EF) s.heap.size = A at hD hZ ⊢
  have hA : ∀ q : Nat, s.heap.size ≤ q → A q := fun q h => by rw [← hAe]; exact Or.inr h
  have hS : va_S A s.heap s.heap [] := va_S.rf
  have hl := lv_entry ([.ref (o 15), .int (iz p0), .int (iz p1)]) (n := 4) (Nat.le_of_ble_eq_true rfl)
  rw [lg_entry_eq]
  generalize (lg_sl ([.ref (o 15), .int (iz p0), .int (iz p1)]) ++ List.replicate (4 - (lg_sl ([.ref (o 15), .int (iz p0), .int (iz p1)])).length) Slot.unset).toArray = ls at hl ⊢
  obtain ⟨hN1, hN2, hN3, hN4⟩ := hxG
  have hef : eFr [10] [] En Ez EF En Ez EF := eFr.rf
  have hfr : xFr [0, 1, 2, 4, 5, 6, 7, 8, 9, 15, 16] [0, 1, 2, 4, 5, 6, 7, 8, 9] z F z F := xFr.rf
  have hxgl := xg_le n
  have hxpl := xp_le n
  have hl : lv_has ls 4 [(0, .ref (o 15)), (1, .int (iz p0)), (2, .int (iz p1))] := hl
  refine lv_aload_n hx hb dX5_row_0 rfl (lv_at hl 0 rfl) ?_
  have hxz_1 : -2147483648 ≤ z 12 ∧ z 12 < 2147483648 := hok.2.2.2.1 12
  have hxG9 : xG N (z 12) G Eo := ⟨by omega, by omega, by omega, fun e9 h9 => hN4 e9 (by omega)⟩
  have hP : va_P (dC, dI) kxCl (xU cI cB cE o r n z F G (Eo 0 0) ++ eP cI N Eo Er En Ez EF) s.heap := hP
  have hD : va_D A (xU cI cB cE o r n z F G (Eo 0 0) ++ eP cI N Eo Er En Ez EF) := hD
  have hFc := xw_free hD hS hA
  refine xk_call (va_runV (As := []) (rest := []) ⟨hx, hb, hml, hown, hts⟩ (y_findRows2 l dC dI cI cB cE o r n z F G N Eo Er En Ez EF lv ab Wd cm s.heap.size hok hxG9 hPE (by first | exact hRH | exact hRH.fr hef (by decide) (by decide)) (show z 12 ≤ 78 by omega) hkn) (cwV 0 hts (kx_gV kq_21_xcalls_25 kq_21_xcalls_26 kq_21_xcalls_27 kq_18_xrows_4 kq_21_xcalls_28 rfl) rfl rfl rfl (by decide +kernel) ⟨Nat.le_of_ble_eq_true rfl, Nat.le_of_ble_eq_true rfl⟩) ⟨kx_blind, va_recv hK hP (ci := 5) (q0 := 0) rfl rfl, kx_give (ws := []) (tys := []) hP hD hK hG hZ hS hFc⟩ rfl rfl hl.1 rfl (lv_room (Nat.le_of_ble_eq_true rfl)) dX5_row_1 ⟨show 0 + 600 ≤ 1200 from (by omega), show 0 + 300000 ≤ 600000 from (by omega)⟩) hS (fun q _ h => hFc q h) hFc (fun u dn_4 dm_5 t H locs ht hvm hq_2 hB hk1 hS => ?_)
  obtain ⟨r_6, n_7, z_8, F_9, Er_10, En_11, Ez_12, EF_13⟩ := u
  obtain ⟨hP, hK1, hD1⟩ := hB
  rw [ht] at hP
  have hD := hD1.weaken (fun _ q _ h => hFc _ h)
  obtain ⟨hR14, hC14, hq_2⟩ := hq_2
  have hok14 := hR14.1
  have hfr14 := hfr.tr (hR14.2.1.mono (S' := [0, 1, 2, 4, 5, 6, 7, 8, 9, 15, 16]) (T' := [0, 1, 2, 4, 5, 6, 7, 8, 9]) (by decide) (by decide))
  have hPE14 := hR14.2.2.1
  have hef14 := hef.tr (hR14.2.2.2.mono (S' := [10]) (T' := []) (by decide) (by decide))
  have hz14 : z_8 12 = (z 12) := hR14.2.1.1 12 (by decide)
  refine W.eq (g2 := F0 m 4 ls []) rfl ?_
  try dsimp only at hq_2
  obtain ⟨hk1515, hrr15⟩ := hq_2
  have hrk15 : rs_RK z_8 F_9 Ez_12 lv ab Wd cm := fun _ => hrr15
  have hck15 : lo_K z_8 F_9 Ez_12 EF_13 := lo_K.find hck hkn hRH.1.1 hRH.1.2.1 hrr15 hk1515 (hR14.2.1.1 16 (by decide)) (hR14.2.1.1 12 (by decide)) (hR14.2.1.1 7 (by decide)) (hR14.2.1.1 8 (by decide)) (hR14.2.1.1 9 (by decide)) (hR14.2.1.2 7 (by decide)) (hR14.2.1.2 8 (by decide)) (fun j => hR14.2.2.2.1 j 4 (by decide)) (fun j => ⟨(hR14.2.2.2.2 j 4 (by decide)).2, (hR14.2.2.2.2 j 5 (by decide)).2, (hR14.2.2.2.2 j 6 (by decide)).2⟩)
  have lH15 : lo_H (z 12) Ez_12 EF_13 := lo_H.fr lH hef14 (by decide) (by decide)
  have hz1215 : z_8 12 = z 12 := by omega
  refine lv_iload_n hx hb dX5_row_4 rfl (lv_at hl 1 rfl) ?_
  refine ki_if_lt (tgt := 19) hx hb dX5_row_5 (by decide) (by omega) (by omega) (fun c_16 => ?_) (fun c_16 => ?_)
  · skip
    exact ky_thr_IOB hx hb hlf hown hG hZ hS (hl.1.trans hml.symm) dX5_row_19 dX5_row_22 dX5_row_23 dX5_row_26 htab (Nat.le_of_ble_eq_true rfl) (Nat.le_of_ble_eq_true rfl) (show (0 + dn_4) + 1 ≤ 1200 from (by omega)) (show (0 + dm_5) + 6 ≤ 600000 from (by omega)) hlocks (⟨rfl, by first | trivial | omega⟩) (fun t hvm h1 h2 => ⟨(r_6, n_7, z_8, F_9, Er_10, En_11, Ez_12, EF_13), ⟨hok14, hfr14, hPE14, hef14⟩, ⟨hrk15, hck15⟩, hP.kept (fun k q hk => h2 q.1 (hP k q hk).lt), va_K.moved hvm hK, hD⟩) hS.2.2 (by omega) (by omega) (by omega) (by omega)
  · skip
    refine lv_iload_n hx hb dX5_row_8 rfl (lv_at hl 1 rfl) ?_
    refine lv_aload_n hx hb dX5_row_9 rfl (lv_at hl 0 rfl) ?_
    refine va_get (D := (dC, dI)) (ci := 5) (v := .ref (o 1)) (C := RX5) (T := TX5) (N := 16) hx hb hts kt_X5 hown hK hP 0 rfl rfl 6 (by decide) (kx_word hG kq_18_xrows_47 rfl) (fun _ h9 => h9) rfl dX5_row_10 ?_
    have hxi_17 : 0 ≤ z_8 1 ∧ z_8 1 ≤ ((n_7 1 : Nat) : Int) ∧ ((n_7 1 : Nat) : Int) ≤ 80 := hok14.1 1 (by decide)
    have hPc := hP.sub (ws' := (iU cI 80 (o 1) (r_6 1) (n_7 1) (z_8 1) (F_9 1))) [4, 5] rfl
    refine xk_pure (va_runV (As := []) (rest := [.int (iz p0)]) ⟨hx, hb, hml, hown, hts⟩ (x_size l dC dI cI cB cE 80 (o 1) (r_6 1) (n_7 1) (z_8 1) (F_9 1)  H.size ) (cwV 0 hts (kx_gV kq_18_xrows_40 kq_15_xspan_10 kq_15_xspan_11 kq_13_xints_6 kq_15_xspan_12 rfl) rfl rfl rfl (by decide +kernel) ⟨Nat.le_of_ble_eq_true rfl, Nat.le_of_ble_eq_true rfl⟩) ⟨pPre_blind, va_recv hK hPc (ci := 1) (q0 := 0) rfl rfl, pPre_give hPc hK hG⟩ rfl rfl hl.1 rfl (lv_room (Nat.le_of_ble_eq_true rfl)) dX5_row_13 ⟨show (0 + dn_4) + 0 ≤ 1200 from (by omega), show (0 + dm_5) + 0 ≤ 600000 from (by omega)⟩) hS (fun z_19 locs hq_18 hS => ?_)
    refine W.eq (g2 := F0 m 16 ls [.int (iz z_19), .int (iz p0)]) rfl ?_
    try dsimp only at hq_18
    have hq_18 := hq_18.symm
    subst hq_18
    refine ki_icmp_lt (tgt := 27) hx hb dX5_row_16 (by decide) (by omega) (by omega) (by omega) (by omega) (fun c_20 => ?_) (fun c_20 => ?_)
    · skip
      refine lv_aload_n hx hb dX5_row_27 rfl (lv_at hl 0 rfl) ?_
      refine va_get (D := (dC, dI)) (ci := 5) (v := .ref (o 1)) (C := RX5) (T := TX5) (N := 16) hx hb hts kt_X5 hown hK hP 0 rfl rfl 6 (by decide) (kx_word hG kq_18_xrows_47 rfl) (fun _ h9 => h9) rfl dX5_row_28 ?_
      refine lv_iload_n hx hb dX5_row_31 rfl (lv_at hl 1 rfl) ?_
      have hPc := hP.sub (ws' := (iU cI 80 (o 1) (r_6 1) (n_7 1) (z_8 1) (F_9 1))) [4, 5] rfl
      refine xk_pure (va_runV (As := [.int (iz p0)]) (rest := []) ⟨hx, hb, hml, hown, hts⟩ (x_get l dC dI cI cB cE 80 (o 1) (r_6 1) (n_7 1) (z_8 1) (F_9 1) p0 H.size (by omega) (hok14.2.2.1 1) (by omega) (by omega)) (cwV 1 hts (kx_gV kq_18_xrows_41 kq_13_xints_4 kq_13_xints_5 kq_13_xints_6 kq_13_xints_7 rfl) rfl rfl rfl (by decide +kernel) ⟨Nat.le_of_ble_eq_true rfl, Nat.le_of_ble_eq_true rfl⟩) ⟨pPre_blind, va_recv hK hPc (ci := 1) (q0 := 0) rfl rfl, pPre_give hPc hK hG⟩ rfl rfl hl.1 rfl (lv_room (Nat.le_of_ble_eq_true rfl)) dX5_row_32 ⟨show (0 + dn_4) + 0 ≤ 1200 from (by omega), show (0 + dm_5) + 0 ≤ 600000 from (by omega)⟩) hS (fun z_22 locs hq_21 hS => ?_)
      refine W.eq (g2 := F0 m 35 ls [.int (iz z_22)]) rfl ?_
      try dsimp only at hq_21
      have eg_23 : z_22 = F_9 1 p0 := by omega
      subst eg_23
      refine W.eq (g2 := F0 m 35 ls [.int (iz (F_9 1 p0))]) rfl ?_
      have hRrhme_24 := hrk15 (by omega)
      have hme_24 := (hRrhme_24.2.2 (F_9 1 p0)).mp ⟨p0, by omega, by omega, rfl⟩
      refine lv_istore_n (lv' := [(3, .int (iz (F_9 1 p0))), (0, .ref (o 15)), (1, .int (iz p0)), (2, .int (iz p1))]) hx hb dX5_row_35 rfl hl (by decide) rfl (fun ls hl => ?_)
      refine lv_iload_n hx hb dX5_row_36 rfl (lv_at hl 3 rfl) ?_
      by_cases hsw_25 : p1 = 0
      · skip
        refine ki_is (show iz (p1) = iz 0 by rw [hsw_25]) ?_
        refine lv_tableIn (off := 35) (tgt := 72) hx hb dX5_row_37 (by decide) (by decide) (by decide) (by decide) ?_
        refine lv_iload_n hx hb dX5_row_72 rfl (lv_at hl 0 rfl) ?_
        refine vx_ret ?_
        exact xk_iret (ov := (fun u : (Int) × (Nat → Nat) × (Nat → Nat) × (Nat → Int) × (Nat → Int → Int) × (Nat → Nat → Nat) × (Nat → Nat → Nat) × (Nat → Nat → Int) × (Nat → Nat → Int → Int) => match u with | (q, r', n', z', F', Er', En', Ez', EF') => some (.int (iz q)))) (post := (fun (u : (Int) × (Nat → Nat) × (Nat → Nat) × (Nat → Int) × (Nat → Int → Int) × (Nat → Nat → Nat) × (Nat → Nat → Nat) × (Nat → Nat → Int) × (Nat → Nat → Int → Int)) (dn dm : Nat) => match u with | (q, r', n', z', F', Er', En', Ez', EF') => xR [0, 1, 2, 4, 5, 6, 7, 8, 9, 15, 16] [0, 1, 2, 4, 5, 6, 7, 8, 9] [10] [] N z F En Ez EF n' z' F' En' Ez' EF' ∧ (dn + xg n' ≤ xg n + 0 ∧ dm + xp n' ≤ xp n + 0) ∧ (rs_RK z' F' Ez' lv ab Wd cm ∧ lo_K z' F' Ez' EF'))) (ws := (fun u : (Int) × (Nat → Nat) × (Nat → Nat) × (Nat → Int) × (Nat → Int → Int) × (Nat → Nat → Nat) × (Nat → Nat → Nat) × (Nat → Nat → Int) × (Nat → Nat → Int → Int) => match u with | (q, r', n', z', F', Er', En', Ez', EF') => (xU cI cB cE o r' n' z' F' G (Eo 0 0) ++ eP cI N Eo Er' En' Ez' EF'))) (tys := xT cI cB cE) (z := F_9 1 p0) (F_9 1 p0, r_6, n_7, z_8, F_9, Er_10, En_11, Ez_12, EF_13) hx hb hr rfl hlocks rfl hP hD hK hS dX5_row_73 (fun dn dm hdn hdm => ⟨⟨hok14, hfr14, hPE14, hef14⟩, ⟨by omega, by omega⟩, ⟨hrk15, hck15⟩⟩) (by omega) (by omega)
      by_cases hsw_26 : p1 = 1
      · skip
        refine ki_is (show iz (p1) = iz 1 by rw [hsw_26]) ?_
        refine lv_tableIn (off := 37) (tgt := 74) hx hb dX5_row_37 (by decide) (by decide) (by decide) (by decide) ?_
        refine lv_aload_n hx hb dX5_row_74 rfl (lv_at hl 1 rfl) ?_
        refine lv_iload_n hx hb dX5_row_75 rfl (lv_at hl 0 rfl) ?_
        have hxz_27 : -2147483648 ≤ z_8 12 ∧ z_8 12 < 2147483648 := hok14.2.2.2.1 12
        have hxG9 : xG N (z_8 12) G Eo := ⟨by omega, by omega, by omega, fun e9 h9 => hN4 e9 (by omega)⟩
        have hP : va_P (dC, dI) kxCl (xU cI cB cE o r_6 n_7 z_8 F_9 G (Eo 0 0) ++ eP cI N Eo Er_10 En_11 Ez_12 EF_13) H := hP
        refine xk_pure (va_runV (As := [.int (iz (F_9 1 p0))]) (rest := []) ⟨hx, hb, hml, hown, hts⟩ (y_known l dC dI cI cB cE o r_6 n_7 z_8 F_9 G N Eo Er_10 En_11 Ez_12 EF_13 (F_9 1 p0) H.size hok14 hxG9 hPE14 (by omega) (by omega)) (cwV 1 hts (kx_gV kq_18_xrows_8 kq_18_xrows_9 kq_18_xrows_10 kq_18_xrows_4 kq_18_xrows_11 rfl) rfl rfl rfl (by decide +kernel) ⟨Nat.le_of_ble_eq_true rfl, Nat.le_of_ble_eq_true rfl⟩) ⟨pPre_blind, va_recv hK hP (ci := 5) (q0 := 0) rfl rfl, pPre_give hP hK hG⟩ rfl rfl hl.1 rfl (lv_room (Nat.le_of_ble_eq_true rfl)) dX5_row_76 ⟨show (0 + dn_4) + 0 ≤ 1200 from (by omega), show (0 + dm_5) + 0 ≤ 600000 from (by omega)⟩) hS (fun z_29 locs hq_28 hS => ?_)
        refine W.eq (g2 := F0 m 79 ls [.ref z_29.toNat]) rfl ?_
        try dsimp only at hq_28
        obtain ⟨j30, hj30, ez30, hje30⟩ := hq_28
        subst ez30
        refine W.eq (g2 := F0 m 79 ls [.ref (Eo j30 0)]) rfl ?_
        have hP := eP_foc hj30 hP
        have hD := eD_foc hj30 hD
        have hez_31 : -2147483648 ≤ Ez_12 j30 7 ∧ Ez_12 j30 7 < 2147483648 := (hPE14 j30 hj30).2.2 7
        refine va_getN (D := (dC, dI)) (ci := 0) (v := .int (iz (Ez_12 j30 7))) (C := RX0) (T := TX0) (N := 12) hx hb hts kt_X0 hown hK hP 29 rfl rfl 0 (by decide) (va_Nw.use rfl (kx_nf hG kq_18_xrows_12)) (fun _ h9 => h9) rfl dX5_row_79 ?_
        have hP := eP_un0 hj30 hP
        have hD := eD_un0 hj30 hD
        refine vx_ret ?_
        exact xk_iret (ov := (fun u : (Int) × (Nat → Nat) × (Nat → Nat) × (Nat → Int) × (Nat → Int → Int) × (Nat → Nat → Nat) × (Nat → Nat → Nat) × (Nat → Nat → Int) × (Nat → Nat → Int → Int) => match u with | (q, r', n', z', F', Er', En', Ez', EF') => some (.int (iz q)))) (post := (fun (u : (Int) × (Nat → Nat) × (Nat → Nat) × (Nat → Int) × (Nat → Int → Int) × (Nat → Nat → Nat) × (Nat → Nat → Nat) × (Nat → Nat → Int) × (Nat → Nat → Int → Int)) (dn dm : Nat) => match u with | (q, r', n', z', F', Er', En', Ez', EF') => xR [0, 1, 2, 4, 5, 6, 7, 8, 9, 15, 16] [0, 1, 2, 4, 5, 6, 7, 8, 9] [10] [] N z F En Ez EF n' z' F' En' Ez' EF' ∧ (dn + xg n' ≤ xg n + 0 ∧ dm + xp n' ≤ xp n + 0) ∧ (rs_RK z' F' Ez' lv ab Wd cm ∧ lo_K z' F' Ez' EF'))) (ws := (fun u : (Int) × (Nat → Nat) × (Nat → Nat) × (Nat → Int) × (Nat → Int → Int) × (Nat → Nat → Nat) × (Nat → Nat → Nat) × (Nat → Nat → Int) × (Nat → Nat → Int → Int) => match u with | (q, r', n', z', F', Er', En', Ez', EF') => (xU cI cB cE o r' n' z' F' G (Eo 0 0) ++ eP cI N Eo Er' En' Ez' EF'))) (tys := xT cI cB cE) (z := Ez_12 j30 7) (Ez_12 j30 7, r_6, n_7, z_8, F_9, Er_10, En_11, Ez_12, EF_13) hx hb hr rfl hlocks rfl hP hD hK hS dX5_row_82 (fun dn dm hdn hdm => ⟨⟨hok14, hfr14, hPE14, hef14⟩, ⟨by omega, by omega⟩, ⟨hrk15, hck15⟩⟩) (by omega) (by omega)
      by_cases hsw_32 : p1 = 2
      · skip
        refine ki_is (show iz (p1) = iz 2 by rw [hsw_32]) ?_
        refine lv_tableIn (off := 46) (tgt := 83) hx hb dX5_row_37 (by decide) (by decide) (by decide) (by decide) ?_
        refine lv_aload_n hx hb dX5_row_83 rfl (lv_at hl 1 rfl) ?_
        refine lv_iload_n hx hb dX5_row_84 rfl (lv_at hl 0 rfl) ?_
        have hxz_33 : -2147483648 ≤ z_8 12 ∧ z_8 12 < 2147483648 := hok14.2.2.2.1 12
        have hxG9 : xG N (z_8 12) G Eo := ⟨by omega, by omega, by omega, fun e9 h9 => hN4 e9 (by omega)⟩
        have hP : va_P (dC, dI) kxCl (xU cI cB cE o r_6 n_7 z_8 F_9 G (Eo 0 0) ++ eP cI N Eo Er_10 En_11 Ez_12 EF_13) H := hP
        have hD : va_D A (xU cI cB cE o r_6 n_7 z_8 F_9 G (Eo 0 0) ++ eP cI N Eo Er_10 En_11 Ez_12 EF_13) := hD
        have hFc := xw_free hD hS hA
        refine xk_call (va_runV (As := [.int (iz (F_9 1 p0))]) (rest := []) ⟨hx, hb, hml, hown, hts⟩ (y_findLocators2 l dC dI cI cB cE o r_6 n_7 z_8 F_9 G N Eo Er_10 En_11 Ez_12 EF_13 (F_9 1 p0) H.size hok14 hxG9 hPE14 (by omega) (by show ∀ e, 0 ≤ e → e < z_8 12 → 0 ≤ rs_sE Ez_12 e ∧ rs_sE Ez_12 e ≤ e; exact fun e a b => (hRrhme_24.1 e a b).1) (show z_8 12 ≤ 78 by omega) (by show lo_H (z_8 12) Ez_12 EF_13; rw [show z_8 12 = z 12 by omega]; exact lo_H.fr lH hef14 (by decide) (by decide)) (hck15.imp id (fun h9 => ⟨h9.2.1, h9.2.2⟩))) (cwV 1 hts (kx_gV kq_21_xcalls_29 kq_21_xcalls_30 kq_21_xcalls_31 kq_18_xrows_4 kq_21_xcalls_32 rfl) rfl rfl rfl (by decide +kernel) ⟨Nat.le_of_ble_eq_true rfl, Nat.le_of_ble_eq_true rfl⟩) ⟨kx_blind, va_recv hK hP (ci := 5) (q0 := 0) rfl rfl, kx_give (ws := []) (tys := []) hP hD hK hG hZ hS hFc⟩ rfl rfl hl.1 rfl (lv_room (Nat.le_of_ble_eq_true rfl)) dX5_row_85 ⟨show (0 + dn_4) + 400 ≤ 1200 from (by omega), show (0 + dm_5) + 170000 ≤ 600000 from (by omega)⟩) hS (fun q _ h => hFc q h) hFc (fun u dn_36 dm_37 t H locs ht hvm hq_34 hB hk1 hS => ?_)
        obtain ⟨r_38, n_39, z_40, F_41, Er_42, En_43, Ez_44, EF_45⟩ := u
        obtain ⟨hP, hK1, hD1⟩ := hB
        rw [ht] at hP
        have hD := hD1.weaken (fun _ q _ h => hFc _ h)
        obtain ⟨hR46, hC46, hq_34⟩ := hq_34
        have hok46 := hR46.1
        have hfr46 := hfr14.tr (hR46.2.1.mono (S' := [0, 1, 2, 4, 5, 6, 7, 8, 9, 15, 16]) (T' := [0, 1, 2, 4, 5, 6, 7, 8, 9]) (by decide) (by decide))
        have hPE46 := hR46.2.2.1
        have hef46 := hef14.tr (hR46.2.2.2.mono (S' := [10]) (T' := []) (by decide) (by decide))
        have hz46 : z_40 12 = (z_8 12) := hR46.2.1.1 12 (by decide)
        have hkr46_15 : z_40 15 = z_8 15 := hR46.2.1.1 15 (by decide)
        refine W.eq (g2 := F0 m 88 ls []) rfl ?_
        try dsimp only at hq_34
        have hrk47 : rs_RK z_40 F_41 Ez_44 lv ab Wd cm := rs_RK.fr hrk15 (hR46.2.1.1 15 (by decide)) (hR46.2.1.1 12 (by decide)) (hR46.2.1.1 1 (by decide)) (hR46.2.1.2 1 (by decide)) (fun j => hR46.2.2.2.1 j 10 (by decide))
        obtain ⟨hl1647, hlz47, hlq47, hkp47⟩ := hq_34
        obtain ⟨rfl, rfl, rfl, rfl⟩ := hkp47
        have hck47 : lo_K z_40 F_41 Ez_12 EF_13 := Or.inr ⟨by omega, hlz47, (by rw [hl1647, show z_40 12 = z_8 12 by omega]; exact hlq47)⟩
        refine lv_aload_n hx hb dX5_row_88 rfl (lv_at hl 1 rfl) ?_
        refine va_get (D := (dC, dI)) (ci := 5) (v := .ref (o 14)) (C := RX5) (T := TX5) (N := 16) hx hb hts kt_X5 hown hK hP 0 rfl rfl 9 (by decide) (kx_word hG kq_19_xouts_0 rfl) (fun _ h9 => h9) rfl dX5_row_89 ?_
        have hxi_48 : 0 ≤ z_40 7 ∧ z_40 7 ≤ ((n_39 7 : Nat) : Int) ∧ ((n_39 7 : Nat) : Int) ≤ 1600 := hok46.1 7 (by decide)
        have hxi_49 : 0 ≤ z_40 8 ∧ z_40 8 ≤ ((n_39 8 : Nat) : Int) ∧ ((n_39 8 : Nat) : Int) ≤ 1600 := hok46.1 8 (by decide)
        have hxi_50 : 0 ≤ z_40 9 ∧ z_40 9 ≤ ((n_39 9 : Nat) : Int) ∧ ((n_39 9 : Nat) : Int) ≤ 1600 := hok46.1 9 (by decide)
        have hPc := hP.sub (ws' := (sU cI 1600 (o 14) (o 7) (o 8) (o 9) (r_38 7) (r_38 8) (r_38 9) (n_39 7) (n_39 8) (n_39 9) (z_40 7) (z_40 8) (z_40 9) (F_41 7) (F_41 8) (F_41 9))) [17, 18, 19, 20, 21, 22, 23] rfl
        refine xk_pure (va_runV (As := []) (rest := []) ⟨hx, hb, hml, hown, hts⟩ (x_ssize l dC dI cI cB cE 1600 (o 14) (o 7) (o 8) (o 9) (r_38 7) (r_38 8) (r_38 9) (n_39 7) (n_39 8) (n_39 9) (z_40 7) (z_40 8) (z_40 9) (F_41 7) (F_41 8) (F_41 9)  H.size ) (cwV 0 hts (kx_gV kq_19_xouts_3 kq_15_xspan_51 kq_15_xspan_52 kq_15_xspan_53 kq_15_xspan_54 rfl) rfl rfl rfl (by decide +kernel) ⟨Nat.le_of_ble_eq_true rfl, Nat.le_of_ble_eq_true rfl⟩) ⟨pPre_blind, va_recv hK hPc (ci := 3) (q0 := 0) rfl rfl, pPre_give hPc hK hG⟩ rfl rfl hl.1 rfl (lv_room (Nat.le_of_ble_eq_true rfl)) dX5_row_92 ⟨show ((0 + dn_4) + dn_36) + 0 ≤ 1200 from (by omega), show ((0 + dm_5) + dm_37) + 0 ≤ 600000 from (by omega)⟩) hS (fun z_52 locs hq_51 hS => ?_)
        refine W.eq (g2 := F0 m 95 ls [.int (iz z_52)]) rfl ?_
        try dsimp only at hq_51
        have hq_51 := hq_51.symm
        subst hq_51
        refine vx_ret ?_
        exact xk_iret (ov := (fun u : (Int) × (Nat → Nat) × (Nat → Nat) × (Nat → Int) × (Nat → Int → Int) × (Nat → Nat → Nat) × (Nat → Nat → Nat) × (Nat → Nat → Int) × (Nat → Nat → Int → Int) => match u with | (q, r', n', z', F', Er', En', Ez', EF') => some (.int (iz q)))) (post := (fun (u : (Int) × (Nat → Nat) × (Nat → Nat) × (Nat → Int) × (Nat → Int → Int) × (Nat → Nat → Nat) × (Nat → Nat → Nat) × (Nat → Nat → Int) × (Nat → Nat → Int → Int)) (dn dm : Nat) => match u with | (q, r', n', z', F', Er', En', Ez', EF') => xR [0, 1, 2, 4, 5, 6, 7, 8, 9, 15, 16] [0, 1, 2, 4, 5, 6, 7, 8, 9] [10] [] N z F En Ez EF n' z' F' En' Ez' EF' ∧ (dn + xg n' ≤ xg n + 0 ∧ dm + xp n' ≤ xp n + 0) ∧ (rs_RK z' F' Ez' lv ab Wd cm ∧ lo_K z' F' Ez' EF'))) (ws := (fun u : (Int) × (Nat → Nat) × (Nat → Nat) × (Nat → Int) × (Nat → Int → Int) × (Nat → Nat → Nat) × (Nat → Nat → Nat) × (Nat → Nat → Int) × (Nat → Nat → Int → Int) => match u with | (q, r', n', z', F', Er', En', Ez', EF') => (xU cI cB cE o r' n' z' F' G (Eo 0 0) ++ eP cI N Eo Er' En' Ez' EF'))) (tys := xT cI cB cE) (z := z_40 7) (z_40 7, r_38, n_39, z_40, F_41, Er_10, En_11, Ez_12, EF_13) hx hb hr rfl hlocks rfl hP hD hK hS dX5_row_95 (fun dn dm hdn hdm => ⟨⟨hok46, hfr46, hPE46, hef46⟩, ⟨by omega, by omega⟩, ⟨hrk47, hck47⟩⟩) (by omega) (by omega)
      by_cases hsw_53 : p1 = 3
      · skip
        refine ki_is (show iz (p1) = iz 3 by rw [hsw_53]) ?_
        refine lv_tableIn (off := 59) (tgt := 96) hx hb dX5_row_37 (by decide) (by decide) (by decide) (by decide) ?_
        refine lv_aload_n hx hb dX5_row_96 rfl (lv_at hl 1 rfl) ?_
        refine lv_iload_n hx hb dX5_row_97 rfl (lv_at hl 0 rfl) ?_
        have hxz_54 : -2147483648 ≤ z_8 12 ∧ z_8 12 < 2147483648 := hok14.2.2.2.1 12
        have hxG9 : xG N (z_8 12) G Eo := ⟨by omega, by omega, by omega, fun e9 h9 => hN4 e9 (by omega)⟩
        have hP : va_P (dC, dI) kxCl (xU cI cB cE o r_6 n_7 z_8 F_9 G (Eo 0 0) ++ eP cI N Eo Er_10 En_11 Ez_12 EF_13) H := hP
        have hD : va_D A (xU cI cB cE o r_6 n_7 z_8 F_9 G (Eo 0 0) ++ eP cI N Eo Er_10 En_11 Ez_12 EF_13) := hD
        have hFc := xw_free hD hS hA
        refine xk_call (va_runV (As := [.int (iz (F_9 1 p0))]) (rest := []) ⟨hx, hb, hml, hown, hts⟩ (y_findSeen l dC dI cI cB cE o r_6 n_7 z_8 F_9 G N Eo Er_10 En_11 Ez_12 EF_13 (F_9 1 p0) H.size hok14 hxG9 hPE14 (by omega) (by omega)) (cwV 1 hts (kx_gV kq_21_xcalls_33 kq_21_xcalls_34 kq_21_xcalls_35 kq_18_xrows_4 kq_21_xcalls_36 rfl) rfl rfl rfl (by decide +kernel) ⟨Nat.le_of_ble_eq_true rfl, Nat.le_of_ble_eq_true rfl⟩) ⟨kx_blind, va_recv hK hP (ci := 5) (q0 := 0) rfl rfl, kx_give (ws := []) (tys := []) hP hD hK hG hZ hS hFc⟩ rfl rfl hl.1 rfl (lv_room (Nat.le_of_ble_eq_true rfl)) dX5_row_98 ⟨show (0 + dn_4) + 260 ≤ 1200 from (by omega), show (0 + dm_5) + 110000 ≤ 600000 from (by omega)⟩) hS (fun q _ h => hFc q h) hFc (fun u dn_57 dm_58 t H locs ht hvm hq_55 hB hk1 hS => ?_)
        obtain ⟨r_59, n_60, z_61, F_62, Er_63, En_64, Ez_65, EF_66⟩ := u
        obtain ⟨hP, hK1, hD1⟩ := hB
        rw [ht] at hP
        have hD := hD1.weaken (fun _ q _ h => hFc _ h)
        obtain ⟨hR67, hC67, hq_55⟩ := hq_55
        have hok67 := hR67.1
        have hfr67 := hfr14.tr (hR67.2.1.mono (S' := [0, 1, 2, 4, 5, 6, 7, 8, 9, 15, 16]) (T' := [0, 1, 2, 4, 5, 6, 7, 8, 9]) (by decide) (by decide))
        have hPE67 := hR67.2.2.1
        have hef67 := hef14.tr (hR67.2.2.2.mono (S' := [10]) (T' := []) (by decide) (by decide))
        have hz67 : z_61 12 = (z_8 12) := hR67.2.1.1 12 (by decide)
        have hkr67_15 : z_61 15 = z_8 15 := hR67.2.1.1 15 (by decide)
        refine W.eq (g2 := F0 m 101 ls []) rfl ?_
        try dsimp only at hq_55
        have hrk68 : rs_RK z_61 F_62 Ez_65 lv ab Wd cm := rs_RK.fr hrk15 (hR67.2.1.1 15 (by decide)) (hR67.2.1.1 12 (by decide)) (hR67.2.1.1 1 (by decide)) (hR67.2.1.2 1 (by decide)) (fun j => hR67.2.2.2.1 j 10 (by decide))
        have hck68 : lo_K z_61 F_62 Ez_65 EF_66 := lo_K.fr hck15 (hR67.2.1.1 16 (by decide)) (hR67.2.1.1 15 (by decide)) (hR67.2.1.1 12 (by decide)) (hR67.2.1.1 7 (by decide)) (hR67.2.1.1 8 (by decide)) (hR67.2.1.1 9 (by decide)) (hR67.2.1.2 7 (by decide)) (hR67.2.1.2 8 (by decide)) (fun j => hR67.2.2.2.1 j 10 (by decide)) (fun j => hR67.2.2.2.1 j 4 (by decide)) (fun j => ⟨(hR67.2.2.2.2 j 4 (by decide)).2, (hR67.2.2.2.2 j 5 (by decide)).2, (hR67.2.2.2.2 j 6 (by decide)).2⟩)
        refine lv_aload_n hx hb dX5_row_101 rfl (lv_at hl 1 rfl) ?_
        refine va_get (D := (dC, dI)) (ci := 5) (v := .ref (o 2)) (C := RX5) (T := TX5) (N := 16) hx hb hts kt_X5 hown hK hP 0 rfl rfl 11 (by decide) (kx_word hG kq_19_xouts_27 rfl) (fun _ h9 => h9) rfl dX5_row_102 ?_
        have hxi_69 : 0 ≤ z_61 2 ∧ z_61 2 ≤ ((n_60 2 : Nat) : Int) ∧ ((n_60 2 : Nat) : Int) ≤ 80 := hok67.1 2 (by decide)
        have hPc := hP.sub (ws' := (iU cI 80 (o 2) (r_59 2) (n_60 2) (z_61 2) (F_62 2))) [6, 7] rfl
        refine xk_pure (va_runV (As := []) (rest := []) ⟨hx, hb, hml, hown, hts⟩ (x_size l dC dI cI cB cE 80 (o 2) (r_59 2) (n_60 2) (z_61 2) (F_62 2)  H.size ) (cwV 0 hts (kx_gV kq_18_xrows_40 kq_15_xspan_10 kq_15_xspan_11 kq_13_xints_6 kq_15_xspan_12 rfl) rfl rfl rfl (by decide +kernel) ⟨Nat.le_of_ble_eq_true rfl, Nat.le_of_ble_eq_true rfl⟩) ⟨pPre_blind, va_recv hK hPc (ci := 1) (q0 := 0) rfl rfl, pPre_give hPc hK hG⟩ rfl rfl hl.1 rfl (lv_room (Nat.le_of_ble_eq_true rfl)) dX5_row_105 ⟨show ((0 + dn_4) + dn_57) + 0 ≤ 1200 from (by omega), show ((0 + dm_5) + dm_58) + 0 ≤ 600000 from (by omega)⟩) hS (fun z_71 locs hq_70 hS => ?_)
        refine W.eq (g2 := F0 m 108 ls [.int (iz z_71)]) rfl ?_
        try dsimp only at hq_70
        have hq_70 := hq_70.symm
        subst hq_70
        refine vx_ret ?_
        exact xk_iret (ov := (fun u : (Int) × (Nat → Nat) × (Nat → Nat) × (Nat → Int) × (Nat → Int → Int) × (Nat → Nat → Nat) × (Nat → Nat → Nat) × (Nat → Nat → Int) × (Nat → Nat → Int → Int) => match u with | (q, r', n', z', F', Er', En', Ez', EF') => some (.int (iz q)))) (post := (fun (u : (Int) × (Nat → Nat) × (Nat → Nat) × (Nat → Int) × (Nat → Int → Int) × (Nat → Nat → Nat) × (Nat → Nat → Nat) × (Nat → Nat → Int) × (Nat → Nat → Int → Int)) (dn dm : Nat) => match u with | (q, r', n', z', F', Er', En', Ez', EF') => xR [0, 1, 2, 4, 5, 6, 7, 8, 9, 15, 16] [0, 1, 2, 4, 5, 6, 7, 8, 9] [10] [] N z F En Ez EF n' z' F' En' Ez' EF' ∧ (dn + xg n' ≤ xg n + 0 ∧ dm + xp n' ≤ xp n + 0) ∧ (rs_RK z' F' Ez' lv ab Wd cm ∧ lo_K z' F' Ez' EF'))) (ws := (fun u : (Int) × (Nat → Nat) × (Nat → Nat) × (Nat → Int) × (Nat → Int → Int) × (Nat → Nat → Nat) × (Nat → Nat → Nat) × (Nat → Nat → Int) × (Nat → Nat → Int → Int) => match u with | (q, r', n', z', F', Er', En', Ez', EF') => (xU cI cB cE o r' n' z' F' G (Eo 0 0) ++ eP cI N Eo Er' En' Ez' EF'))) (tys := xT cI cB cE) (z := z_61 2) (z_61 2, r_59, n_60, z_61, F_62, Er_63, En_64, Ez_65, EF_66) hx hb hr rfl hlocks rfl hP hD hK hS dX5_row_108 (fun dn dm hdn hdm => ⟨⟨hok67, hfr67, hPE67, hef67⟩, ⟨by omega, by omega⟩, ⟨hrk68, hck68⟩⟩) (by omega) (by omega)
      by_cases hsw_72 : p1 = 4
      · skip
        refine ki_is (show iz (p1) = iz 4 by rw [hsw_72]) ?_
        refine lv_tableIn (off := 72) (tgt := 109) hx hb dX5_row_37 (by decide) (by decide) (by decide) (by decide) ?_
        refine lv_aload_n hx hb dX5_row_109 rfl (lv_at hl 1 rfl) ?_
        refine lv_iload_n hx hb dX5_row_110 rfl (lv_at hl 0 rfl) ?_
        have hxz_73 : -2147483648 ≤ z_8 12 ∧ z_8 12 < 2147483648 := hok14.2.2.2.1 12
        have hxG9 : xG N (z_8 12) G Eo := ⟨by omega, by omega, by omega, fun e9 h9 => hN4 e9 (by omega)⟩
        have hP : va_P (dC, dI) kxCl (xU cI cB cE o r_6 n_7 z_8 F_9 G (Eo 0 0) ++ eP cI N Eo Er_10 En_11 Ez_12 EF_13) H := hP
        refine xk_pure (va_runV (As := [.int (iz (F_9 1 p0))]) (rest := []) ⟨hx, hb, hml, hown, hts⟩ (y_groupOf l dC dI cI cB cE o r_6 n_7 z_8 F_9 G N Eo Er_10 En_11 Ez_12 EF_13 (F_9 1 p0) H.size hok14 hxG9 hPE14 (by omega) (by omega)) (cwV 1 hts (kx_gV kq_21_xcalls_37 kq_21_xcalls_38 kq_21_xcalls_39 kq_18_xrows_4 kq_21_xcalls_40 rfl) rfl rfl rfl (by decide +kernel) ⟨Nat.le_of_ble_eq_true rfl, Nat.le_of_ble_eq_true rfl⟩) ⟨pPre_blind, va_recv hK hP (ci := 5) (q0 := 0) rfl rfl, pPre_give hP hK hG⟩ rfl rfl hl.1 rfl (lv_room (Nat.le_of_ble_eq_true rfl)) dX5_row_111 ⟨show (0 + dn_4) + 0 ≤ 1200 from (by omega), show (0 + dm_5) + 0 ≤ 600000 from (by omega)⟩) hS (fun z_75 locs hq_74 hS => ?_)
        refine W.eq (g2 := F0 m 114 ls [.int (iz z_75)]) rfl ?_
        try dsimp only at hq_74
        refine vx_ret ?_
        exact xk_iret (ov := (fun u : (Int) × (Nat → Nat) × (Nat → Nat) × (Nat → Int) × (Nat → Int → Int) × (Nat → Nat → Nat) × (Nat → Nat → Nat) × (Nat → Nat → Int) × (Nat → Nat → Int → Int) => match u with | (q, r', n', z', F', Er', En', Ez', EF') => some (.int (iz q)))) (post := (fun (u : (Int) × (Nat → Nat) × (Nat → Nat) × (Nat → Int) × (Nat → Int → Int) × (Nat → Nat → Nat) × (Nat → Nat → Nat) × (Nat → Nat → Int) × (Nat → Nat → Int → Int)) (dn dm : Nat) => match u with | (q, r', n', z', F', Er', En', Ez', EF') => xR [0, 1, 2, 4, 5, 6, 7, 8, 9, 15, 16] [0, 1, 2, 4, 5, 6, 7, 8, 9] [10] [] N z F En Ez EF n' z' F' En' Ez' EF' ∧ (dn + xg n' ≤ xg n + 0 ∧ dm + xp n' ≤ xp n + 0) ∧ (rs_RK z' F' Ez' lv ab Wd cm ∧ lo_K z' F' Ez' EF'))) (ws := (fun u : (Int) × (Nat → Nat) × (Nat → Nat) × (Nat → Int) × (Nat → Int → Int) × (Nat → Nat → Nat) × (Nat → Nat → Nat) × (Nat → Nat → Int) × (Nat → Nat → Int → Int) => match u with | (q, r', n', z', F', Er', En', Ez', EF') => (xU cI cB cE o r' n' z' F' G (Eo 0 0) ++ eP cI N Eo Er' En' Ez' EF'))) (tys := xT cI cB cE) (z := z_75) (z_75, r_6, n_7, z_8, F_9, Er_10, En_11, Ez_12, EF_13) hx hb hr rfl hlocks rfl hP hD hK hS dX5_row_114 (fun dn dm hdn hdm => ⟨⟨hok14, hfr14, hPE14, hef14⟩, ⟨by omega, by omega⟩, ⟨hrk15, hck15⟩⟩) (by omega) (by omega)
      refine lv_tableOut (tgt := 115) hx hb dX5_row_37 (by rw [iz_toInt (by omega) (by omega)]; omega) (by decide) ?_
      exact ky_thr_IOB hx hb hlf hown hG hZ hS (hl.1.trans hml.symm) dX5_row_115 dX5_row_118 dX5_row_119 dX5_row_122 htab (Nat.le_of_ble_eq_true rfl) (Nat.le_of_ble_eq_true rfl) (show (0 + dn_4) + 1 ≤ 1200 from (by omega)) (show (0 + dm_5) + 6 ≤ 600000 from (by omega)) hlocks (⟨rfl, by first | trivial | omega⟩) (fun t hvm h1 h2 => ⟨(r_6, n_7, z_8, F_9, Er_10, En_11, Ez_12, EF_13), ⟨hok14, hfr14, hPE14, hef14⟩, ⟨hrk15, hck15⟩, hP.kept (fun k q hk => h2 q.1 (hP k q hk).lt), va_K.moved hvm hK, hD⟩) hS.2.2 (by omega) (by omega) (by omega) (by omega)
    · skip
      exact ky_thr_IOB hx hb hlf hown hG hZ hS (hl.1.trans hml.symm) dX5_row_19 dX5_row_22 dX5_row_23 dX5_row_26 htab (Nat.le_of_ble_eq_true rfl) (Nat.le_of_ble_eq_true rfl) (show (0 + dn_4) + 1 ≤ 1200 from (by omega)) (show (0 + dm_5) + 6 ≤ 600000 from (by omega)) hlocks (⟨rfl, by first | trivial | omega⟩) (fun t hvm h1 h2 => ⟨(r_6, n_7, z_8, F_9, Er_10, En_11, Ez_12, EF_13), ⟨hok14, hfr14, hPE14, hef14⟩, ⟨hrk15, hck15⟩, hP.kept (fun k q hk => h2 q.1 (hP k q hk).lt), va_K.moved hvm hK, hD⟩) hS.2.2 (by omega) (by omega) (by omega) (by omega)
set_option maxHeartbeats 4000000 in
set_option maxRecDepth 100000 in
theorem y_locator5 (l : Launch) (hlf : l.stackTraces = false) (dC : Nat → ClassId) (dI : Nat → Nat → Nat) (cI cB cE : ClassId) (o r n : Nat → Nat) (z : Nat → Int) (F : Nat → Int → Int) (G : Nat → Option Nat) (N : Nat) (Eo Er En : Nat → Nat → Nat) (Ez : Nat → Nat → Int) (EF : Nat → Nat → Int → Int) (p0 : Int) (p1 : Int) (p2 : Int) (lv : Int → Int) (ab : Int → Int) (Wd : Int → Int → Prop) (cm : Int → Int → Int) (sz : Nat) (hok : xOk n z F) (hxG : xG N (z 12) G Eo) (hPE : eA N En Ez EF) (hp01 : -2147483648 ≤ p0) (hp02 : p0 < 2147483648) (hp11 : -2147483648 ≤ p1) (hp12 : p1 < 2147483648) (hp21 : -2147483648 ≤ p2) (hp22 : p2 < 2147483648) (hRH : rs_H (z 12) Ez EF lv ab Wd cm) (h79 : z 12 ≤ 78) (hkn : rs_RK z F Ez lv ab Wd cm) (lH : lo_H (z 12) Ez EF) (hck : lo_K z F Ez EF) : vx_Met l yX5_locator [.code yX5_locator cX5_locator 5 (some .int)] ({ frames := 7, cells := 1200, slots := 600000, locals := 196 }) (va_Pc [.ref (o 15), .int (iz p0), .int (iz p1), .int (iz p2)] (kx_Pre dC dI (xU cI cB cE o r n z F G (Eo 0 0) ++ eP cI N Eo Er En Ez EF) (xT cI cB cE) sz)) (xQ (fun u : (Int) × (Nat → Nat) × (Nat → Nat) × (Nat → Int) × (Nat → Int → Int) × (Nat → Nat → Nat) × (Nat → Nat → Nat) × (Nat → Nat → Int) × (Nat → Nat → Int → Int) => match u with | (q, r', n', z', F', Er', En', Ez', EF') => some (.int (iz q))) (fun (u : (Int) × (Nat → Nat) × (Nat → Nat) × (Nat → Int) × (Nat → Int → Int) × (Nat → Nat → Nat) × (Nat → Nat → Nat) × (Nat → Nat → Int) × (Nat → Nat → Int → Int)) (dn dm : Nat) => match u with | (q, r', n', z', F', Er', En', Ez', EF') => xR [0, 1, 2, 4, 5, 6, 7, 8, 9, 15, 16] [0, 1, 2, 4, 5, 6, 7, 8, 9] [10] [] N z F En Ez EF n' z' F' En' Ez' EF' ∧ (dn + xg n' ≤ xg n + 0 ∧ dm + xp n' ≤ xp n + 0) ∧ (rs_RK z' F' Ez' lv ab Wd cm ∧ lo_K z' F' Ez' EF' ∧ z' 15 = 1 ∧ (0 ≤ p0 ∧ p0 < z' 1) ∧ z' 16 = F' 1 p0 ∧ (0 ≤ p1 ∧ p1 < z' 7) ∧ (0 ≤ p2 ∧ p2 ≤ 2) ∧ q = (if p2 = 0 then F' 7 p1 / 100000 else (if p2 = 1 then F' 7 p1 else F' 8 p1) % 100000))) (fun u t => kx_At dC dI (va_A (xU cI cB cE o r n z F G (Eo 0 0) ++ eP cI N Eo Er En Ez EF) sz) ((fun u : (Int) × (Nat → Nat) × (Nat → Nat) × (Nat → Int) × (Nat → Int → Int) × (Nat → Nat → Nat) × (Nat → Nat → Nat) × (Nat → Nat → Int) × (Nat → Nat → Int → Int) => match u with | (q, r', n', z', F', Er', En', Ez', EF') => (xU cI cB cE o r' n' z' F' G (Eo 0 0) ++ eP cI N Eo Er' En' Ez' EF')) u) (xT cI cB cE) t) (va_A (xU cI cB cE o r n z F G (Eo 0 0) ++ eP cI N Eo Er En Ez EF) sz)) (yX (fun E => (E = "java/lang/IndexOutOfBoundsException" ∧ (True))) 95 41800 (fun t => ∃ u : (Nat → Nat) × (Nat → Nat) × (Nat → Int) × (Nat → Int → Int) × (Nat → Nat → Nat) × (Nat → Nat → Nat) × (Nat → Nat → Int) × (Nat → Nat → Int → Int), match u with | (r', n', z', F', Er', En', Ez', EF') => xR [0, 1, 2, 4, 5, 6, 7, 8, 9, 15, 16] [0, 1, 2, 4, 5, 6, 7, 8, 9] [10] [] N z F En Ez EF n' z' F' En' Ez' EF' ∧ (rs_RK z' F' Ez' lv ab Wd cm ∧ lo_K z' F' Ez' EF' ∧ z' 15 = 1 ∧ (¬ (0 ≤ p0 ∧ p0 < z' 1) ∨ ((0 ≤ p0 ∧ p0 < z' 1) ∧ z' 16 = F' 1 p0 ∧ ¬ ((0 ≤ p1 ∧ p1 < z' 7) ∧ 0 ≤ p2 ∧ p2 ≤ 2)))) ∧ kx_At dC dI (va_A (xU cI cB cE o r n z F G (Eo 0 0) ++ eP cI N Eo Er En Ez EF) sz) (xU cI cB cE o r' n' z' F' G (Eo 0 0) ++ eP cI N Eo Er' En' Ez' EF') (xT cI cB cE) t) (va_A (xU cI cB cE o r n z F G (Eo 0 0) ++ eP cI N Eo Er En Ez EF) sz)) 1200 600000 (va_A (xU cI cB cE o r n z F G (Eo 0 0) ++ eP cI N Eo Er En Ez EF) sz) := by
  refine vx_ofW (cc := cX5_locator) (maxL := 5) (ret := (some .int)) (by decide) rfl ?_
  intro p e s m args below meth c s₁ B hml htab hv
  obtain ⟨rfl, hsz, hP, hK, hD0, hG, hZ⟩ := hv
  have hx := B.exec
  have hb := B.bytes
  have hr := B.returns
  have hts := kx_hts (a := ([.ref (o 15), .int (iz p0), .int (iz p1), .int (iz p2)] : List Value).toArray) hG
  have hown : s.vm.findClass RX5 = some m.cls := findClass_of_methodNamed B.named
  have hlocks := B.notSynchronized
  subst hsz
  have hD := hD0.self (sz := s.heap.size)
  generalize hAe : va_A (xU cI cB cE o r n z F G (Eo 0 0) ++ eP cI N Eo Er En Ez EF) s.heap.size = A at hD hZ ⊢
  have hA : ∀ q : Nat, s.heap.size ≤ q → A q := fun q h => by rw [← hAe]; exact Or.inr h
  have hS : va_S A s.heap s.heap [] := va_S.rf
  have hl := lv_entry ([.ref (o 15), .int (iz p0), .int (iz p1), .int (iz p2)]) (n := 5) (Nat.le_of_ble_eq_true rfl)
  rw [lg_entry_eq]
  generalize (lg_sl ([.ref (o 15), .int (iz p0), .int (iz p1), .int (iz p2)]) ++ List.replicate (5 - (lg_sl ([.ref (o 15), .int (iz p0), .int (iz p1), .int (iz p2)])).length) Slot.unset).toArray = ls at hl ⊢
  obtain ⟨hN1, hN2, hN3, hN4⟩ := hxG
  have hef : eFr [10] [] En Ez EF En Ez EF := eFr.rf
  have hfr : xFr [0, 1, 2, 4, 5, 6, 7, 8, 9, 15, 16] [0, 1, 2, 4, 5, 6, 7, 8, 9] z F z F := xFr.rf
  have hxgl := xg_le n
  have hxpl := xp_le n
  have hl : lv_has ls 5 [(0, .ref (o 15)), (1, .int (iz p0)), (2, .int (iz p1)), (3, .int (iz p2))] := hl
  refine lv_aload_n hx hb dX5_locator_0 rfl (lv_at hl 0 rfl) ?_
  have hxz_1 : -2147483648 ≤ z 12 ∧ z 12 < 2147483648 := hok.2.2.2.1 12
  have hxG9 : xG N (z 12) G Eo := ⟨by omega, by omega, by omega, fun e9 h9 => hN4 e9 (by omega)⟩
  have hP : va_P (dC, dI) kxCl (xU cI cB cE o r n z F G (Eo 0 0) ++ eP cI N Eo Er En Ez EF) s.heap := hP
  have hD : va_D A (xU cI cB cE o r n z F G (Eo 0 0) ++ eP cI N Eo Er En Ez EF) := hD
  have hFc := xw_free hD hS hA
  refine xk_call (va_runV (As := []) (rest := []) ⟨hx, hb, hml, hown, hts⟩ (y_findRows2 l dC dI cI cB cE o r n z F G N Eo Er En Ez EF lv ab Wd cm s.heap.size hok hxG9 hPE (by first | exact hRH | exact hRH.fr hef (by decide) (by decide)) (show z 12 ≤ 78 by omega) hkn) (cwV 0 hts (kx_gV kq_21_xcalls_25 kq_21_xcalls_26 kq_21_xcalls_27 kq_18_xrows_4 kq_21_xcalls_28 rfl) rfl rfl rfl (by decide +kernel) ⟨Nat.le_of_ble_eq_true rfl, Nat.le_of_ble_eq_true rfl⟩) ⟨kx_blind, va_recv hK hP (ci := 5) (q0 := 0) rfl rfl, kx_give (ws := []) (tys := []) hP hD hK hG hZ hS hFc⟩ rfl rfl hl.1 rfl (lv_room (Nat.le_of_ble_eq_true rfl)) dX5_locator_1 ⟨show 0 + 600 ≤ 1200 from (by omega), show 0 + 300000 ≤ 600000 from (by omega)⟩) hS (fun q _ h => hFc q h) hFc (fun u dn_4 dm_5 t H locs ht hvm hq_2 hB hk1 hS => ?_)
  obtain ⟨r_6, n_7, z_8, F_9, Er_10, En_11, Ez_12, EF_13⟩ := u
  obtain ⟨hP, hK1, hD1⟩ := hB
  rw [ht] at hP
  have hD := hD1.weaken (fun _ q _ h => hFc _ h)
  obtain ⟨hR14, hC14, hq_2⟩ := hq_2
  have hok14 := hR14.1
  have hfr14 := hfr.tr (hR14.2.1.mono (S' := [0, 1, 2, 4, 5, 6, 7, 8, 9, 15, 16]) (T' := [0, 1, 2, 4, 5, 6, 7, 8, 9]) (by decide) (by decide))
  have hPE14 := hR14.2.2.1
  have hef14 := hef.tr (hR14.2.2.2.mono (S' := [10]) (T' := []) (by decide) (by decide))
  have hz14 : z_8 12 = (z 12) := hR14.2.1.1 12 (by decide)
  refine W.eq (g2 := F0 m 4 ls []) rfl ?_
  try dsimp only at hq_2
  obtain ⟨hk1515, hrr15⟩ := hq_2
  have hrk15 : rs_RK z_8 F_9 Ez_12 lv ab Wd cm := fun _ => hrr15
  have hck15 : lo_K z_8 F_9 Ez_12 EF_13 := lo_K.find hck hkn hRH.1.1 hRH.1.2.1 hrr15 hk1515 (hR14.2.1.1 16 (by decide)) (hR14.2.1.1 12 (by decide)) (hR14.2.1.1 7 (by decide)) (hR14.2.1.1 8 (by decide)) (hR14.2.1.1 9 (by decide)) (hR14.2.1.2 7 (by decide)) (hR14.2.1.2 8 (by decide)) (fun j => hR14.2.2.2.1 j 4 (by decide)) (fun j => ⟨(hR14.2.2.2.2 j 4 (by decide)).2, (hR14.2.2.2.2 j 5 (by decide)).2, (hR14.2.2.2.2 j 6 (by decide)).2⟩)
  have lH15 : lo_H (z 12) Ez_12 EF_13 := lo_H.fr lH hef14 (by decide) (by decide)
  have hz1215 : z_8 12 = z 12 := by omega
  refine lv_iload_n hx hb dX5_locator_4 rfl (lv_at hl 1 rfl) ?_
  refine ki_if_lt (tgt := 19) hx hb dX5_locator_5 (by decide) (by omega) (by omega) (fun c_16 => ?_) (fun c_16 => ?_)
  · skip
    exact ky_thr_IOB hx hb hlf hown hG hZ hS (hl.1.trans hml.symm) dX5_locator_19 dX5_locator_22 dX5_locator_23 dX5_locator_26 htab (Nat.le_of_ble_eq_true rfl) (Nat.le_of_ble_eq_true rfl) (show (0 + dn_4) + 1 ≤ 1200 from (by omega)) (show (0 + dm_5) + 6 ≤ 600000 from (by omega)) hlocks (⟨rfl, by first | trivial | omega⟩) (fun t hvm h1 h2 => ⟨(r_6, n_7, z_8, F_9, Er_10, En_11, Ez_12, EF_13), ⟨hok14, hfr14, hPE14, hef14⟩, ⟨hrk15, hck15, by omega, Or.inl (by omega)⟩, hP.kept (fun k q hk => h2 q.1 (hP k q hk).lt), va_K.moved hvm hK, hD⟩) hS.2.2 (by omega) (by omega) (by omega) (by omega)
  · skip
    refine lv_iload_n hx hb dX5_locator_8 rfl (lv_at hl 1 rfl) ?_
    refine lv_aload_n hx hb dX5_locator_9 rfl (lv_at hl 0 rfl) ?_
    refine va_get (D := (dC, dI)) (ci := 5) (v := .ref (o 1)) (C := RX5) (T := TX5) (N := 16) hx hb hts kt_X5 hown hK hP 0 rfl rfl 6 (by decide) (kx_word hG kq_18_xrows_47 rfl) (fun _ h9 => h9) rfl dX5_locator_10 ?_
    have hxi_17 : 0 ≤ z_8 1 ∧ z_8 1 ≤ ((n_7 1 : Nat) : Int) ∧ ((n_7 1 : Nat) : Int) ≤ 80 := hok14.1 1 (by decide)
    have hPc := hP.sub (ws' := (iU cI 80 (o 1) (r_6 1) (n_7 1) (z_8 1) (F_9 1))) [4, 5] rfl
    refine xk_pure (va_runV (As := []) (rest := [.int (iz p0)]) ⟨hx, hb, hml, hown, hts⟩ (x_size l dC dI cI cB cE 80 (o 1) (r_6 1) (n_7 1) (z_8 1) (F_9 1)  H.size ) (cwV 0 hts (kx_gV kq_18_xrows_40 kq_15_xspan_10 kq_15_xspan_11 kq_13_xints_6 kq_15_xspan_12 rfl) rfl rfl rfl (by decide +kernel) ⟨Nat.le_of_ble_eq_true rfl, Nat.le_of_ble_eq_true rfl⟩) ⟨pPre_blind, va_recv hK hPc (ci := 1) (q0 := 0) rfl rfl, pPre_give hPc hK hG⟩ rfl rfl hl.1 rfl (lv_room (Nat.le_of_ble_eq_true rfl)) dX5_locator_13 ⟨show (0 + dn_4) + 0 ≤ 1200 from (by omega), show (0 + dm_5) + 0 ≤ 600000 from (by omega)⟩) hS (fun z_19 locs hq_18 hS => ?_)
    refine W.eq (g2 := F0 m 16 ls [.int (iz z_19), .int (iz p0)]) rfl ?_
    try dsimp only at hq_18
    have hq_18 := hq_18.symm
    subst hq_18
    refine ki_icmp_lt (tgt := 27) hx hb dX5_locator_16 (by decide) (by omega) (by omega) (by omega) (by omega) (fun c_20 => ?_) (fun c_20 => ?_)
    · skip
      refine lv_aload_n hx hb dX5_locator_27 rfl (lv_at hl 0 rfl) ?_
      refine lv_aload_n hx hb dX5_locator_28 rfl (lv_at hl 0 rfl) ?_
      refine va_get (D := (dC, dI)) (ci := 5) (v := .ref (o 1)) (C := RX5) (T := TX5) (N := 16) hx hb hts kt_X5 hown hK hP 0 rfl rfl 6 (by decide) (kx_word hG kq_18_xrows_47 rfl) (fun _ h9 => h9) rfl dX5_locator_29 ?_
      refine lv_iload_n hx hb dX5_locator_32 rfl (lv_at hl 1 rfl) ?_
      have hPc := hP.sub (ws' := (iU cI 80 (o 1) (r_6 1) (n_7 1) (z_8 1) (F_9 1))) [4, 5] rfl
      refine xk_pure (va_runV (As := [.int (iz p0)]) (rest := [.ref (o 15)]) ⟨hx, hb, hml, hown, hts⟩ (x_get l dC dI cI cB cE 80 (o 1) (r_6 1) (n_7 1) (z_8 1) (F_9 1) p0 H.size (by omega) (hok14.2.2.1 1) (by omega) (by omega)) (cwV 1 hts (kx_gV kq_18_xrows_41 kq_13_xints_4 kq_13_xints_5 kq_13_xints_6 kq_13_xints_7 rfl) rfl rfl rfl (by decide +kernel) ⟨Nat.le_of_ble_eq_true rfl, Nat.le_of_ble_eq_true rfl⟩) ⟨pPre_blind, va_recv hK hPc (ci := 1) (q0 := 0) rfl rfl, pPre_give hPc hK hG⟩ rfl rfl hl.1 rfl (lv_room (Nat.le_of_ble_eq_true rfl)) dX5_locator_33 ⟨show (0 + dn_4) + 0 ≤ 1200 from (by omega), show (0 + dm_5) + 0 ≤ 600000 from (by omega)⟩) hS (fun z_22 locs hq_21 hS => ?_)
      refine W.eq (g2 := F0 m 36 ls [.int (iz z_22), .ref (o 15)]) rfl ?_
      try dsimp only at hq_21
      have eg_23 : z_22 = F_9 1 p0 := by omega
      subst eg_23
      refine W.eq (g2 := F0 m 36 ls [.int (iz (F_9 1 p0)), .ref (o 15)]) rfl ?_
      have hRrhme_24 := hrk15 (by omega)
      have hme_24 := (hRrhme_24.2.2 (F_9 1 p0)).mp ⟨p0, by omega, by omega, rfl⟩
      have hxz_25 : -2147483648 ≤ z_8 12 ∧ z_8 12 < 2147483648 := hok14.2.2.2.1 12
      have hxG9 : xG N (z_8 12) G Eo := ⟨by omega, by omega, by omega, fun e9 h9 => hN4 e9 (by omega)⟩
      have hP : va_P (dC, dI) kxCl (xU cI cB cE o r_6 n_7 z_8 F_9 G (Eo 0 0) ++ eP cI N Eo Er_10 En_11 Ez_12 EF_13) H := hP
      have hD : va_D A (xU cI cB cE o r_6 n_7 z_8 F_9 G (Eo 0 0) ++ eP cI N Eo Er_10 En_11 Ez_12 EF_13) := hD
      have hFc := xw_free hD hS hA
      refine xk_call (va_runV (As := [.int (iz (F_9 1 p0))]) (rest := []) ⟨hx, hb, hml, hown, hts⟩ (y_findLocators2 l dC dI cI cB cE o r_6 n_7 z_8 F_9 G N Eo Er_10 En_11 Ez_12 EF_13 (F_9 1 p0) H.size hok14 hxG9 hPE14 (by omega) (by show ∀ e, 0 ≤ e → e < z_8 12 → 0 ≤ rs_sE Ez_12 e ∧ rs_sE Ez_12 e ≤ e; exact fun e a b => (hRrhme_24.1 e a b).1) (show z_8 12 ≤ 78 by omega) (by show lo_H (z_8 12) Ez_12 EF_13; rw [show z_8 12 = z 12 by omega]; exact lo_H.fr lH hef14 (by decide) (by decide)) (hck15.imp id (fun h9 => ⟨h9.2.1, h9.2.2⟩))) (cwV 1 hts (kx_gV kq_21_xcalls_29 kq_21_xcalls_30 kq_21_xcalls_31 kq_18_xrows_4 kq_21_xcalls_32 rfl) rfl rfl rfl (by decide +kernel) ⟨Nat.le_of_ble_eq_true rfl, Nat.le_of_ble_eq_true rfl⟩) ⟨kx_blind, va_recv hK hP (ci := 5) (q0 := 0) rfl rfl, kx_give (ws := []) (tys := []) hP hD hK hG hZ hS hFc⟩ rfl rfl hl.1 rfl (lv_room (Nat.le_of_ble_eq_true rfl)) dX5_locator_36 ⟨show (0 + dn_4) + 400 ≤ 1200 from (by omega), show (0 + dm_5) + 170000 ≤ 600000 from (by omega)⟩) hS (fun q _ h => hFc q h) hFc (fun u dn_28 dm_29 t H locs ht hvm hq_26 hB hk1 hS => ?_)
      obtain ⟨r_30, n_31, z_32, F_33, Er_34, En_35, Ez_36, EF_37⟩ := u
      obtain ⟨hP, hK1, hD1⟩ := hB
      rw [ht] at hP
      have hD := hD1.weaken (fun _ q _ h => hFc _ h)
      obtain ⟨hR38, hC38, hq_26⟩ := hq_26
      have hok38 := hR38.1
      have hfr38 := hfr14.tr (hR38.2.1.mono (S' := [0, 1, 2, 4, 5, 6, 7, 8, 9, 15, 16]) (T' := [0, 1, 2, 4, 5, 6, 7, 8, 9]) (by decide) (by decide))
      have hPE38 := hR38.2.2.1
      have hef38 := hef14.tr (hR38.2.2.2.mono (S' := [10]) (T' := []) (by decide) (by decide))
      have hz38 : z_32 12 = (z_8 12) := hR38.2.1.1 12 (by decide)
      have hkr38_15 : z_32 15 = z_8 15 := hR38.2.1.1 15 (by decide)
      have hkr38_1 : z_32 1 = z_8 1 := hR38.2.1.1 1 (by decide)
      refine W.eq (g2 := F0 m 39 ls []) rfl ?_
      try dsimp only at hq_26
      have hrk39 : rs_RK z_32 F_33 Ez_36 lv ab Wd cm := rs_RK.fr hrk15 (hR38.2.1.1 15 (by decide)) (hR38.2.1.1 12 (by decide)) (hR38.2.1.1 1 (by decide)) (hR38.2.1.2 1 (by decide)) (fun j => hR38.2.2.2.1 j 10 (by decide))
      obtain ⟨hl1639, hlz39, hlq39, hkp39⟩ := hq_26
      obtain ⟨rfl, rfl, rfl, rfl⟩ := hkp39
      have hck39 : lo_K z_32 F_33 Ez_12 EF_13 := Or.inr ⟨by omega, hlz39, (by rw [hl1639, show z_32 12 = z_8 12 by omega]; exact hlq39)⟩
      have hf139 : F_9 1 p0 = F_33 1 p0 := (congrFun (hR38.2.1.2 1 (by decide)) p0).symm
      have hzl39 : 0 ≤ z_32 7 ∧ z_32 7 ≤ ((n_31 7 : Nat) : Int) ∧ ((n_31 7 : Nat) : Int) ≤ 1600 := hok38.1 7 (by decide)
      have hbq39 := lo_Q_bd hlq39 (show lo_H (z_8 12) Ez_12 EF_13 by rw [show z_8 12 = z 12 by omega]; exact lH15)
      have hz1k39 : z_32 1 = z_8 1 := hR38.2.1.1 1 (by decide)
      refine lv_iload_n hx hb dX5_locator_39 rfl (lv_at hl 2 rfl) ?_
      refine ki_if_lt (tgt := 63) hx hb dX5_locator_40 (by decide) (by omega) (by omega) (fun c_40 => ?_) (fun c_40 => ?_)
      · skip
        exact ky_thr_IOB hx hb hlf hown hG hZ hS (hl.1.trans hml.symm) dX5_locator_63 dX5_locator_66 dX5_locator_67 dX5_locator_70 htab (Nat.le_of_ble_eq_true rfl) (Nat.le_of_ble_eq_true rfl) (show ((0 + dn_4) + dn_28) + 1 ≤ 1200 from (by omega)) (show ((0 + dm_5) + dm_29) + 6 ≤ 600000 from (by omega)) hlocks (⟨rfl, by first | trivial | omega⟩) (fun t hvm h1 h2 => ⟨(r_30, n_31, z_32, F_33, Er_10, En_11, Ez_12, EF_13), ⟨hok38, hfr38, hPE38, hef38⟩, ⟨hrk39, hck39, by omega, Or.inr ⟨by omega, (hl1639.trans hf139), by omega⟩⟩, hP.kept (fun k q hk => h2 q.1 (hP k q hk).lt), va_K.moved hvm hK, hD⟩) hS.2.2 (by omega) (by omega) (by omega) (by omega)
      · skip
        refine lv_iload_n hx hb dX5_locator_43 rfl (lv_at hl 2 rfl) ?_
        refine lv_aload_n hx hb dX5_locator_44 rfl (lv_at hl 0 rfl) ?_
        refine va_get (D := (dC, dI)) (ci := 5) (v := .ref (o 14)) (C := RX5) (T := TX5) (N := 16) hx hb hts kt_X5 hown hK hP 0 rfl rfl 9 (by decide) (kx_word hG kq_19_xouts_0 rfl) (fun _ h9 => h9) rfl dX5_locator_45 ?_
        have hxi_41 : 0 ≤ z_32 7 ∧ z_32 7 ≤ ((n_31 7 : Nat) : Int) ∧ ((n_31 7 : Nat) : Int) ≤ 1600 := hok38.1 7 (by decide)
        have hxi_42 : 0 ≤ z_32 8 ∧ z_32 8 ≤ ((n_31 8 : Nat) : Int) ∧ ((n_31 8 : Nat) : Int) ≤ 1600 := hok38.1 8 (by decide)
        have hxi_43 : 0 ≤ z_32 9 ∧ z_32 9 ≤ ((n_31 9 : Nat) : Int) ∧ ((n_31 9 : Nat) : Int) ≤ 1600 := hok38.1 9 (by decide)
        have hPc := hP.sub (ws' := (sU cI 1600 (o 14) (o 7) (o 8) (o 9) (r_30 7) (r_30 8) (r_30 9) (n_31 7) (n_31 8) (n_31 9) (z_32 7) (z_32 8) (z_32 9) (F_33 7) (F_33 8) (F_33 9))) [17, 18, 19, 20, 21, 22, 23] rfl
        refine xk_pure (va_runV (As := []) (rest := [.int (iz p1)]) ⟨hx, hb, hml, hown, hts⟩ (x_ssize l dC dI cI cB cE 1600 (o 14) (o 7) (o 8) (o 9) (r_30 7) (r_30 8) (r_30 9) (n_31 7) (n_31 8) (n_31 9) (z_32 7) (z_32 8) (z_32 9) (F_33 7) (F_33 8) (F_33 9)  H.size ) (cwV 0 hts (kx_gV kq_19_xouts_3 kq_15_xspan_51 kq_15_xspan_52 kq_15_xspan_53 kq_15_xspan_54 rfl) rfl rfl rfl (by decide +kernel) ⟨Nat.le_of_ble_eq_true rfl, Nat.le_of_ble_eq_true rfl⟩) ⟨pPre_blind, va_recv hK hPc (ci := 3) (q0 := 0) rfl rfl, pPre_give hPc hK hG⟩ rfl rfl hl.1 rfl (lv_room (Nat.le_of_ble_eq_true rfl)) dX5_locator_48 ⟨show ((0 + dn_4) + dn_28) + 0 ≤ 1200 from (by omega), show ((0 + dm_5) + dm_29) + 0 ≤ 600000 from (by omega)⟩) hS (fun z_45 locs hq_44 hS => ?_)
        refine W.eq (g2 := F0 m 51 ls [.int (iz z_45), .int (iz p1)]) rfl ?_
        try dsimp only at hq_44
        have hq_44 := hq_44.symm
        subst hq_44
        refine ki_icmp_ge (tgt := 63) hx hb dX5_locator_51 (by decide) (by omega) (by omega) (by omega) (by omega) (fun c_46 => ?_) (fun c_46 => ?_)
        · skip
          exact ky_thr_IOB hx hb hlf hown hG hZ hS (hl.1.trans hml.symm) dX5_locator_63 dX5_locator_66 dX5_locator_67 dX5_locator_70 htab (Nat.le_of_ble_eq_true rfl) (Nat.le_of_ble_eq_true rfl) (show ((0 + dn_4) + dn_28) + 1 ≤ 1200 from (by omega)) (show ((0 + dm_5) + dm_29) + 6 ≤ 600000 from (by omega)) hlocks (⟨rfl, by first | trivial | omega⟩) (fun t hvm h1 h2 => ⟨(r_30, n_31, z_32, F_33, Er_10, En_11, Ez_12, EF_13), ⟨hok38, hfr38, hPE38, hef38⟩, ⟨hrk39, hck39, by omega, Or.inr ⟨by omega, (hl1639.trans hf139), by omega⟩⟩, hP.kept (fun k q hk => h2 q.1 (hP k q hk).lt), va_K.moved hvm hK, hD⟩) hS.2.2 (by omega) (by omega) (by omega) (by omega)
        · skip
          refine lv_iload_n hx hb dX5_locator_54 rfl (lv_at hl 3 rfl) ?_
          refine ki_if_lt (tgt := 63) hx hb dX5_locator_55 (by decide) (by omega) (by omega) (fun c_47 => ?_) (fun c_47 => ?_)
          · skip
            exact ky_thr_IOB hx hb hlf hown hG hZ hS (hl.1.trans hml.symm) dX5_locator_63 dX5_locator_66 dX5_locator_67 dX5_locator_70 htab (Nat.le_of_ble_eq_true rfl) (Nat.le_of_ble_eq_true rfl) (show ((0 + dn_4) + dn_28) + 1 ≤ 1200 from (by omega)) (show ((0 + dm_5) + dm_29) + 6 ≤ 600000 from (by omega)) hlocks (⟨rfl, by first | trivial | omega⟩) (fun t hvm h1 h2 => ⟨(r_30, n_31, z_32, F_33, Er_10, En_11, Ez_12, EF_13), ⟨hok38, hfr38, hPE38, hef38⟩, ⟨hrk39, hck39, by omega, Or.inr ⟨by omega, (hl1639.trans hf139), by omega⟩⟩, hP.kept (fun k q hk => h2 q.1 (hP k q hk).lt), va_K.moved hvm hK, hD⟩) hS.2.2 (by omega) (by omega) (by omega) (by omega)
          · skip
            refine lv_iload_n hx hb dX5_locator_58 rfl (lv_at hl 3 rfl) ?_
            refine lv_iconst (v := iz 2) hx hb dX5_locator_59 (by decide) ?_
            refine ki_icmp_le (tgt := 71) hx hb dX5_locator_60 (by decide) (by omega) (by omega) (by omega) (by omega) (fun c_48 => ?_) (fun c_48 => ?_)
            · skip
              have hby39 := lo_pl_bd hbq39 (show 0 ≤ p1 by omega) (show p1 < z_32 7 by omega)
              have hby1 : 0 ≤ F_33 7 p1 ∧ F_33 7 p1 < 300000 := hby39.1
              have hby2 : 0 ≤ F_33 8 p1 ∧ F_33 8 p1 < 300000 := hby39.2
              refine lv_aload_n hx hb dX5_locator_71 rfl (lv_at hl 0 rfl) ?_
              refine va_get (D := (dC, dI)) (ci := 5) (v := .ref (o 14)) (C := RX5) (T := TX5) (N := 16) hx hb hts kt_X5 hown hK hP 0 rfl rfl 9 (by decide) (kx_word hG kq_19_xouts_0 rfl) (fun _ h9 => h9) rfl dX5_locator_72 ?_
              refine lv_iload_n hx hb dX5_locator_75 rfl (lv_at hl 2 rfl) ?_
              have hPc := hP.sub (ws' := (sU cI 1600 (o 14) (o 7) (o 8) (o 9) (r_30 7) (r_30 8) (r_30 9) (n_31 7) (n_31 8) (n_31 9) (z_32 7) (z_32 8) (z_32 9) (F_33 7) (F_33 8) (F_33 9))) [17, 18, 19, 20, 21, 22, 23] rfl
              refine xk_pure (va_runV (As := [.int (iz p1)]) (rest := []) ⟨hx, hb, hml, hown, hts⟩ (x_sfrom l dC dI cI cB cE 1600 (o 14) (o 7) (o 8) (o 9) (r_30 7) (r_30 8) (r_30 9) (n_31 7) (n_31 8) (n_31 9) (z_32 7) (z_32 8) (z_32 9) (F_33 7) (F_33 8) (F_33 9) p1 H.size (by omega) (hok38.2.2.1 7) (by omega) (hok38.2.2.1 8) (by omega) (hok38.2.2.1 9) (by omega) (by omega)) (cwV 1 hts (kx_gV kq_19_xouts_8 kq_15_xspan_56 kq_15_xspan_57 kq_15_xspan_53 kq_15_xspan_58 rfl) rfl rfl rfl (by decide +kernel) ⟨Nat.le_of_ble_eq_true rfl, Nat.le_of_ble_eq_true rfl⟩) ⟨pPre_blind, va_recv hK hPc (ci := 3) (q0 := 0) rfl rfl, pPre_give hPc hK hG⟩ rfl rfl hl.1 rfl (lv_room (Nat.le_of_ble_eq_true rfl)) dX5_locator_76 ⟨show ((0 + dn_4) + dn_28) + 0 ≤ 1200 from (by omega), show ((0 + dm_5) + dm_29) + 0 ≤ 600000 from (by omega)⟩) hS (fun z_50 locs hq_49 hS => ?_)
              refine W.eq (g2 := F0 m 79 ls [.int (iz z_50)]) rfl ?_
              try dsimp only at hq_49
              have eg_51 : z_50 = F_33 7 p1 := by omega
              subst eg_51
              refine W.eq (g2 := F0 m 79 ls [.int (iz (F_33 7 p1))]) rfl ?_
              replace hq_49 := fun (_ : Unit) => hq_49
              refine lv_istore (lv' := [(4, .int (iz (F_33 7 p1))), (0, .ref (o 15)), (1, .int (iz p0)), (2, .int (iz p1)), (3, .int (iz p2))]) hx hb dX5_locator_79 hl (by decide) rfl (fun ls hl => ?_)
              refine lv_iload_n hx hb dX5_locator_81 rfl (lv_at hl 4 rfl) ?_
              refine ki_if_ne (tgt := 91) hx hb dX5_locator_82 (by decide) (by omega) (by omega) (fun c_52 => ?_) (fun c_52 => ?_)
              · skip
                refine lv_iload_n hx hb dX5_locator_91 rfl (lv_at hl 4 rfl) ?_
                refine lv_iconst (v := iz 1) hx hb dX5_locator_92 (by decide) ?_
                refine ki_icmp_ne (tgt := 101) hx hb dX5_locator_93 (by decide) (by omega) (by omega) (by omega) (by omega) (fun c_53 => ?_) (fun c_53 => ?_)
                · skip
                  refine lv_aload_n hx hb dX5_locator_101 rfl (lv_at hl 1 rfl) ?_
                  refine va_get (D := (dC, dI)) (ci := 5) (v := .ref (o 14)) (C := RX5) (T := TX5) (N := 16) hx hb hts kt_X5 hown hK hP 0 rfl rfl 9 (by decide) (kx_word hG kq_19_xouts_0 rfl) (fun _ h9 => h9) rfl dX5_locator_102 ?_
                  refine lv_iload_n hx hb dX5_locator_105 rfl (lv_at hl 3 rfl) ?_
                  have hPc := hP.sub (ws' := (sU cI 1600 (o 14) (o 7) (o 8) (o 9) (r_30 7) (r_30 8) (r_30 9) (n_31 7) (n_31 8) (n_31 9) (z_32 7) (z_32 8) (z_32 9) (F_33 7) (F_33 8) (F_33 9))) [17, 18, 19, 20, 21, 22, 23] rfl
                  refine xk_pure (va_runV (As := [.int (iz p1)]) (rest := []) ⟨hx, hb, hml, hown, hts⟩ (x_sto l dC dI cI cB cE 1600 (o 14) (o 7) (o 8) (o 9) (r_30 7) (r_30 8) (r_30 9) (n_31 7) (n_31 8) (n_31 9) (z_32 7) (z_32 8) (z_32 9) (F_33 7) (F_33 8) (F_33 9) p1 H.size (by omega) (hok38.2.2.1 7) (by omega) (hok38.2.2.1 8) (by omega) (hok38.2.2.1 9) (by omega) (by omega)) (cwV 1 hts (kx_gV kq_19_xouts_9 kq_15_xspan_64 kq_15_xspan_65 kq_15_xspan_53 kq_15_xspan_66 rfl) rfl rfl rfl (by decide +kernel) ⟨Nat.le_of_ble_eq_true rfl, Nat.le_of_ble_eq_true rfl⟩) ⟨pPre_blind, va_recv hK hPc (ci := 3) (q0 := 0) rfl rfl, pPre_give hPc hK hG⟩ rfl rfl hl.1 rfl (lv_room (Nat.le_of_ble_eq_true rfl)) dX5_locator_106 ⟨show ((0 + dn_4) + dn_28) + 0 ≤ 1200 from (by omega), show ((0 + dm_5) + dm_29) + 0 ≤ 600000 from (by omega)⟩) hS (fun z_55 locs hq_54 hS => ?_)
                  refine W.eq (g2 := F0 m 109 ls [.int (iz z_55)]) rfl ?_
                  try dsimp only at hq_54
                  have eg_56 : z_55 = F_33 8 p1 := by omega
                  subst eg_56
                  refine W.eq (g2 := F0 m 109 ls [.int (iz (F_33 8 p1))]) rfl ?_
                  replace hq_54 := fun (_ : Unit) => hq_54
                  refine lv_ldc (v := 100000) hx hb hown (kx_word hG kq_19_xouts_55 rfl) dX5_locator_109 ?_
                  refine ki_is (show (100000 : Int32) = iz 100000 by decide) ?_
                  refine ki_irem hx hb dX5_locator_111 (by omega) (by omega) (by omega) (by omega) ?_
                  refine vx_ret ?_
                  exact xk_iret (ov := (fun u : (Int) × (Nat → Nat) × (Nat → Nat) × (Nat → Int) × (Nat → Int → Int) × (Nat → Nat → Nat) × (Nat → Nat → Nat) × (Nat → Nat → Int) × (Nat → Nat → Int → Int) => match u with | (q, r', n', z', F', Er', En', Ez', EF') => some (.int (iz q)))) (post := (fun (u : (Int) × (Nat → Nat) × (Nat → Nat) × (Nat → Int) × (Nat → Int → Int) × (Nat → Nat → Nat) × (Nat → Nat → Nat) × (Nat → Nat → Int) × (Nat → Nat → Int → Int)) (dn dm : Nat) => match u with | (q, r', n', z', F', Er', En', Ez', EF') => xR [0, 1, 2, 4, 5, 6, 7, 8, 9, 15, 16] [0, 1, 2, 4, 5, 6, 7, 8, 9] [10] [] N z F En Ez EF n' z' F' En' Ez' EF' ∧ (dn + xg n' ≤ xg n + 0 ∧ dm + xp n' ≤ xp n + 0) ∧ (rs_RK z' F' Ez' lv ab Wd cm ∧ lo_K z' F' Ez' EF' ∧ z' 15 = 1 ∧ (0 ≤ p0 ∧ p0 < z' 1) ∧ z' 16 = F' 1 p0 ∧ (0 ≤ p1 ∧ p1 < z' 7) ∧ (0 ≤ p2 ∧ p2 ≤ 2) ∧ q = (if p2 = 0 then F' 7 p1 / 100000 else (if p2 = 1 then F' 7 p1 else F' 8 p1) % 100000)))) (ws := (fun u : (Int) × (Nat → Nat) × (Nat → Nat) × (Nat → Int) × (Nat → Int → Int) × (Nat → Nat → Nat) × (Nat → Nat → Nat) × (Nat → Nat → Int) × (Nat → Nat → Int → Int) => match u with | (q, r', n', z', F', Er', En', Ez', EF') => (xU cI cB cE o r' n' z' F' G (Eo 0 0) ++ eP cI N Eo Er' En' Ez' EF'))) (tys := xT cI cB cE) (z := (F_33 8 p1) % 100000) ((F_33 8 p1) % 100000, r_30, n_31, z_32, F_33, Er_10, En_11, Ez_12, EF_13) hx hb hr rfl hlocks rfl hP hD hK hS dX5_locator_112 (fun dn dm hdn hdm => ⟨⟨hok38, hfr38, hPE38, hef38⟩, ⟨by omega, by omega⟩, ⟨hrk39, hck39, by omega, by omega, (hl1639.trans hf139), by omega, by omega, by first | (rw [if_pos (show p2 = 0 by omega)]) | (rw [if_neg (show ¬ p2 = 0 by omega), if_pos (show p2 = 1 by omega)]) | (rw [if_neg (show ¬ p2 = 0 by omega), if_neg (show ¬ p2 = 1 by omega)])⟩⟩) (by omega) (by omega)
                · skip
                  refine lv_iload hx hb dX5_locator_96 (lv_at hl 0 rfl) ?_
                  refine lv_goto (tgt := 109) hx hb dX5_locator_98 (by decide) ?_
                  refine lv_ldc (v := 100000) hx hb hown (kx_word hG kq_19_xouts_55 rfl) dX5_locator_109 ?_
                  refine ki_is (show (100000 : Int32) = iz 100000 by decide) ?_
                  refine ki_irem hx hb dX5_locator_111 (by omega) (by omega) (by omega) (by omega) ?_
                  refine vx_ret ?_
                  exact xk_iret (ov := (fun u : (Int) × (Nat → Nat) × (Nat → Nat) × (Nat → Int) × (Nat → Int → Int) × (Nat → Nat → Nat) × (Nat → Nat → Nat) × (Nat → Nat → Int) × (Nat → Nat → Int → Int) => match u with | (q, r', n', z', F', Er', En', Ez', EF') => some (.int (iz q)))) (post := (fun (u : (Int) × (Nat → Nat) × (Nat → Nat) × (Nat → Int) × (Nat → Int → Int) × (Nat → Nat → Nat) × (Nat → Nat → Nat) × (Nat → Nat → Int) × (Nat → Nat → Int → Int)) (dn dm : Nat) => match u with | (q, r', n', z', F', Er', En', Ez', EF') => xR [0, 1, 2, 4, 5, 6, 7, 8, 9, 15, 16] [0, 1, 2, 4, 5, 6, 7, 8, 9] [10] [] N z F En Ez EF n' z' F' En' Ez' EF' ∧ (dn + xg n' ≤ xg n + 0 ∧ dm + xp n' ≤ xp n + 0) ∧ (rs_RK z' F' Ez' lv ab Wd cm ∧ lo_K z' F' Ez' EF' ∧ z' 15 = 1 ∧ (0 ≤ p0 ∧ p0 < z' 1) ∧ z' 16 = F' 1 p0 ∧ (0 ≤ p1 ∧ p1 < z' 7) ∧ (0 ≤ p2 ∧ p2 ≤ 2) ∧ q = (if p2 = 0 then F' 7 p1 / 100000 else (if p2 = 1 then F' 7 p1 else F' 8 p1) % 100000)))) (ws := (fun u : (Int) × (Nat → Nat) × (Nat → Nat) × (Nat → Int) × (Nat → Int → Int) × (Nat → Nat → Nat) × (Nat → Nat → Nat) × (Nat → Nat → Int) × (Nat → Nat → Int → Int) => match u with | (q, r', n', z', F', Er', En', Ez', EF') => (xU cI cB cE o r' n' z' F' G (Eo 0 0) ++ eP cI N Eo Er' En' Ez' EF'))) (tys := xT cI cB cE) (z := (F_33 7 p1) % 100000) ((F_33 7 p1) % 100000, r_30, n_31, z_32, F_33, Er_10, En_11, Ez_12, EF_13) hx hb hr rfl hlocks rfl hP hD hK hS dX5_locator_112 (fun dn dm hdn hdm => ⟨⟨hok38, hfr38, hPE38, hef38⟩, ⟨by omega, by omega⟩, ⟨hrk39, hck39, by omega, by omega, (hl1639.trans hf139), by omega, by omega, by first | (rw [if_pos (show p2 = 0 by omega)]) | (rw [if_neg (show ¬ p2 = 0 by omega), if_pos (show p2 = 1 by omega)]) | (rw [if_neg (show ¬ p2 = 0 by omega), if_neg (show ¬ p2 = 1 by omega)])⟩⟩) (by omega) (by omega)
              · skip
                refine lv_iload hx hb dX5_locator_85 (lv_at hl 0 rfl) ?_
                refine lv_ldc (v := 100000) hx hb hown (kx_word hG kq_19_xouts_55 rfl) dX5_locator_87 ?_
                refine ki_is (show (100000 : Int32) = iz 100000 by decide) ?_
                refine ki_idiv hx hb dX5_locator_89 (by omega) (by omega) (by omega) (by omega) ?_
                refine vx_ret ?_
                exact xk_iret (ov := (fun u : (Int) × (Nat → Nat) × (Nat → Nat) × (Nat → Int) × (Nat → Int → Int) × (Nat → Nat → Nat) × (Nat → Nat → Nat) × (Nat → Nat → Int) × (Nat → Nat → Int → Int) => match u with | (q, r', n', z', F', Er', En', Ez', EF') => some (.int (iz q)))) (post := (fun (u : (Int) × (Nat → Nat) × (Nat → Nat) × (Nat → Int) × (Nat → Int → Int) × (Nat → Nat → Nat) × (Nat → Nat → Nat) × (Nat → Nat → Int) × (Nat → Nat → Int → Int)) (dn dm : Nat) => match u with | (q, r', n', z', F', Er', En', Ez', EF') => xR [0, 1, 2, 4, 5, 6, 7, 8, 9, 15, 16] [0, 1, 2, 4, 5, 6, 7, 8, 9] [10] [] N z F En Ez EF n' z' F' En' Ez' EF' ∧ (dn + xg n' ≤ xg n + 0 ∧ dm + xp n' ≤ xp n + 0) ∧ (rs_RK z' F' Ez' lv ab Wd cm ∧ lo_K z' F' Ez' EF' ∧ z' 15 = 1 ∧ (0 ≤ p0 ∧ p0 < z' 1) ∧ z' 16 = F' 1 p0 ∧ (0 ≤ p1 ∧ p1 < z' 7) ∧ (0 ≤ p2 ∧ p2 ≤ 2) ∧ q = (if p2 = 0 then F' 7 p1 / 100000 else (if p2 = 1 then F' 7 p1 else F' 8 p1) % 100000)))) (ws := (fun u : (Int) × (Nat → Nat) × (Nat → Nat) × (Nat → Int) × (Nat → Int → Int) × (Nat → Nat → Nat) × (Nat → Nat → Nat) × (Nat → Nat → Int) × (Nat → Nat → Int → Int) => match u with | (q, r', n', z', F', Er', En', Ez', EF') => (xU cI cB cE o r' n' z' F' G (Eo 0 0) ++ eP cI N Eo Er' En' Ez' EF'))) (tys := xT cI cB cE) (z := (F_33 7 p1) / 100000) ((F_33 7 p1) / 100000, r_30, n_31, z_32, F_33, Er_10, En_11, Ez_12, EF_13) hx hb hr rfl hlocks rfl hP hD hK hS dX5_locator_90 (fun dn dm hdn hdm => ⟨⟨hok38, hfr38, hPE38, hef38⟩, ⟨by omega, by omega⟩, ⟨hrk39, hck39, by omega, by omega, (hl1639.trans hf139), by omega, by omega, by first | (rw [if_pos (show p2 = 0 by omega)]) | (rw [if_neg (show ¬ p2 = 0 by omega), if_pos (show p2 = 1 by omega)]) | (rw [if_neg (show ¬ p2 = 0 by omega), if_neg (show ¬ p2 = 1 by omega)])⟩⟩) (by omega) (by omega)
            · skip
              exact ky_thr_IOB hx hb hlf hown hG hZ hS (hl.1.trans hml.symm) dX5_locator_63 dX5_locator_66 dX5_locator_67 dX5_locator_70 htab (Nat.le_of_ble_eq_true rfl) (Nat.le_of_ble_eq_true rfl) (show ((0 + dn_4) + dn_28) + 1 ≤ 1200 from (by omega)) (show ((0 + dm_5) + dm_29) + 6 ≤ 600000 from (by omega)) hlocks (⟨rfl, by first | trivial | omega⟩) (fun t hvm h1 h2 => ⟨(r_30, n_31, z_32, F_33, Er_10, En_11, Ez_12, EF_13), ⟨hok38, hfr38, hPE38, hef38⟩, ⟨hrk39, hck39, by omega, Or.inr ⟨by omega, (hl1639.trans hf139), by omega⟩⟩, hP.kept (fun k q hk => h2 q.1 (hP k q hk).lt), va_K.moved hvm hK, hD⟩) hS.2.2 (by omega) (by omega) (by omega) (by omega)
    · skip
      exact ky_thr_IOB hx hb hlf hown hG hZ hS (hl.1.trans hml.symm) dX5_locator_19 dX5_locator_22 dX5_locator_23 dX5_locator_26 htab (Nat.le_of_ble_eq_true rfl) (Nat.le_of_ble_eq_true rfl) (show (0 + dn_4) + 1 ≤ 1200 from (by omega)) (show (0 + dm_5) + 6 ≤ 600000 from (by omega)) hlocks (⟨rfl, by first | trivial | omega⟩) (fun t hvm h1 h2 => ⟨(r_6, n_7, z_8, F_9, Er_10, En_11, Ez_12, EF_13), ⟨hok14, hfr14, hPE14, hef14⟩, ⟨hrk15, hck15, by omega, Or.inl (by omega)⟩, hP.kept (fun k q hk => h2 q.1 (hP k q hk).lt), va_K.moved hvm hK, hD⟩) hS.2.2 (by omega) (by omega) (by omega) (by omega)
set_option maxHeartbeats 4000000 in
set_option maxRecDepth 100000 in
theorem y_print5 (l : Launch) (hlf : l.stackTraces = false) (dC : Nat → ClassId) (dI : Nat → Nat → Nat) (cI cB cE : ClassId) (o r n : Nat → Nat) (z : Nat → Int) (F : Nat → Int → Int) (G : Nat → Option Nat) (N : Nat) (Eo Er En : Nat → Nat → Nat) (Ez : Nat → Nat → Int) (EF : Nat → Nat → Int → Int) (lv : Int → Int) (ab : Int → Int) (Wd : Int → Int → Prop) (cm : Int → Int → Int) (sz : Nat) (hok : xOk n z F) (hxG : xG N (z 12) G Eo) (hPE : eA N En Ez EF) (hRH : rs_H (z 12) Ez EF lv ab Wd cm) (h79 : z 12 ≤ 78) (hkn : rs_RK z F Ez lv ab Wd cm) (lH : lo_H (z 12) Ez EF) (hck : lo_K z F Ez EF) : vx_Met l yX5_print [.code yX5_print cX5_print 7 (some .int)] ({ frames := 7, cells := 1200, slots := 600000, locals := 196 }) (va_Pc [.ref (o 15)] (kx_Pre dC dI (xU cI cB cE o r n z F G (Eo 0 0) ++ eP cI N Eo Er En Ez EF) (xT cI cB cE) sz)) (xQ (fun u : (Int) × (Nat → Nat) × (Nat → Nat) × (Nat → Nat) × (Nat → Int) × (Nat → Int → Int) × (Nat → Nat → Nat) × (Nat → Nat → Nat) × (Nat → Nat → Int) × (Nat → Nat → Int → Int) => match u with | (q, o', r', n', z', F', Er', En', Ez', EF') => some (.int (iz q))) (fun (u : (Int) × (Nat → Nat) × (Nat → Nat) × (Nat → Nat) × (Nat → Int) × (Nat → Int → Int) × (Nat → Nat → Nat) × (Nat → Nat → Nat) × (Nat → Nat → Int) × (Nat → Nat → Int → Int)) (dn dm : Nat) => match u with | (q, o', r', n', z', F', Er', En', Ez', EF') => xR [0, 1, 2, 4, 5, 6, 7, 8, 9, 10, 11, 15, 16, 22, 23] [0, 1, 2, 4, 5, 6, 7, 8, 9, 10, 11] [10] [] N z F En Ez EF n' z' F' En' Ez' EF' ∧ (dn + xg n' ≤ xg n + 0 ∧ dm + xp n' ≤ xp n + 0) ∧ ((∀ k, k ≠ 10 → k ≠ 11 → o' k = o k) ∧ rs_RK z' F' Ez' lv ab Wd cm ∧ lo_K z' F' Ez' EF')) (fun u t => kx_At dC dI (va_A (xU cI cB cE o r n z F G (Eo 0 0) ++ eP cI N Eo Er En Ez EF) sz) ((fun u : (Int) × (Nat → Nat) × (Nat → Nat) × (Nat → Nat) × (Nat → Int) × (Nat → Int → Int) × (Nat → Nat → Nat) × (Nat → Nat → Nat) × (Nat → Nat → Int) × (Nat → Nat → Int → Int) => match u with | (q, o', r', n', z', F', Er', En', Ez', EF') => (xU cI cB cE o' r' n' z' F' G (Eo 0 0) ++ eP cI N Eo Er' En' Ez' EF')) u) (xT cI cB cE) t) (va_A (xU cI cB cE o r n z F G (Eo 0 0) ++ eP cI N Eo Er En Ez EF) sz)) (yX (fun E => (E = "java/lang/UnsupportedOperationException" ∧ (True))) 100 42000 (fun t => ∃ u : (Nat → Nat) × (Nat → Nat) × (Nat → Int) × (Nat → Int → Int) × (Nat → Nat → Nat) × (Nat → Nat → Nat) × (Nat → Nat → Int) × (Nat → Nat → Int → Int), match u with | (r', n', z', F', Er', En', Ez', EF') => xR [0, 1, 2, 4, 5, 6, 7, 8, 9, 10, 11, 15, 16, 22, 23] [0, 1, 2, 4, 5, 6, 7, 8, 9, 10, 11] [10] [] N z F En Ez EF n' z' F' En' Ez' EF' ∧ (rs_RK z' F' Ez' lv ab Wd cm ∧ lo_K z' F' Ez' EF') ∧ kx_At dC dI (va_A (xU cI cB cE o r n z F G (Eo 0 0) ++ eP cI N Eo Er En Ez EF) sz) (xU cI cB cE o r' n' z' F' G (Eo 0 0) ++ eP cI N Eo Er' En' Ez' EF') (xT cI cB cE) t) (va_A (xU cI cB cE o r n z F G (Eo 0 0) ++ eP cI N Eo Er En Ez EF) sz)) 1200 600000 (va_A (xU cI cB cE o r n z F G (Eo 0 0) ++ eP cI N Eo Er En Ez EF) sz) := by
  refine vx_ofW (cc := cX5_print) (maxL := 7) (ret := (some .int)) (by decide) rfl ?_
  intro p e s m args below meth c s₁ B hml htab hv
  obtain ⟨rfl, hsz, hP, hK, hD0, hG, hZ⟩ := hv
  have hx := B.exec
  have hb := B.bytes
  have hr := B.returns
  have hts := kx_hts (a := ([.ref (o 15)] : List Value).toArray) hG
  have hown : s.vm.findClass RX5 = some m.cls := findClass_of_methodNamed B.named
  have hlocks := B.notSynchronized
  subst hsz
  have hD := hD0.self (sz := s.heap.size)
  generalize hAe : va_A (xU cI cB cE o r n z F G (Eo 0 0) ++ eP cI N Eo Er En Ez EF) s.heap.size = A at hD hZ ⊢
  have hA : ∀ q : Nat, s.heap.size ≤ q → A q := fun q h => by rw [← hAe]; exact Or.inr h
  have hS : va_S A s.heap s.heap [] := va_S.rf
  have hl := lv_entry ([.ref (o 15)]) (n := 7) (Nat.le_of_ble_eq_true rfl)
  rw [lg_entry_eq]
  generalize (lg_sl ([.ref (o 15)]) ++ List.replicate (7 - (lg_sl ([.ref (o 15)])).length) Slot.unset).toArray = ls at hl ⊢
  obtain ⟨hN1, hN2, hN3, hN4⟩ := hxG
  have hef : eFr [10] [] En Ez EF En Ez EF := eFr.rf
  have hfr : xFr [0, 1, 2, 4, 5, 6, 7, 8, 9, 10, 11, 15, 16, 22, 23] [0, 1, 2, 4, 5, 6, 7, 8, 9, 10, 11] z F z F := xFr.rf
  have hxgl := xg_le n
  have hxpl := xp_le n
  have hl : lv_has ls 7 [(0, .ref (o 15))] := hl
  generalize hQe : vx_MQ below (xQ (fun u : (Int) × (Nat → Nat) × (Nat → Nat) × (Nat → Nat) × (Nat → Int) × (Nat → Int → Int) × (Nat → Nat → Nat) × (Nat → Nat → Nat) × (Nat → Nat → Int) × (Nat → Nat → Int → Int) => match u with | (q, o', r', n', z', F', Er', En', Ez', EF') => some (.int (iz q))) (fun (u : (Int) × (Nat → Nat) × (Nat → Nat) × (Nat → Nat) × (Nat → Int) × (Nat → Int → Int) × (Nat → Nat → Nat) × (Nat → Nat → Nat) × (Nat → Nat → Int) × (Nat → Nat → Int → Int)) (dn dm : Nat) => match u with | (q, o', r', n', z', F', Er', En', Ez', EF') => xR [0, 1, 2, 4, 5, 6, 7, 8, 9, 10, 11, 15, 16, 22, 23] [0, 1, 2, 4, 5, 6, 7, 8, 9, 10, 11] [10] [] N z F En Ez EF n' z' F' En' Ez' EF' ∧ (dn + xg n' ≤ xg n + 0 ∧ dm + xp n' ≤ xp n + 0) ∧ ((∀ k, k ≠ 10 → k ≠ 11 → o' k = o k) ∧ rs_RK z' F' Ez' lv ab Wd cm ∧ lo_K z' F' Ez' EF')) (fun u t => kx_At dC dI A ((fun u : (Int) × (Nat → Nat) × (Nat → Nat) × (Nat → Nat) × (Nat → Int) × (Nat → Int → Int) × (Nat → Nat → Nat) × (Nat → Nat → Nat) × (Nat → Nat → Int) × (Nat → Nat → Int → Int) => match u with | (q, o', r', n', z', F', Er', En', Ez', EF') => (xU cI cB cE o' r' n' z' F' G (Eo 0 0) ++ eP cI N Eo Er' En' Ez' EF')) u) (xT cI cB cE) t) A) (yX (fun E => (E = "java/lang/UnsupportedOperationException" ∧ (True))) 100 42000 (fun t => ∃ u : (Nat → Nat) × (Nat → Nat) × (Nat → Int) × (Nat → Int → Int) × (Nat → Nat → Nat) × (Nat → Nat → Nat) × (Nat → Nat → Int) × (Nat → Nat → Int → Int), match u with | (r', n', z', F', Er', En', Ez', EF') => xR [0, 1, 2, 4, 5, 6, 7, 8, 9, 10, 11, 15, 16, 22, 23] [0, 1, 2, 4, 5, 6, 7, 8, 9, 10, 11] [10] [] N z F En Ez EF n' z' F' En' Ez' EF' ∧ (rs_RK z' F' Ez' lv ab Wd cm ∧ lo_K z' F' Ez' EF') ∧ kx_At dC dI A (xU cI cB cE o r' n' z' F' G (Eo 0 0) ++ eP cI N Eo Er' En' Ez' EF') (xT cI cB cE) t) A) ([.ref (o 15)] : List Value).toArray s 1200 600000 A = QQ
  refine lv_aload_n hx hb dX5_print_0 rfl (lv_at hl 0 rfl) ?_
  have hxz_1 : -2147483648 ≤ z 12 ∧ z 12 < 2147483648 := hok.2.2.2.1 12
  have hxG9 : xG N (z 12) G Eo := ⟨by omega, by omega, by omega, fun e9 h9 => hN4 e9 (by omega)⟩
  have hP : va_P (dC, dI) kxCl (xU cI cB cE o r n z F G (Eo 0 0) ++ eP cI N Eo Er En Ez EF) s.heap := hP
  refine xk_pure (va_runV (As := []) (rest := []) ⟨hx, hb, hml, hown, hts⟩ (y_firstFault l dC dI cI cB cE o r n z F G N Eo Er En Ez EF  s.heap.size hok hxG9 hPE ) (cwV 0 hts (kx_gV kq_24_xnew_0 kq_24_xnew_1 kq_24_xnew_2 kq_18_xrows_4 kq_24_xnew_3 rfl) rfl rfl rfl (by decide +kernel) ⟨Nat.le_of_ble_eq_true rfl, Nat.le_of_ble_eq_true rfl⟩) ⟨pPre_blind, va_recv hK hP (ci := 5) (q0 := 0) rfl rfl, pPre_give hP hK hG⟩ rfl rfl hl.1 rfl (lv_room (Nat.le_of_ble_eq_true rfl)) dX5_print_1 ⟨show 0 + 0 ≤ 1200 from (by omega), show 0 + 0 ≤ 600000 from (by omega)⟩) hS (fun z_3 locs hq_2 hS => ?_)
  refine W.eq (g2 := F0 m 4 ls [.int (iz z_3)]) rfl ?_
  try dsimp only at hq_2
  refine lv_istore_n (lv' := [(1, .int (iz z_3)), (0, .ref (o 15))]) hx hb dX5_print_4 rfl hl (by decide) rfl (fun ls hl => ?_)
  refine lv_iload_n hx hb dX5_print_5 rfl (lv_at hl 0 rfl) ?_
  refine ki_if_lt (tgt := 13) hx hb dX5_print_6 (by decide) (by omega) (by omega) (fun c_4 => ?_) (fun c_4 => ?_)
  · skip
    refine lv_aload_n hx hb dX5_print_13 rfl (lv_at hl 1 rfl) ?_
    have hxG9 : xG N (z 12) G Eo := ⟨by omega, by omega, by omega, fun e9 h9 => hN4 e9 (by omega)⟩
    have hP : va_P (dC, dI) kxCl (xU cI cB cE o r n z F G (Eo 0 0) ++ eP cI N Eo Er En Ez EF) s.heap := hP
    have hD : va_D A (xU cI cB cE o r n z F G (Eo 0 0) ++ eP cI N Eo Er En Ez EF) := hD
    have hFc := xw_free hD hS hA
    refine xk_call (va_runV (As := []) (rest := []) ⟨hx, hb, hml, hown, hts⟩ (y_findRows2 l dC dI cI cB cE o r n z F G N Eo Er En Ez EF lv ab Wd cm s.heap.size hok hxG9 hPE (by first | exact hRH | exact hRH.fr hef (by decide) (by decide)) (show z 12 ≤ 78 by omega) hkn) (cwV 0 hts (kx_gV kq_21_xcalls_25 kq_21_xcalls_26 kq_21_xcalls_27 kq_18_xrows_4 kq_21_xcalls_28 rfl) rfl rfl rfl (by decide +kernel) ⟨Nat.le_of_ble_eq_true rfl, Nat.le_of_ble_eq_true rfl⟩) ⟨kx_blind, va_recv hK hP (ci := 5) (q0 := 0) rfl rfl, kx_give (ws := []) (tys := []) hP hD hK hG hZ hS hFc⟩ rfl rfl hl.1 rfl (lv_room (Nat.le_of_ble_eq_true rfl)) dX5_print_14 ⟨show 0 + 600 ≤ 1200 from (by omega), show 0 + 300000 ≤ 600000 from (by omega)⟩) hS (fun q _ h => hFc q h) hFc (fun u dn_7 dm_8 t H locs ht hvm hq_5 hB hk1 hS => ?_)
    obtain ⟨r_9, n_10, z_11, F_12, Er_13, En_14, Ez_15, EF_16⟩ := u
    obtain ⟨hP, hK1, hD1⟩ := hB
    rw [ht] at hP
    have hD := hD1.weaken (fun _ q _ h => hFc _ h)
    obtain ⟨hR17, hC17, hq_5⟩ := hq_5
    have hok17 := hR17.1
    have hfr17 := hfr.tr (hR17.2.1.mono (S' := [0, 1, 2, 4, 5, 6, 7, 8, 9, 10, 11, 15, 16, 22, 23]) (T' := [0, 1, 2, 4, 5, 6, 7, 8, 9, 10, 11]) (by decide) (by decide))
    have hPE17 := hR17.2.2.1
    have hef17 := hef.tr (hR17.2.2.2.mono (S' := [10]) (T' := []) (by decide) (by decide))
    have hz17 : z_11 12 = (z 12) := hR17.2.1.1 12 (by decide)
    refine W.eq (g2 := F0 m 17 ls []) rfl ?_
    try dsimp only at hq_5
    obtain ⟨hk1518, hrr18⟩ := hq_5
    have hrk18 : rs_RK z_11 F_12 Ez_15 lv ab Wd cm := fun _ => hrr18
    have hck18 : lo_K z_11 F_12 Ez_15 EF_16 := lo_K.find hck hkn hRH.1.1 hRH.1.2.1 hrr18 hk1518 (hR17.2.1.1 16 (by decide)) (hR17.2.1.1 12 (by decide)) (hR17.2.1.1 7 (by decide)) (hR17.2.1.1 8 (by decide)) (hR17.2.1.1 9 (by decide)) (hR17.2.1.2 7 (by decide)) (hR17.2.1.2 8 (by decide)) (fun j => hR17.2.2.2.1 j 4 (by decide)) (fun j => ⟨(hR17.2.2.2.2 j 4 (by decide)).2, (hR17.2.2.2.2 j 5 (by decide)).2, (hR17.2.2.2.2 j 6 (by decide)).2⟩)
    have lH18 : lo_H (z 12) Ez_15 EF_16 := lo_H.fr lH hef17 (by decide) (by decide)
    have hz1218 : z_11 12 = z 12 := by omega
    refine lv_aload_n hx hb dX5_print_17 rfl (lv_at hl 1 rfl) ?_
    refine va_get (D := (dC, dI)) (ci := 5) (v := .ref (o 11)) (C := RX5) (T := TX5) (N := 16) hx hb hts kt_X5 hown hK hP 0 rfl rfl 15 (by decide) (kx_word hG kq_19_xouts_60 rfl) (fun _ h9 => h9) rfl dX5_print_18 ?_
    have hxp_19 : 0 ≤ z_11 11 ∧ z_11 11 ≤ ((n_10 11 : Nat) : Int) ∧ (n_10 11 = 0 ∨ n_10 11 = 6000) := hok17.2.1 11 (by decide)
    have hxz_20 : -2147483648 ≤ z_11 23 ∧ z_11 23 < 2147483648 := hok17.2.2.2.1 23
    have hxb_21 : z_11 23 = 0 ∨ z_11 23 = 1 := hok17.2.2.2.2 23 (by decide)
    have hPc := hP.sub (ws' := (pU cB (o 11) (r_9 11) (n_10 11) (z_11 11) (z_11 23) (F_12 11))) [27, 28] rfl
    have hDc := hD.sub (ws' := (pU cB (o 11) (r_9 11) (n_10 11) (z_11 11) (z_11 23) (F_12 11))) [27, 28] (by decide) rfl
    have hFc := va_free (wc := (pU cB (o 11) (r_9 11) (n_10 11) (z_11 11) (z_11 23) (F_12 11))) hD hS hA [27, 28] rfl
    refine xk_call (va_runV (As := []) (rest := []) ⟨hx, hb, hml, hown, hts⟩ (x_pclear l dC dI cI cB cE (o 11) (r_9 11) (n_10 11) (z_11 11) (z_11 23) (F_12 11)  H.size (by omega) (by omega) (hok17.2.2.1 11)) (cwV 0 hts (kx_gV kq_24_xnew_4 kq_24_xnew_5 kq_24_xnew_6 kq_15_xspan_17 kq_24_xnew_7 rfl) rfl rfl rfl (by decide +kernel) ⟨Nat.le_of_ble_eq_true rfl, Nat.le_of_ble_eq_true rfl⟩) ⟨kx_blind, va_recv hK hPc (ci := 2) (q0 := 0) rfl rfl, kx_give (ws := []) (tys := []) hPc hDc hK hG hZ hS hFc⟩ rfl rfl hl.1 rfl (lv_room (Nat.le_of_ble_eq_true rfl)) dX5_print_21 ⟨show (0 + dn_7) + 1 ≤ 1200 from (by omega), show (0 + dm_8) + 6000 ≤ 600000 from (by omega)⟩) hS (fun q _ h => hFc q h) hFc (fun u dn_23 dm_24 t H locs ht hvm hq_22 hB hk1 hS => ?_)
    obtain ⟨r_25, n_26, z_27, tl_28, F_29⟩ := u
    obtain ⟨hP1, hK1, hD1⟩ := hB
    rw [ht] at hP1
    obtain ⟨hP, hD⟩ := xj_pool (wr := [(o 15, .inr (5, [.ref (o 16), .ref (Eo 0 0), .int (iz (z_11 12)), .int (iz (z_11 13)), .int (iz (z_11 14)), .ref (o 0), .ref (o 1), .int (iz (z_11 15)), .ref (o 13), .ref (o 14), .int (iz (z_11 16)), .ref (o 2), .ref (o 12), .ref (o 3), .ref (o 10), .ref (o 11)])), (o 16, .inl (cE, 80, .inr (.inr (.inr (.inr G))))), (o 0, .inr (1, [.int (iz 80), .ref (r_9 0), .int (iz (z_11 0))])), (r_9 0, .inl (cI, n_10 0, .inl (iA (F_12 0)))), (o 1, .inr (1, [.int (iz 80), .ref (r_9 1), .int (iz (z_11 1))])), (r_9 1, .inl (cI, n_10 1, .inl (iA (F_12 1)))), (o 2, .inr (1, [.int (iz 80), .ref (r_9 2), .int (iz (z_11 2))])), (r_9 2, .inl (cI, n_10 2, .inl (iA (F_12 2)))), (o 3, .inr (1, [.int (iz 80), .ref (r_9 3), .int (iz (z_11 3))])), (r_9 3, .inl (cI, n_10 3, .inl (iA (F_12 3)))), (o 13, .inr (3, [.ref (o 4), .ref (o 5), .ref (o 6)])), (o 4, .inr (1, [.int (iz 1600), .ref (r_9 4), .int (iz (z_11 4))])), (r_9 4, .inl (cI, n_10 4, .inl (iA (F_12 4)))), (o 5, .inr (1, [.int (iz 1600), .ref (r_9 5), .int (iz (z_11 5))])), (r_9 5, .inl (cI, n_10 5, .inl (iA (F_12 5)))), (o 6, .inr (1, [.int (iz 1600), .ref (r_9 6), .int (iz (z_11 6))])), (r_9 6, .inl (cI, n_10 6, .inl (iA (F_12 6)))), (o 14, .inr (3, [.ref (o 7), .ref (o 8), .ref (o 9)])), (o 7, .inr (1, [.int (iz 1600), .ref (r_9 7), .int (iz (z_11 7))])), (r_9 7, .inl (cI, n_10 7, .inl (iA (F_12 7)))), (o 8, .inr (1, [.int (iz 1600), .ref (r_9 8), .int (iz (z_11 8))])), (r_9 8, .inl (cI, n_10 8, .inl (iA (F_12 8)))), (o 9, .inr (1, [.int (iz 1600), .ref (r_9 9), .int (iz (z_11 9))])), (r_9 9, .inl (cI, n_10 9, .inl (iA (F_12 9)))), (o 12, .inr (4, [.int (iz (z_11 17)), .int (iz (z_11 18)), .int (iz (z_11 19)), .int (iz (z_11 20)), .int (iz (z_11 21))])), (o 10, .inr (2, [.ref (r_9 10), .int (iz (z_11 10)), .int (iz (z_11 22))])), (r_9 10, .inl (cB, n_10 10, .inl (iA (F_12 10))))]) (w1 := (pU cB (o 11) r_25 n_26 z_27 tl_28 F_29)) (ws' := (xU cI cB cE o (va_up r_9 11 r_25) (va_up n_10 11 n_26) (va_up (va_up z_11 11 z_27) 23 tl_28) (va_up F_12 11 F_29) G (Eo 0 0))) hP hD [27, 28] [0, 1, 2, 3, 4, 5, 6, 7, 8, 9, 10, 11, 12, 13, 14, 15, 16, 17, 18, 19, 20, 21, 22, 23, 24, 25, 26] [0, 1, 2, 3, 4, 5, 6, 7, 8, 9, 10, 11, 12, 13, 14, 15, 16, 17, 18, 19, 20, 21, 22, 23, 24, 25, 26, 27, 28] rfl rfl (by decide) (by decide) hk1 hFc hP1 hD1 rfl (by decide)
    refine W.eq (g2 := F0 m 24 ls []) rfl ?_
    try dsimp only at hq_22
    obtain ⟨hc30, hz30, ht30, hn30, hF30⟩ := hq_22
    refine lv_iconst (v := iz (-1)) hx hb dX5_print_24 (by decide) ?_
    refine lv_istore_n (lv' := [(2, .int (iz (-1))), (1, .int (iz z_3)), (0, .ref (o 15))]) hx hb dX5_print_25 rfl hl (by decide) rfl (fun ls hl => ?_)
    refine lv_iconst (v := iz 0) hx hb dX5_print_26 (by decide) ?_
    refine lv_istore_n (lv' := [(3, .int (iz 0)), (2, .int (iz (-1))), (1, .int (iz z_3)), (0, .ref (o 15))]) hx hb dX5_print_27 rfl hl (by decide) rfl (fun ls hl => ?_)
    have hok31 : xOk (va_up n_10 11 n_26) (va_up (va_up z_11 11 z_27) 23 tl_28) (va_up F_12 11 F_29) := ((hok17.p 11 (by decide) (show 0 ≤ z_27 ∧ z_27 ≤ ((n_26 : Nat) : Int) ∧ (n_26 = 0 ∨ n_26 = 6000) by omega) hF30).s 23 (by decide) (show -2147483648 ≤ tl_28 ∧ tl_28 < 2147483648 by omega) (by omega))
    have hfr31 : xFr [0, 1, 2, 4, 5, 6, 7, 8, 9, 10, 11, 15, 16, 22, 23] [0, 1, 2, 4, 5, 6, 7, 8, 9, 10, 11] z F (va_up (va_up z_11 11 z_27) 23 tl_28) (va_up F_12 11 F_29) := (((hfr17.uz 11 (by decide) _).uz 23 (by decide) _).uf 11 (by decide) _)
    have hcg31 : (dn_23) + xg (va_up n_10 11 n_26) ≤ xg n_10 := by unfold xg; simp (decide := true) only [va_ev, ↓reduceIte]; omega
    have hcp31 : (dm_24) + xp (va_up n_10 11 n_26) ≤ xp n_10 := by unfold xp; simp (decide := true) only [va_ev, ↓reduceIte]; omega
    have lp28 : ∀ (n0 : Nat) (gv : Int) (k : Int) (rL28 : Nat → Nat) (nL28 : Nat → Nat) (zL28 : Nat → Int) (FL28 : Nat → Int → Int) (ErL28 : Nat → Nat → Nat) (EnL28 : Nat → Nat → Nat) (EzL28 : Nat → Nat → Int) (EFL28 : Nat → Nat → Int → Int) (cv : Nat) (sv : Nat), ((xR [0, 1, 2, 4, 5, 6, 7, 8, 9, 10, 11, 15, 16, 22, 23] [0, 1, 2, 4, 5, 6, 7, 8, 9, 10, 11] [10] [] N z F En Ez EF nL28 zL28 FL28 EnL28 EzL28 EFL28) ∧ (cv + xg nL28 ≤ xg n + (0) ∧ sv + xp nL28 ≤ xp n + (0)) ∧ (zL28 12 = z 12) ∧ (-2147483648 ≤ gv ∧ gv < 2147483648) ∧ (0 ≤ k ∧ k ≤ 81) ∧ (rs_RK zL28 FL28 EzL28 lv ab Wd cm) ∧ (lo_K zL28 FL28 EzL28 EFL28) ∧ (zL28 15 = 1)) → (zL28 1 - k).toNat < n0 → ∀ (H : Heap) (locs : List Loc), va_P (dC, dI) kxCl ((xU cI cB cE o rL28 nL28 zL28 FL28 G (Eo 0 0)) ++ (eP cI N Eo ErL28 EnL28 EzL28 EFL28)) H → va_D A ((xU cI cB cE o rL28 nL28 zL28 FL28 G (Eo 0 0)) ++ (eP cI N Eo ErL28 EnL28 EzL28 EFL28)) → va_S A s.heap H locs → ∀ ls : Array Slot, lv_has ls 7 [(3, .int (iz k)), (2, .int (iz gv)), (1, .int (iz z_3)), (0, .ref (o 15))] → W p l e (headSpec [.code yX5_print cX5_print 7 (some .int)] ({ frames := 7, cells := 1200, slots := 600000, locals := 196 })).room s m ([.ref (o 15)] : List Value).toArray below meth c H locs cv sv QQ (F0 m 28 ls []) := by
      intro n0
      induction n0 with
      | zero => intro gv k rL28 nL28 zL28 FL28 ErL28 EnL28 EzL28 EFL28 cv sv hinv hm0; exact absurd hm0 (Nat.not_lt_zero _)
      | succ n0 ih28 =>
        intro gv k rL28 nL28 zL28 FL28 ErL28 EnL28 EzL28 EFL28 cv sv hinv hm0 H locs hP hD hS ls hl
        obtain ⟨hRLL28, hCLL28, hZLL28, hgv, hk, hrkL, hckL, h15L⟩ := hinv
        have hz1 : 0 ≤ zL28 1 ∧ zL28 1 ≤ (nL28 1 : Int) ∧ (nL28 1 : Int) ≤ 80 := hRLL28.1.1 1 (by decide)
        refine lv_iload_n hx hb dX5_print_28 rfl (lv_at hl 0 rfl) ?_
        refine lv_aload_n hx hb dX5_print_29 rfl (lv_at hl 3 rfl) ?_
        refine va_get (D := (dC, dI)) (ci := 5) (v := .ref (o 1)) (C := RX5) (T := TX5) (N := 16) hx hb hts kt_X5 hown hK hP 0 rfl rfl 6 (by decide) (kx_word hG kq_18_xrows_47 rfl) (fun _ h9 => h9) rfl dX5_print_30 ?_
        have hxi_32 : 0 ≤ zL28 1 ∧ zL28 1 ≤ ((nL28 1 : Nat) : Int) ∧ ((nL28 1 : Nat) : Int) ≤ 80 := hRLL28.1.1 1 (by decide)
        have hPc := hP.sub (ws' := (iU cI 80 (o 1) (rL28 1) (nL28 1) (zL28 1) (FL28 1))) [4, 5] rfl
        refine xk_pure (va_runV (As := []) (rest := [.int (iz k)]) ⟨hx, hb, hml, hown, hts⟩ (x_size l dC dI cI cB cE 80 (o 1) (rL28 1) (nL28 1) (zL28 1) (FL28 1)  H.size ) (cwV 0 hts (kx_gV kq_18_xrows_40 kq_15_xspan_10 kq_15_xspan_11 kq_13_xints_6 kq_15_xspan_12 rfl) rfl rfl rfl (by decide +kernel) ⟨Nat.le_of_ble_eq_true rfl, Nat.le_of_ble_eq_true rfl⟩) ⟨pPre_blind, va_recv hK hPc (ci := 1) (q0 := 0) rfl rfl, pPre_give hPc hK hG⟩ rfl rfl hl.1 rfl (lv_room (Nat.le_of_ble_eq_true rfl)) dX5_print_33 ⟨show cv + 0 ≤ 1200 from (by omega), show sv + 0 ≤ 600000 from (by omega)⟩) hS (fun z_34 locs hq_33 hS => ?_)
        refine W.eq (g2 := F0 m 36 ls [.int (iz z_34), .int (iz k)]) rfl ?_
        try dsimp only at hq_33
        have hq_33 := hq_33.symm
        subst hq_33
        refine ki_icmp_ge (tgt := 131) hx hb dX5_print_36 (by decide) (by omega) (by omega) (by omega) (by omega) (fun c_35 => ?_) (fun c_35 => ?_)
        · skip
          refine lv_aload_n hx hb dX5_print_131 rfl (lv_at hl 3 rfl) ?_
          refine va_get (D := (dC, dI)) (ci := 5) (v := .ref (o 11)) (C := RX5) (T := TX5) (N := 16) hx hb hts kt_X5 hown hK hP 0 rfl rfl 15 (by decide) (kx_word hG kq_19_xouts_60 rfl) (fun _ h9 => h9) rfl dX5_print_132 ?_
          have hxz_36 : -2147483648 ≤ zL28 23 ∧ zL28 23 < 2147483648 := hRLL28.1.2.2.2.1 23
          have hxb_37 : zL28 23 = 0 ∨ zL28 23 = 1 := hRLL28.1.2.2.2.2 23 (by decide)
          refine va_getN (D := (dC, dI)) (ci := 2) (v := .int (iz (zL28 23))) (C := RX2) (T := TX2) (N := 3) hx hb hts kt_X2 hown hK hP 27 rfl rfl 2 (by decide) (va_Nw.use rfl (kx_nf hG kq_24_xnew_8)) (fun _ h9 => h9) rfl dX5_print_135 ?_
          refine ki_if_eq (tgt := 149) hx hb dX5_print_138 (by decide) (by omega) (by omega) (fun c_38 => ?_) (fun c_38 => ?_)
          · skip
            refine lv_aload_n hx hb dX5_print_149 rfl (lv_at hl 3 rfl) ?_
            refine va_get (D := (dC, dI)) (ci := 5) (v := .ref (o 10)) (C := RX5) (T := TX5) (N := 16) hx hb hts kt_X5 hown hK hP 0 rfl rfl 14 (by decide) (kx_word hG kq_21_xcalls_57 rfl) (fun _ h9 => h9) rfl dX5_print_150 ?_
            refine lv_astore_n (lv' := [(3, .ref (o 10)), (2, .int (iz gv)), (1, .int (iz z_3)), (0, .ref (o 15))]) hx hb dX5_print_153 rfl hl (by decide) rfl (fun ls hl => ?_)
            have hxp_39 : 0 ≤ zL28 10 ∧ zL28 10 ≤ ((nL28 10 : Nat) : Int) ∧ (nL28 10 = 0 ∨ nL28 10 = 6000) := hRLL28.1.2.1 10 (by decide)
            have hxp_40 : 0 ≤ zL28 11 ∧ zL28 11 ≤ ((nL28 11 : Nat) : Int) ∧ (nL28 11 = 0 ∨ nL28 11 = 6000) := hRLL28.1.2.1 11 (by decide)
            have hxz_41 : -2147483648 ≤ zL28 22 ∧ zL28 22 < 2147483648 := hRLL28.1.2.2.2.1 22
            have hxb_42 : zL28 22 = 0 ∨ zL28 22 = 1 := hRLL28.1.2.2.2.2 22 (by decide)
            refine lv_aload_n hx hb dX5_print_154 rfl (lv_at hl 3 rfl) ?_
            refine lv_aload_n hx hb dX5_print_155 rfl (lv_at hl 3 rfl) ?_
            refine va_get (D := (dC, dI)) (ci := 5) (v := .ref (o 11)) (C := RX5) (T := TX5) (N := 16) hx hb hts kt_X5 hown hK hP 0 rfl rfl 15 (by decide) (kx_word hG kq_19_xouts_60 rfl) (fun _ h9 => h9) rfl dX5_print_156 ?_
            refine va_put (D := (dC, dI)) (ci := 5) (v := .ref (o 11)) (ty := .object RX2) (C := RX5) (T := TX5) (N := 16) hx hb hts kt_X5 tyX5 tyX5_ok nmX5 hown hK hP hD hS 0 rfl rfl 14 (by decide) (kx_word hG kq_21_xcalls_57 rfl) (fun _ h9 => h9) rfl (by decide +kernel) rfl rfl (Nat.le_of_ble_eq_true rfl) dX5_print_159 (fun H locs hP hD hS => ?_)
            refine lv_aload_n hx hb dX5_print_162 rfl (lv_at hl 3 rfl) ?_
            refine lv_aload_n hx hb dX5_print_163 rfl (lv_at hl 0 rfl) ?_
            refine va_put (D := (dC, dI)) (ci := 5) (v := .ref (o 10)) (ty := .object RX2) (C := RX5) (T := TX5) (N := 16) hx hb hts kt_X5 tyX5 tyX5_ok nmX5 hown hK hP hD hS 0 rfl rfl 15 (by decide) (kx_word hG kq_19_xouts_60 rfl) (fun _ h9 => h9) rfl (by decide +kernel) rfl rfl (Nat.le_of_ble_eq_true rfl) dX5_print_164 (fun H locs hP hD hS => ?_)
            have hP : va_P (dC, dI) kxCl ([(o 15, .inr (5, [.ref (o 16), .ref (Eo 0 0), .int (iz (zL28 12)), .int (iz (zL28 13)), .int (iz (zL28 14)), .ref (o 0), .ref (o 1), .int (iz (zL28 15)), .ref (o 13), .ref (o 14), .int (iz (zL28 16)), .ref (o 2), .ref (o 12), .ref (o 3), .ref (o 11), .ref (o 10)])), (o 16, .inl (cE, 80, .inr (.inr (.inr (.inr G))))), (o 0, .inr (1, [.int (iz 80), .ref (rL28 0), .int (iz (zL28 0))])), (rL28 0, .inl (cI, nL28 0, .inl (iA (FL28 0)))), (o 1, .inr (1, [.int (iz 80), .ref (rL28 1), .int (iz (zL28 1))])), (rL28 1, .inl (cI, nL28 1, .inl (iA (FL28 1)))), (o 2, .inr (1, [.int (iz 80), .ref (rL28 2), .int (iz (zL28 2))])), (rL28 2, .inl (cI, nL28 2, .inl (iA (FL28 2)))), (o 3, .inr (1, [.int (iz 80), .ref (rL28 3), .int (iz (zL28 3))])), (rL28 3, .inl (cI, nL28 3, .inl (iA (FL28 3)))), (o 13, .inr (3, [.ref (o 4), .ref (o 5), .ref (o 6)])), (o 4, .inr (1, [.int (iz 1600), .ref (rL28 4), .int (iz (zL28 4))])), (rL28 4, .inl (cI, nL28 4, .inl (iA (FL28 4)))), (o 5, .inr (1, [.int (iz 1600), .ref (rL28 5), .int (iz (zL28 5))])), (rL28 5, .inl (cI, nL28 5, .inl (iA (FL28 5)))), (o 6, .inr (1, [.int (iz 1600), .ref (rL28 6), .int (iz (zL28 6))])), (rL28 6, .inl (cI, nL28 6, .inl (iA (FL28 6)))), (o 14, .inr (3, [.ref (o 7), .ref (o 8), .ref (o 9)])), (o 7, .inr (1, [.int (iz 1600), .ref (rL28 7), .int (iz (zL28 7))])), (rL28 7, .inl (cI, nL28 7, .inl (iA (FL28 7)))), (o 8, .inr (1, [.int (iz 1600), .ref (rL28 8), .int (iz (zL28 8))])), (rL28 8, .inl (cI, nL28 8, .inl (iA (FL28 8)))), (o 9, .inr (1, [.int (iz 1600), .ref (rL28 9), .int (iz (zL28 9))])), (rL28 9, .inl (cI, nL28 9, .inl (iA (FL28 9)))), (o 12, .inr (4, [.int (iz (zL28 17)), .int (iz (zL28 18)), .int (iz (zL28 19)), .int (iz (zL28 20)), .int (iz (zL28 21))])), (o 10, .inr (2, [.ref (rL28 10), .int (iz (zL28 10)), .int (iz (zL28 22))])), (rL28 10, .inl (cB, nL28 10, .inl (iA (FL28 10)))), (o 11, .inr (2, [.ref (rL28 11), .int (iz (zL28 11)), .int (iz (zL28 23))])), (rL28 11, .inl (cB, nL28 11, .inl (iA (FL28 11))))] ++ (eP cI N Eo ErL28 EnL28 EzL28 EFL28)) H := hP
            have hD : va_D A ([(o 15, .inr (5, [.ref (o 16), .ref (Eo 0 0), .int (iz (zL28 12)), .int (iz (zL28 13)), .int (iz (zL28 14)), .ref (o 0), .ref (o 1), .int (iz (zL28 15)), .ref (o 13), .ref (o 14), .int (iz (zL28 16)), .ref (o 2), .ref (o 12), .ref (o 3), .ref (o 11), .ref (o 10)])), (o 16, .inl (cE, 80, .inr (.inr (.inr (.inr G))))), (o 0, .inr (1, [.int (iz 80), .ref (rL28 0), .int (iz (zL28 0))])), (rL28 0, .inl (cI, nL28 0, .inl (iA (FL28 0)))), (o 1, .inr (1, [.int (iz 80), .ref (rL28 1), .int (iz (zL28 1))])), (rL28 1, .inl (cI, nL28 1, .inl (iA (FL28 1)))), (o 2, .inr (1, [.int (iz 80), .ref (rL28 2), .int (iz (zL28 2))])), (rL28 2, .inl (cI, nL28 2, .inl (iA (FL28 2)))), (o 3, .inr (1, [.int (iz 80), .ref (rL28 3), .int (iz (zL28 3))])), (rL28 3, .inl (cI, nL28 3, .inl (iA (FL28 3)))), (o 13, .inr (3, [.ref (o 4), .ref (o 5), .ref (o 6)])), (o 4, .inr (1, [.int (iz 1600), .ref (rL28 4), .int (iz (zL28 4))])), (rL28 4, .inl (cI, nL28 4, .inl (iA (FL28 4)))), (o 5, .inr (1, [.int (iz 1600), .ref (rL28 5), .int (iz (zL28 5))])), (rL28 5, .inl (cI, nL28 5, .inl (iA (FL28 5)))), (o 6, .inr (1, [.int (iz 1600), .ref (rL28 6), .int (iz (zL28 6))])), (rL28 6, .inl (cI, nL28 6, .inl (iA (FL28 6)))), (o 14, .inr (3, [.ref (o 7), .ref (o 8), .ref (o 9)])), (o 7, .inr (1, [.int (iz 1600), .ref (rL28 7), .int (iz (zL28 7))])), (rL28 7, .inl (cI, nL28 7, .inl (iA (FL28 7)))), (o 8, .inr (1, [.int (iz 1600), .ref (rL28 8), .int (iz (zL28 8))])), (rL28 8, .inl (cI, nL28 8, .inl (iA (FL28 8)))), (o 9, .inr (1, [.int (iz 1600), .ref (rL28 9), .int (iz (zL28 9))])), (rL28 9, .inl (cI, nL28 9, .inl (iA (FL28 9)))), (o 12, .inr (4, [.int (iz (zL28 17)), .int (iz (zL28 18)), .int (iz (zL28 19)), .int (iz (zL28 20)), .int (iz (zL28 21))])), (o 10, .inr (2, [.ref (rL28 10), .int (iz (zL28 10)), .int (iz (zL28 22))])), (rL28 10, .inl (cB, nL28 10, .inl (iA (FL28 10)))), (o 11, .inr (2, [.ref (rL28 11), .int (iz (zL28 11)), .int (iz (zL28 23))])), (rL28 11, .inl (cB, nL28 11, .inl (iA (FL28 11))))] ++ (eP cI N Eo ErL28 EnL28 EzL28 EFL28)) := hD
            have hP : va_P (dC, dI) kxCl ((xU cI cB cE (va_up (va_up o 10 (o 11)) 11 (o 10)) (va_up (va_up rL28 10 (rL28 11)) 11 (rL28 10)) (va_up (va_up nL28 10 (nL28 11)) 11 (nL28 10)) (va_up (va_up (va_up (va_up zL28 10 (zL28 11)) 11 (zL28 10)) 22 (zL28 23)) 23 (zL28 22)) (va_up (va_up FL28 10 (FL28 11)) 11 (FL28 10)) G (Eo 0 0)) ++ (eP cI N Eo ErL28 EnL28 EzL28 EFL28)) H := va_P.part (cx := (xU cI cB cE (va_up (va_up o 10 (o 11)) 11 (o 10)) (va_up (va_up rL28 10 (rL28 11)) 11 (rL28 10)) (va_up (va_up nL28 10 (nL28 11)) 11 (nL28 10)) (va_up (va_up (va_up (va_up zL28 10 (zL28 11)) 11 (zL28 10)) 22 (zL28 23)) 23 (zL28 22)) (va_up (va_up FL28 10 (FL28 11)) 11 (FL28 10)) G (Eo 0 0))) hP [0, 1, 2, 3, 4, 5, 6, 7, 8, 9, 10, 11, 12, 13, 14, 15, 16, 17, 18, 19, 20, 21, 22, 23, 24, 27, 28, 25, 26] rfl
            have hD : va_D A ((xU cI cB cE (va_up (va_up o 10 (o 11)) 11 (o 10)) (va_up (va_up rL28 10 (rL28 11)) 11 (rL28 10)) (va_up (va_up nL28 10 (nL28 11)) 11 (nL28 10)) (va_up (va_up (va_up (va_up zL28 10 (zL28 11)) 11 (zL28 10)) 22 (zL28 23)) 23 (zL28 22)) (va_up (va_up FL28 10 (FL28 11)) 11 (FL28 10)) G (Eo 0 0)) ++ (eP cI N Eo ErL28 EnL28 EzL28 EFL28)) := va_D.part (cx := (xU cI cB cE (va_up (va_up o 10 (o 11)) 11 (o 10)) (va_up (va_up rL28 10 (rL28 11)) 11 (rL28 10)) (va_up (va_up nL28 10 (nL28 11)) 11 (nL28 10)) (va_up (va_up (va_up (va_up zL28 10 (zL28 11)) 11 (zL28 10)) 22 (zL28 23)) 23 (zL28 22)) (va_up (va_up FL28 10 (FL28 11)) 11 (FL28 10)) G (Eo 0 0))) hD [0, 1, 2, 3, 4, 5, 6, 7, 8, 9, 10, 11, 12, 13, 14, 15, 16, 17, 18, 19, 20, 21, 22, 23, 24, 27, 28, 25, 26] (by decide) rfl
            refine lv_aload_n hx hb dX5_print_167 rfl (lv_at hl 3 rfl) ?_
            refine va_get (D := (dC, dI)) (ci := 5) (v := .ref (o 11)) (C := RX5) (T := TX5) (N := 16) hx hb hts kt_X5 hown hK hP 0 rfl rfl 14 (by decide) (kx_word hG kq_21_xcalls_57 rfl) (fun _ h9 => h9) rfl dX5_print_168 ?_
            have hPc := hP.sub (ws' := (pU cB (o 11) (rL28 11) (nL28 11) (zL28 11) (zL28 23) (FL28 11))) [25, 26] rfl
            refine xk_pure (va_runV (As := []) (rest := []) ⟨hx, hb, hml, hown, hts⟩ (x_psize l dC dI cI cB cE (o 11) (rL28 11) (nL28 11) (zL28 11) (zL28 23) (FL28 11)  H.size ) (cwV 0 hts (kx_gV kq_21_xcalls_58 kq_21_xcalls_59 kq_21_xcalls_60 kq_15_xspan_17 kq_21_xcalls_61 rfl) rfl rfl rfl (by decide +kernel) ⟨Nat.le_of_ble_eq_true rfl, Nat.le_of_ble_eq_true rfl⟩) ⟨pPre_blind, va_recv hK hPc (ci := 2) (q0 := 0) rfl rfl, pPre_give hPc hK hG⟩ rfl rfl hl.1 rfl (lv_room (Nat.le_of_ble_eq_true rfl)) dX5_print_171 ⟨show cv + 0 ≤ 1200 from (by omega), show sv + 0 ≤ 600000 from (by omega)⟩) hS (fun z_44 locs hq_43 hS => ?_)
            refine W.eq (g2 := F0 m 174 ls [.int (iz z_44)]) rfl ?_
            try dsimp only at hq_43
            have hq_43 := hq_43.symm
            subst hq_43
            have hok45 : xOk (va_up (va_up nL28 10 (nL28 11)) 11 (nL28 10)) (va_up (va_up (va_up (va_up zL28 10 (zL28 11)) 11 (zL28 10)) 22 (zL28 23)) 23 (zL28 22)) (va_up (va_up FL28 10 (FL28 11)) 11 (FL28 10)) := ((((hRLL28.1.p 10 (by decide) (show 0 ≤ zL28 11 ∧ zL28 11 ≤ ((nL28 11 : Nat) : Int) ∧ (nL28 11 = 0 ∨ nL28 11 = 6000) by omega) (hRLL28.1.2.2.1 11)).p 11 (by decide) (show 0 ≤ zL28 10 ∧ zL28 10 ≤ ((nL28 10 : Nat) : Int) ∧ (nL28 10 = 0 ∨ nL28 10 = 6000) by omega) (hRLL28.1.2.2.1 10)).s 22 (by decide) (show -2147483648 ≤ zL28 23 ∧ zL28 23 < 2147483648 by omega) (by omega)).s 23 (by decide) (show -2147483648 ≤ zL28 22 ∧ zL28 22 < 2147483648 by omega) (by omega))
            have hfr45 : xFr [0, 1, 2, 4, 5, 6, 7, 8, 9, 10, 11, 15, 16, 22, 23] [0, 1, 2, 4, 5, 6, 7, 8, 9, 10, 11] z F (va_up (va_up (va_up (va_up zL28 10 (zL28 11)) 11 (zL28 10)) 22 (zL28 23)) 23 (zL28 22)) (va_up (va_up FL28 10 (FL28 11)) 11 (FL28 10)) := ((((((hRLL28.2.1.uz 10 (by decide) _).uz 11 (by decide) _).uz 22 (by decide) _).uz 23 (by decide) _).uf 10 (by decide) _).uf 11 (by decide) _)
            have hcg45 : (0) + xg (va_up (va_up nL28 10 (nL28 11)) 11 (nL28 10)) ≤ xg nL28 := by unfold xg; simp (decide := true) only [va_ev, ↓reduceIte]; omega
            have hcp45 : (0) + xp (va_up (va_up nL28 10 (nL28 11)) 11 (nL28 10)) ≤ xp nL28 := by unfold xp; simp (decide := true) only [va_ev, ↓reduceIte]; omega
            rw [← hQe]
            refine vx_ret ?_
            exact xk_iret (ov := (fun u : (Int) × (Nat → Nat) × (Nat → Nat) × (Nat → Nat) × (Nat → Int) × (Nat → Int → Int) × (Nat → Nat → Nat) × (Nat → Nat → Nat) × (Nat → Nat → Int) × (Nat → Nat → Int → Int) => match u with | (q, o', r', n', z', F', Er', En', Ez', EF') => some (.int (iz q)))) (post := (fun (u : (Int) × (Nat → Nat) × (Nat → Nat) × (Nat → Nat) × (Nat → Int) × (Nat → Int → Int) × (Nat → Nat → Nat) × (Nat → Nat → Nat) × (Nat → Nat → Int) × (Nat → Nat → Int → Int)) (dn dm : Nat) => match u with | (q, o', r', n', z', F', Er', En', Ez', EF') => xR [0, 1, 2, 4, 5, 6, 7, 8, 9, 10, 11, 15, 16, 22, 23] [0, 1, 2, 4, 5, 6, 7, 8, 9, 10, 11] [10] [] N z F En Ez EF n' z' F' En' Ez' EF' ∧ (dn + xg n' ≤ xg n + 0 ∧ dm + xp n' ≤ xp n + 0) ∧ ((∀ k, k ≠ 10 → k ≠ 11 → o' k = o k) ∧ rs_RK z' F' Ez' lv ab Wd cm ∧ lo_K z' F' Ez' EF'))) (ws := (fun u : (Int) × (Nat → Nat) × (Nat → Nat) × (Nat → Nat) × (Nat → Int) × (Nat → Int → Int) × (Nat → Nat → Nat) × (Nat → Nat → Nat) × (Nat → Nat → Int) × (Nat → Nat → Int → Int) => match u with | (q, o', r', n', z', F', Er', En', Ez', EF') => (xU cI cB cE o' r' n' z' F' G (Eo 0 0) ++ eP cI N Eo Er' En' Ez' EF'))) (tys := xT cI cB cE) (z := zL28 11) (zL28 11, (va_up (va_up o 10 (o 11)) 11 (o 10)), (va_up (va_up rL28 10 (rL28 11)) 11 (rL28 10)), (va_up (va_up nL28 10 (nL28 11)) 11 (nL28 10)), (va_up (va_up (va_up (va_up zL28 10 (zL28 11)) 11 (zL28 10)) 22 (zL28 23)) 23 (zL28 22)), (va_up (va_up FL28 10 (FL28 11)) 11 (FL28 10)), ErL28, EnL28, EzL28, EFL28) hx hb hr rfl hlocks rfl hP hD hK hS dX5_print_174 (fun dn dm hdn hdm => ⟨⟨hok45, hfr45, hRLL28.2.2.1, hRLL28.2.2.2⟩, ⟨by omega, by omega⟩, ⟨fun k h1 h2 => by rw [va_ev, if_neg h2, va_ev, if_neg h1], hrkL, hckL⟩⟩) (by omega) (by omega)
          · skip
            rw [← hQe]
            exact ky_thr_UOE hx hb hlf hown hG hZ hS (hl.1.trans hml.symm) dX5_print_141 dX5_print_144 dX5_print_145 dX5_print_148 htab (Nat.le_of_ble_eq_true rfl) (Nat.le_of_ble_eq_true rfl) (show cv + 1 ≤ 1200 from (by omega)) (show sv + 6 ≤ 600000 from (by omega)) hlocks (⟨rfl, by first | trivial | omega⟩) (fun t hvm h1 h2 => ⟨(rL28, nL28, zL28, FL28, ErL28, EnL28, EzL28, EFL28), ⟨hRLL28.1, hRLL28.2.1, hRLL28.2.2.1, hRLL28.2.2.2⟩, ⟨hrkL, hckL⟩, hP.kept (fun k q hk => h2 q.1 (hP k q hk).lt), va_K.moved hvm hK, hD⟩) hS.2.2 (by omega) (by omega) (by omega) (by omega)
        · skip
          refine lv_aload_n hx hb dX5_print_39 rfl (lv_at hl 3 rfl) ?_
          refine va_get (D := (dC, dI)) (ci := 5) (v := .ref (o 11)) (C := RX5) (T := TX5) (N := 16) hx hb hts kt_X5 hown hK hP 0 rfl rfl 15 (by decide) (kx_word hG kq_19_xouts_60 rfl) (fun _ h9 => h9) rfl dX5_print_40 ?_
          have hxz_46 : -2147483648 ≤ zL28 23 ∧ zL28 23 < 2147483648 := hRLL28.1.2.2.2.1 23
          have hxb_47 : zL28 23 = 0 ∨ zL28 23 = 1 := hRLL28.1.2.2.2.2 23 (by decide)
          refine va_getN (D := (dC, dI)) (ci := 2) (v := .int (iz (zL28 23))) (C := RX2) (T := TX2) (N := 3) hx hb hts kt_X2 hown hK hP 27 rfl rfl 2 (by decide) (va_Nw.use rfl (kx_nf hG kq_24_xnew_8)) (fun _ h9 => h9) rfl dX5_print_43 ?_
          refine ki_if_ne (tgt := 131) hx hb dX5_print_46 (by decide) (by omega) (by omega) (fun c_48 => ?_) (fun c_48 => ?_)
          · skip
            refine lv_aload_n hx hb dX5_print_131 rfl (lv_at hl 3 rfl) ?_
            refine va_get (D := (dC, dI)) (ci := 5) (v := .ref (o 11)) (C := RX5) (T := TX5) (N := 16) hx hb hts kt_X5 hown hK hP 0 rfl rfl 15 (by decide) (kx_word hG kq_19_xouts_60 rfl) (fun _ h9 => h9) rfl dX5_print_132 ?_
            refine va_getN (D := (dC, dI)) (ci := 2) (v := .int (iz (zL28 23))) (C := RX2) (T := TX2) (N := 3) hx hb hts kt_X2 hown hK hP 27 rfl rfl 2 (by decide) (va_Nw.use rfl (kx_nf hG kq_24_xnew_8)) (fun _ h9 => h9) rfl dX5_print_135 ?_
            refine ki_if_eq (tgt := 149) hx hb dX5_print_138 (by decide) (by omega) (by omega) (fun c_49 => ?_) (fun c_49 => ?_)
            · omega
            · skip
              rw [← hQe]
              exact ky_thr_UOE hx hb hlf hown hG hZ hS (hl.1.trans hml.symm) dX5_print_141 dX5_print_144 dX5_print_145 dX5_print_148 htab (Nat.le_of_ble_eq_true rfl) (Nat.le_of_ble_eq_true rfl) (show cv + 1 ≤ 1200 from (by omega)) (show sv + 6 ≤ 600000 from (by omega)) hlocks (⟨rfl, by first | trivial | omega⟩) (fun t hvm h1 h2 => ⟨(rL28, nL28, zL28, FL28, ErL28, EnL28, EzL28, EFL28), ⟨hRLL28.1, hRLL28.2.1, hRLL28.2.2.1, hRLL28.2.2.2⟩, ⟨hrkL, hckL⟩, hP.kept (fun k q hk => h2 q.1 (hP k q hk).lt), va_K.moved hvm hK, hD⟩) hS.2.2 (by omega) (by omega) (by omega) (by omega)
          · skip
            refine lv_aload_n hx hb dX5_print_49 rfl (lv_at hl 3 rfl) ?_
            refine va_get (D := (dC, dI)) (ci := 5) (v := .ref (o 1)) (C := RX5) (T := TX5) (N := 16) hx hb hts kt_X5 hown hK hP 0 rfl rfl 6 (by decide) (kx_word hG kq_18_xrows_47 rfl) (fun _ h9 => h9) rfl dX5_print_50 ?_
            refine lv_iload_n hx hb dX5_print_53 rfl (lv_at hl 0 rfl) ?_
            have hPc := hP.sub (ws' := (iU cI 80 (o 1) (rL28 1) (nL28 1) (zL28 1) (FL28 1))) [4, 5] rfl
            refine xk_pure (va_runV (As := [.int (iz k)]) (rest := []) ⟨hx, hb, hml, hown, hts⟩ (x_get l dC dI cI cB cE 80 (o 1) (rL28 1) (nL28 1) (zL28 1) (FL28 1) k H.size (by omega) (hRLL28.1.2.2.1 1) (by omega) (by omega)) (cwV 1 hts (kx_gV kq_18_xrows_41 kq_13_xints_4 kq_13_xints_5 kq_13_xints_6 kq_13_xints_7 rfl) rfl rfl rfl (by decide +kernel) ⟨Nat.le_of_ble_eq_true rfl, Nat.le_of_ble_eq_true rfl⟩) ⟨pPre_blind, va_recv hK hPc (ci := 1) (q0 := 0) rfl rfl, pPre_give hPc hK hG⟩ rfl rfl hl.1 rfl (lv_room (Nat.le_of_ble_eq_true rfl)) dX5_print_54 ⟨show cv + 0 ≤ 1200 from (by omega), show sv + 0 ≤ 600000 from (by omega)⟩) hS (fun z_51 locs hq_50 hS => ?_)
            refine W.eq (g2 := F0 m 57 ls [.int (iz z_51)]) rfl ?_
            try dsimp only at hq_50
            have eg_52 : z_51 = FL28 1 k := by omega
            subst eg_52
            refine W.eq (g2 := F0 m 57 ls [.int (iz (FL28 1 k))]) rfl ?_
            have hRrhme_53 := hrkL (by omega)
            have hme_53 := (hRrhme_53.2.2 (FL28 1 k)).mp ⟨k, by omega, by omega, rfl⟩
            refine lv_istore (lv' := [(4, .int (iz (FL28 1 k))), (3, .int (iz k)), (2, .int (iz gv)), (1, .int (iz z_3)), (0, .ref (o 15))]) hx hb dX5_print_57 hl (by decide) rfl (fun ls hl => ?_)
            refine lv_aload_n hx hb dX5_print_59 rfl (lv_at hl 4 rfl) ?_
            refine lv_iload hx hb dX5_print_60 (lv_at hl 0 rfl) ?_
            have hxz_54 : -2147483648 ≤ zL28 12 ∧ zL28 12 < 2147483648 := hRLL28.1.2.2.2.1 12
            have hxG9 : xG N (zL28 12) G Eo := ⟨by omega, by omega, by omega, fun e9 h9 => hN4 e9 (by omega)⟩
            have hP : va_P (dC, dI) kxCl (xU cI cB cE o rL28 nL28 zL28 FL28 G (Eo 0 0) ++ eP cI N Eo ErL28 EnL28 EzL28 EFL28) H := hP
            refine xk_pure (va_runV (As := [.int (iz (FL28 1 k))]) (rest := []) ⟨hx, hb, hml, hown, hts⟩ (y_known l dC dI cI cB cE o rL28 nL28 zL28 FL28 G N Eo ErL28 EnL28 EzL28 EFL28 (FL28 1 k) H.size hRLL28.1 hxG9 hRLL28.2.2.1 (by omega) (by omega)) (cwV 1 hts (kx_gV kq_18_xrows_8 kq_18_xrows_9 kq_18_xrows_10 kq_18_xrows_4 kq_18_xrows_11 rfl) rfl rfl rfl (by decide +kernel) ⟨Nat.le_of_ble_eq_true rfl, Nat.le_of_ble_eq_true rfl⟩) ⟨pPre_blind, va_recv hK hP (ci := 5) (q0 := 0) rfl rfl, pPre_give hP hK hG⟩ rfl rfl hl.1 rfl (lv_room (Nat.le_of_ble_eq_true rfl)) dX5_print_62 ⟨show cv + 0 ≤ 1200 from (by omega), show sv + 0 ≤ 600000 from (by omega)⟩) hS (fun z_56 locs hq_55 hS => ?_)
            refine W.eq (g2 := F0 m 65 ls [.ref z_56.toNat]) rfl ?_
            try dsimp only at hq_55
            obtain ⟨j57, hj57, ez57, hje57⟩ := hq_55
            subst ez57
            refine W.eq (g2 := F0 m 65 ls [.ref (Eo j57 0)]) rfl ?_
            have hP := eP_foc hj57 hP
            have hD := eD_foc hj57 hD
            have hez_58 : -2147483648 ≤ EzL28 j57 7 ∧ EzL28 j57 7 < 2147483648 := (hRLL28.2.2.1 j57 hj57).2.2 7
            refine va_getN (D := (dC, dI)) (ci := 0) (v := .int (iz (EzL28 j57 7))) (C := RX0) (T := TX0) (N := 12) hx hb hts kt_X0 hown hK hP 29 rfl rfl 0 (by decide) (va_Nw.use rfl (kx_nf hG kq_18_xrows_12)) (fun _ h9 => h9) rfl dX5_print_65 ?_
            refine lv_istore (lv' := [(5, .int (iz (EzL28 j57 7))), (4, .int (iz (FL28 1 k))), (3, .int (iz k)), (2, .int (iz gv)), (1, .int (iz z_3)), (0, .ref (o 15))]) hx hb dX5_print_68 hl (by decide) rfl (fun ls hl => ?_)
            refine lv_aload_n hx hb dX5_print_70 rfl (lv_at hl 5 rfl) ?_
            refine lv_iload hx hb dX5_print_71 (lv_at hl 1 rfl) ?_
            have hP := eP_un0 hj57 hP
            have hD := eD_un0 hj57 hD
            have hxG9 : xG N (zL28 12) G Eo := ⟨by omega, by omega, by omega, fun e9 h9 => hN4 e9 (by omega)⟩
            have hP : va_P (dC, dI) kxCl (xU cI cB cE o rL28 nL28 zL28 FL28 G (Eo 0 0) ++ eP cI N Eo ErL28 EnL28 EzL28 EFL28) H := hP
            refine xk_pure (va_runV (As := [.int (iz (FL28 1 k))]) (rest := []) ⟨hx, hb, hml, hown, hts⟩ (y_groupOf l dC dI cI cB cE o rL28 nL28 zL28 FL28 G N Eo ErL28 EnL28 EzL28 EFL28 (FL28 1 k) H.size hRLL28.1 hxG9 hRLL28.2.2.1 (by omega) (by omega)) (cwV 1 hts (kx_gV kq_21_xcalls_37 kq_21_xcalls_38 kq_21_xcalls_39 kq_18_xrows_4 kq_21_xcalls_40 rfl) rfl rfl rfl (by decide +kernel) ⟨Nat.le_of_ble_eq_true rfl, Nat.le_of_ble_eq_true rfl⟩) ⟨pPre_blind, va_recv hK hP (ci := 5) (q0 := 0) rfl rfl, pPre_give hP hK hG⟩ rfl rfl hl.1 rfl (lv_room (Nat.le_of_ble_eq_true rfl)) dX5_print_73 ⟨show cv + 0 ≤ 1200 from (by omega), show sv + 0 ≤ 600000 from (by omega)⟩) hS (fun z_60 locs hq_59 hS => ?_)
            refine W.eq (g2 := F0 m 76 ls [.int (iz z_60)]) rfl ?_
            try dsimp only at hq_59
            refine lv_istore (lv' := [(6, .int (iz z_60)), (5, .int (iz (EzL28 j57 7))), (4, .int (iz (FL28 1 k))), (3, .int (iz k)), (2, .int (iz gv)), (1, .int (iz z_3)), (0, .ref (o 15))]) hx hb dX5_print_76 hl (by decide) rfl (fun ls hl => ?_)
            refine lv_aload_n hx hb dX5_print_78 rfl (lv_at hl 6 rfl) ?_
            refine lv_iload hx hb dX5_print_79 (lv_at hl 2 rfl) ?_
            have hxG9 : xG N (zL28 12) G Eo := ⟨by omega, by omega, by omega, fun e9 h9 => hN4 e9 (by omega)⟩
            have hP : va_P (dC, dI) kxCl (xU cI cB cE o rL28 nL28 zL28 FL28 G (Eo 0 0) ++ eP cI N Eo ErL28 EnL28 EzL28 EFL28) H := hP
            have hD : va_D A (xU cI cB cE o rL28 nL28 zL28 FL28 G (Eo 0 0) ++ eP cI N Eo ErL28 EnL28 EzL28 EFL28) := hD
            have hFc := xw_free hD hS hA
            refine xk_call (va_runV (As := [.int (iz (FL28 1 k))]) (rest := []) ⟨hx, hb, hml, hown, hts⟩ (y_findLocators2 l dC dI cI cB cE o rL28 nL28 zL28 FL28 G N Eo ErL28 EnL28 EzL28 EFL28 (FL28 1 k) H.size hRLL28.1 hxG9 hRLL28.2.2.1 (by omega) (by show ∀ e, 0 ≤ e → e < zL28 12 → 0 ≤ rs_sE EzL28 e ∧ rs_sE EzL28 e ≤ e; exact fun e a b => (hRrhme_53.1 e a b).1) (show zL28 12 ≤ 78 by omega) (by show lo_H (zL28 12) EzL28 EFL28; rw [show zL28 12 = z 12 by omega]; exact lo_H.fr lH hRLL28.2.2.2 (by decide) (by decide)) (hckL.imp id (fun h9 => ⟨h9.2.1, h9.2.2⟩))) (cwV 1 hts (kx_gV kq_21_xcalls_29 kq_21_xcalls_30 kq_21_xcalls_31 kq_18_xrows_4 kq_21_xcalls_32 rfl) rfl rfl rfl (by decide +kernel) ⟨Nat.le_of_ble_eq_true rfl, Nat.le_of_ble_eq_true rfl⟩) ⟨kx_blind, va_recv hK hP (ci := 5) (q0 := 0) rfl rfl, kx_give (ws := []) (tys := []) hP hD hK hG hZ hS hFc⟩ rfl rfl hl.1 rfl (lv_room (Nat.le_of_ble_eq_true rfl)) dX5_print_81 ⟨show cv + 400 ≤ 1200 from (by omega), show sv + 170000 ≤ 600000 from (by omega)⟩) hS (fun q _ h => hFc q h) hFc (fun u dn_63 dm_64 t H locs ht hvm hq_61 hB hk1 hS => ?_)
            obtain ⟨r_65, n_66, z_67, F_68, Er_69, En_70, Ez_71, EF_72⟩ := u
            obtain ⟨hP, hK1, hD1⟩ := hB
            rw [ht] at hP
            have hD := hD1.weaken (fun _ q _ h => hFc _ h)
            obtain ⟨hR73, hC73, hq_61⟩ := hq_61
            have hok73 := hR73.1
            have hfr73 := hRLL28.2.1.tr (hR73.2.1.mono (S' := [0, 1, 2, 4, 5, 6, 7, 8, 9, 10, 11, 15, 16, 22, 23]) (T' := [0, 1, 2, 4, 5, 6, 7, 8, 9, 10, 11]) (by decide) (by decide))
            have hPE73 := hR73.2.2.1
            have hef73 := hRLL28.2.2.2.tr (hR73.2.2.2.mono (S' := [10]) (T' := []) (by decide) (by decide))
            have hz73 : z_67 12 = (zL28 12) := hR73.2.1.1 12 (by decide)
            have hkr73_1 : z_67 1 = zL28 1 := hR73.2.1.1 1 (by decide)
            have hkr73_15 : z_67 15 = zL28 15 := hR73.2.1.1 15 (by decide)
            refine W.eq (g2 := F0 m 84 ls []) rfl ?_
            try dsimp only at hq_61
            have hrk74 : rs_RK z_67 F_68 Ez_71 lv ab Wd cm := rs_RK.fr hrkL (hR73.2.1.1 15 (by decide)) (hR73.2.1.1 12 (by decide)) (hR73.2.1.1 1 (by decide)) (hR73.2.1.2 1 (by decide)) (fun j => hR73.2.2.2.1 j 10 (by decide))
            obtain ⟨hl1674, hlz74, hlq74, hkp74⟩ := hq_61
            obtain ⟨rfl, rfl, rfl, rfl⟩ := hkp74
            have hck74 : lo_K z_67 F_68 EzL28 EFL28 := Or.inr ⟨by omega, hlz74, (by rw [hl1674, show z_67 12 = zL28 12 by omega]; exact hlq74)⟩
            refine lv_aload_n hx hb dX5_print_84 rfl (lv_at hl 6 rfl) ?_
            refine lv_iload hx hb dX5_print_85 (lv_at hl 2 rfl) ?_
            have hxz_75 : -2147483648 ≤ z_67 12 ∧ z_67 12 < 2147483648 := hok73.2.2.2.1 12
            have hxG9 : xG N (z_67 12) G Eo := ⟨by omega, by omega, by omega, fun e9 h9 => hN4 e9 (by omega)⟩
            have hP : va_P (dC, dI) kxCl (xU cI cB cE o r_65 n_66 z_67 F_68 G (Eo 0 0) ++ eP cI N Eo ErL28 EnL28 EzL28 EFL28) H := hP
            have hD : va_D A (xU cI cB cE o r_65 n_66 z_67 F_68 G (Eo 0 0) ++ eP cI N Eo ErL28 EnL28 EzL28 EFL28) := hD
            have hFc := xw_free hD hS hA
            refine xk_call (va_runV (As := [.int (iz (FL28 1 k))]) (rest := []) ⟨hx, hb, hml, hown, hts⟩ (y_findSeen l dC dI cI cB cE o r_65 n_66 z_67 F_68 G N Eo ErL28 EnL28 EzL28 EFL28 (FL28 1 k) H.size hok73 hxG9 hPE73 (by omega) (by omega)) (cwV 1 hts (kx_gV kq_21_xcalls_33 kq_21_xcalls_34 kq_21_xcalls_35 kq_18_xrows_4 kq_21_xcalls_36 rfl) rfl rfl rfl (by decide +kernel) ⟨Nat.le_of_ble_eq_true rfl, Nat.le_of_ble_eq_true rfl⟩) ⟨kx_blind, va_recv hK hP (ci := 5) (q0 := 0) rfl rfl, kx_give (ws := []) (tys := []) hP hD hK hG hZ hS hFc⟩ rfl rfl hl.1 rfl (lv_room (Nat.le_of_ble_eq_true rfl)) dX5_print_87 ⟨show (cv + dn_63) + 260 ≤ 1200 from (by omega), show (sv + dm_64) + 110000 ≤ 600000 from (by omega)⟩) hS (fun q _ h => hFc q h) hFc (fun u dn_78 dm_79 t H locs ht hvm hq_76 hB hk1 hS => ?_)
            obtain ⟨r_80, n_81, z_82, F_83, Er_84, En_85, Ez_86, EF_87⟩ := u
            obtain ⟨hP, hK1, hD1⟩ := hB
            rw [ht] at hP
            have hD := hD1.weaken (fun _ q _ h => hFc _ h)
            obtain ⟨hR88, hC88, hq_76⟩ := hq_76
            have hok88 := hR88.1
            have hfr88 := hfr73.tr (hR88.2.1.mono (S' := [0, 1, 2, 4, 5, 6, 7, 8, 9, 10, 11, 15, 16, 22, 23]) (T' := [0, 1, 2, 4, 5, 6, 7, 8, 9, 10, 11]) (by decide) (by decide))
            have hPE88 := hR88.2.2.1
            have hef88 := hef73.tr (hR88.2.2.2.mono (S' := [10]) (T' := []) (by decide) (by decide))
            have hz88 : z_82 12 = (z_67 12) := hR88.2.1.1 12 (by decide)
            have hkr88_1 : z_82 1 = z_67 1 := hR88.2.1.1 1 (by decide)
            have hkr88_15 : z_82 15 = z_67 15 := hR88.2.1.1 15 (by decide)
            refine W.eq (g2 := F0 m 90 ls []) rfl ?_
            try dsimp only at hq_76
            have hrk89 : rs_RK z_82 F_83 Ez_86 lv ab Wd cm := rs_RK.fr hrk74 (hR88.2.1.1 15 (by decide)) (hR88.2.1.1 12 (by decide)) (hR88.2.1.1 1 (by decide)) (hR88.2.1.2 1 (by decide)) (fun j => hR88.2.2.2.1 j 10 (by decide))
            have hck89 : lo_K z_82 F_83 Ez_86 EF_87 := lo_K.fr hck74 (hR88.2.1.1 16 (by decide)) (hR88.2.1.1 15 (by decide)) (hR88.2.1.1 12 (by decide)) (hR88.2.1.1 7 (by decide)) (hR88.2.1.1 8 (by decide)) (hR88.2.1.1 9 (by decide)) (hR88.2.1.2 7 (by decide)) (hR88.2.1.2 8 (by decide)) (fun j => hR88.2.2.2.1 j 10 (by decide)) (fun j => hR88.2.2.2.1 j 4 (by decide)) (fun j => ⟨(hR88.2.2.2.2 j 4 (by decide)).2, (hR88.2.2.2.2 j 5 (by decide)).2, (hR88.2.2.2.2 j 6 (by decide)).2⟩)
            refine lv_iload hx hb dX5_print_90 (lv_at hl 1 rfl) ?_
            refine ki_if_ne (tgt := 113) hx hb dX5_print_92 (by decide) (by omega) (by omega) (fun c_90 => ?_) (fun c_90 => ?_)
            · skip
              refine lv_aload_n hx hb dX5_print_113 rfl (lv_at hl 6 rfl) ?_
              refine lv_iconst (v := iz 1) hx hb dX5_print_114 (by decide) ?_
              refine lv_iload hx hb dX5_print_115 (lv_at hl 1 rfl) ?_
              refine ki_iadd hx hb dX5_print_117 ?_
              refine ki_any (fun z_91 hz_91a hz_91b => ?_)
              refine lv_iload hx hb dX5_print_118 (lv_at hl 2 rfl) ?_
              refine lv_iload hx hb dX5_print_120 (lv_at hl 0 rfl) ?_
              have hxz_92 : -2147483648 ≤ z_82 12 ∧ z_82 12 < 2147483648 := hok88.2.2.2.1 12
              have hxG9 : xG N (z_82 12) G Eo := ⟨by omega, by omega, by omega, fun e9 h9 => hN4 e9 (by omega)⟩
              have hP : va_P (dC, dI) kxCl (xU cI cB cE o r_80 n_81 z_82 F_83 G (Eo 0 0) ++ eP cI N Eo Er_84 En_85 Ez_86 EF_87) H := hP
              have hD : va_D A (xU cI cB cE o r_80 n_81 z_82 F_83 G (Eo 0 0) ++ eP cI N Eo Er_84 En_85 Ez_86 EF_87) := hD
              have hFc := xw_free hD hS hA
              refine xk_call (va_runV (As := [.int (iz z_91), .int (iz (FL28 1 k)), .int (iz z_60)]) (rest := []) ⟨hx, hb, hml, hown, hts⟩ (y_writePart l dC dI cI cB cE o r_80 n_81 z_82 F_83 G N Eo Er_84 En_85 Ez_86 EF_87 z_91 (FL28 1 k) z_60 H.size hok88 hxG9 hPE88 (by omega) (by omega) (by omega) (by omega) (by omega) (by omega)) (cwV 3 hts (kx_gV kq_24_xnew_9 kq_24_xnew_10 kq_24_xnew_11 kq_18_xrows_4 kq_24_xnew_12 rfl) rfl rfl rfl (by decide +kernel) ⟨Nat.le_of_ble_eq_true rfl, Nat.le_of_ble_eq_true rfl⟩) ⟨kx_blind, va_recv hK hP (ci := 5) (q0 := 0) rfl rfl, kx_give (ws := []) (tys := []) hP hD hK hG hZ hS hFc⟩ rfl rfl hl.1 rfl (lv_room (Nat.le_of_ble_eq_true rfl)) dX5_print_122 ⟨show ((cv + dn_63) + dn_78) + 200 ≤ 1200 from (by omega), show ((sv + dm_64) + dm_79) + 85000 ≤ 600000 from (by omega)⟩) hS (fun q _ h => hFc q h) hFc (fun u dn_95 dm_96 t H locs ht hvm hq_93 hB hk1 hS => ?_)
              obtain ⟨r_97, n_98, z_99, F_100, Er_101, En_102, Ez_103, EF_104⟩ := u
              obtain ⟨hP, hK1, hD1⟩ := hB
              rw [ht] at hP
              have hD := hD1.weaken (fun _ q _ h => hFc _ h)
              obtain ⟨hR105, hC105, hq_93⟩ := hq_93
              have hok105 := hR105.1
              have hfr105 := hfr88.tr (hR105.2.1.mono (S' := [0, 1, 2, 4, 5, 6, 7, 8, 9, 10, 11, 15, 16, 22, 23]) (T' := [0, 1, 2, 4, 5, 6, 7, 8, 9, 10, 11]) (by decide) (by decide))
              have hPE105 := hR105.2.2.1
              have hef105 := hef88.tr (hR105.2.2.2.mono (S' := [10]) (T' := []) (by decide) (by decide))
              have hz105 : z_99 12 = (z_82 12) := hR105.2.1.1 12 (by decide)
              have hkr105_1 : z_99 1 = z_82 1 := hR105.2.1.1 1 (by decide)
              have hkr105_15 : z_99 15 = z_82 15 := hR105.2.1.1 15 (by decide)
              refine W.eq (g2 := F0 m 125 ls []) rfl ?_
              try dsimp only at hq_93
              have hrk106 : rs_RK z_99 F_100 Ez_103 lv ab Wd cm := rs_RK.fr hrk89 (hR105.2.1.1 15 (by decide)) (hR105.2.1.1 12 (by decide)) (hR105.2.1.1 1 (by decide)) (hR105.2.1.2 1 (by decide)) (fun j => hR105.2.2.2.1 j 10 (by decide))
              have hck106 : lo_K z_99 F_100 Ez_103 EF_104 := lo_K.fr hck89 (hR105.2.1.1 16 (by decide)) (hR105.2.1.1 15 (by decide)) (hR105.2.1.1 12 (by decide)) (hR105.2.1.1 7 (by decide)) (hR105.2.1.1 8 (by decide)) (hR105.2.1.1 9 (by decide)) (hR105.2.1.2 7 (by decide)) (hR105.2.1.2 8 (by decide)) (fun j => hR105.2.2.2.1 j 10 (by decide)) (fun j => hR105.2.2.2.1 j 4 (by decide)) (fun j => ⟨(hR105.2.2.2.2 j 4 (by decide)).2, (hR105.2.2.2.2 j 5 (by decide)).2, (hR105.2.2.2.2 j 6 (by decide)).2⟩)
              refine lv_iinc (v := iz (k + 1)) (lv' := [(3, .int (iz (k + 1))), (6, .int (iz z_60)), (5, .int (iz (EzL28 j57 7))), (4, .int (iz (FL28 1 k))), (2, .int (iz gv)), (1, .int (iz z_3)), (0, .ref (o 15))]) hx hb dX5_print_125 hl (k := 3) rfl (iz_add k 1) (by decide) rfl (fun ls hl => ?_)
              refine lv_goto (tgt := 28) hx hb dX5_print_128 (by decide) ?_
              exact ih28 gv (k + 1) r_97 n_98 z_99 F_100 Er_101 En_102 Ez_103 EF_104 (((cv + dn_63) + dn_78) + dn_95) (((sv + dm_64) + dm_79) + dm_96) ⟨⟨hok105, hfr105, hPE105, hef105⟩, ⟨by omega, by omega⟩, (show z_99 12 = z 12 by omega), by omega, by omega, hrk106, hck106, (show z_99 15 = 1 by omega)⟩ (by omega) _ _ hP hD hS ls (lv_sub hl [0, 4, 5, 6] rfl)
            · skip
              refine lv_iload hx hb dX5_print_95 (lv_at hl 0 rfl) ?_
              refine lv_iload_n hx hb dX5_print_97 rfl (lv_at hl 4 rfl) ?_
              refine ki_icmp_eq (tgt := 113) hx hb dX5_print_98 (by decide) (by omega) (by omega) (by omega) (by omega) (fun c_107 => ?_) (fun c_107 => ?_)
              · skip
                refine lv_aload_n hx hb dX5_print_113 rfl (lv_at hl 6 rfl) ?_
                refine lv_iconst (v := iz 1) hx hb dX5_print_114 (by decide) ?_
                refine lv_iload hx hb dX5_print_115 (lv_at hl 1 rfl) ?_
                refine ki_iadd hx hb dX5_print_117 ?_
                refine ki_any (fun z_108 hz_108a hz_108b => ?_)
                refine lv_iload hx hb dX5_print_118 (lv_at hl 2 rfl) ?_
                refine lv_iload hx hb dX5_print_120 (lv_at hl 0 rfl) ?_
                have hxz_109 : -2147483648 ≤ z_82 12 ∧ z_82 12 < 2147483648 := hok88.2.2.2.1 12
                have hxG9 : xG N (z_82 12) G Eo := ⟨by omega, by omega, by omega, fun e9 h9 => hN4 e9 (by omega)⟩
                have hP : va_P (dC, dI) kxCl (xU cI cB cE o r_80 n_81 z_82 F_83 G (Eo 0 0) ++ eP cI N Eo Er_84 En_85 Ez_86 EF_87) H := hP
                have hD : va_D A (xU cI cB cE o r_80 n_81 z_82 F_83 G (Eo 0 0) ++ eP cI N Eo Er_84 En_85 Ez_86 EF_87) := hD
                have hFc := xw_free hD hS hA
                refine xk_call (va_runV (As := [.int (iz z_108), .int (iz (FL28 1 k)), .int (iz z_60)]) (rest := []) ⟨hx, hb, hml, hown, hts⟩ (y_writePart l dC dI cI cB cE o r_80 n_81 z_82 F_83 G N Eo Er_84 En_85 Ez_86 EF_87 z_108 (FL28 1 k) z_60 H.size hok88 hxG9 hPE88 (by omega) (by omega) (by omega) (by omega) (by omega) (by omega)) (cwV 3 hts (kx_gV kq_24_xnew_9 kq_24_xnew_10 kq_24_xnew_11 kq_18_xrows_4 kq_24_xnew_12 rfl) rfl rfl rfl (by decide +kernel) ⟨Nat.le_of_ble_eq_true rfl, Nat.le_of_ble_eq_true rfl⟩) ⟨kx_blind, va_recv hK hP (ci := 5) (q0 := 0) rfl rfl, kx_give (ws := []) (tys := []) hP hD hK hG hZ hS hFc⟩ rfl rfl hl.1 rfl (lv_room (Nat.le_of_ble_eq_true rfl)) dX5_print_122 ⟨show ((cv + dn_63) + dn_78) + 200 ≤ 1200 from (by omega), show ((sv + dm_64) + dm_79) + 85000 ≤ 600000 from (by omega)⟩) hS (fun q _ h => hFc q h) hFc (fun u dn_112 dm_113 t H locs ht hvm hq_110 hB hk1 hS => ?_)
                obtain ⟨r_114, n_115, z_116, F_117, Er_118, En_119, Ez_120, EF_121⟩ := u
                obtain ⟨hP, hK1, hD1⟩ := hB
                rw [ht] at hP
                have hD := hD1.weaken (fun _ q _ h => hFc _ h)
                obtain ⟨hR122, hC122, hq_110⟩ := hq_110
                have hok122 := hR122.1
                have hfr122 := hfr88.tr (hR122.2.1.mono (S' := [0, 1, 2, 4, 5, 6, 7, 8, 9, 10, 11, 15, 16, 22, 23]) (T' := [0, 1, 2, 4, 5, 6, 7, 8, 9, 10, 11]) (by decide) (by decide))
                have hPE122 := hR122.2.2.1
                have hef122 := hef88.tr (hR122.2.2.2.mono (S' := [10]) (T' := []) (by decide) (by decide))
                have hz122 : z_116 12 = (z_82 12) := hR122.2.1.1 12 (by decide)
                have hkr122_1 : z_116 1 = z_82 1 := hR122.2.1.1 1 (by decide)
                have hkr122_15 : z_116 15 = z_82 15 := hR122.2.1.1 15 (by decide)
                refine W.eq (g2 := F0 m 125 ls []) rfl ?_
                try dsimp only at hq_110
                have hrk123 : rs_RK z_116 F_117 Ez_120 lv ab Wd cm := rs_RK.fr hrk89 (hR122.2.1.1 15 (by decide)) (hR122.2.1.1 12 (by decide)) (hR122.2.1.1 1 (by decide)) (hR122.2.1.2 1 (by decide)) (fun j => hR122.2.2.2.1 j 10 (by decide))
                have hck123 : lo_K z_116 F_117 Ez_120 EF_121 := lo_K.fr hck89 (hR122.2.1.1 16 (by decide)) (hR122.2.1.1 15 (by decide)) (hR122.2.1.1 12 (by decide)) (hR122.2.1.1 7 (by decide)) (hR122.2.1.1 8 (by decide)) (hR122.2.1.1 9 (by decide)) (hR122.2.1.2 7 (by decide)) (hR122.2.1.2 8 (by decide)) (fun j => hR122.2.2.2.1 j 10 (by decide)) (fun j => hR122.2.2.2.1 j 4 (by decide)) (fun j => ⟨(hR122.2.2.2.2 j 4 (by decide)).2, (hR122.2.2.2.2 j 5 (by decide)).2, (hR122.2.2.2.2 j 6 (by decide)).2⟩)
                refine lv_iinc (v := iz (k + 1)) (lv' := [(3, .int (iz (k + 1))), (6, .int (iz z_60)), (5, .int (iz (EzL28 j57 7))), (4, .int (iz (FL28 1 k))), (2, .int (iz gv)), (1, .int (iz z_3)), (0, .ref (o 15))]) hx hb dX5_print_125 hl (k := 3) rfl (iz_add k 1) (by decide) rfl (fun ls hl => ?_)
                refine lv_goto (tgt := 28) hx hb dX5_print_128 (by decide) ?_
                exact ih28 gv (k + 1) r_114 n_115 z_116 F_117 Er_118 En_119 Ez_120 EF_121 (((cv + dn_63) + dn_78) + dn_112) (((sv + dm_64) + dm_79) + dm_113) ⟨⟨hok122, hfr122, hPE122, hef122⟩, ⟨by omega, by omega⟩, (show z_116 12 = z 12 by omega), by omega, by omega, hrk123, hck123, (show z_116 15 = 1 by omega)⟩ (by omega) _ _ hP hD hS ls (lv_sub hl [0, 4, 5, 6] rfl)
              · skip
                refine lv_aload_n hx hb dX5_print_101 rfl (lv_at hl 6 rfl) ?_
                refine lv_iconst (v := iz 0) hx hb dX5_print_102 (by decide) ?_
                refine lv_iload hx hb dX5_print_103 (lv_at hl 2 rfl) ?_
                refine lv_iload hx hb dX5_print_105 (lv_at hl 0 rfl) ?_
                have hxz_124 : -2147483648 ≤ z_82 12 ∧ z_82 12 < 2147483648 := hok88.2.2.2.1 12
                have hxG9 : xG N (z_82 12) G Eo := ⟨by omega, by omega, by omega, fun e9 h9 => hN4 e9 (by omega)⟩
                have hP : va_P (dC, dI) kxCl (xU cI cB cE o r_80 n_81 z_82 F_83 G (Eo 0 0) ++ eP cI N Eo Er_84 En_85 Ez_86 EF_87) H := hP
                have hD : va_D A (xU cI cB cE o r_80 n_81 z_82 F_83 G (Eo 0 0) ++ eP cI N Eo Er_84 En_85 Ez_86 EF_87) := hD
                have hFc := xw_free hD hS hA
                refine xk_call (va_runV (As := [.int (iz 0), .int (iz (FL28 1 k)), .int (iz z_60)]) (rest := []) ⟨hx, hb, hml, hown, hts⟩ (y_writePart l dC dI cI cB cE o r_80 n_81 z_82 F_83 G N Eo Er_84 En_85 Ez_86 EF_87 0 (FL28 1 k) z_60 H.size hok88 hxG9 hPE88 (by omega) (by omega) (by omega) (by omega) (by omega) (by omega)) (cwV 3 hts (kx_gV kq_24_xnew_9 kq_24_xnew_10 kq_24_xnew_11 kq_18_xrows_4 kq_24_xnew_12 rfl) rfl rfl rfl (by decide +kernel) ⟨Nat.le_of_ble_eq_true rfl, Nat.le_of_ble_eq_true rfl⟩) ⟨kx_blind, va_recv hK hP (ci := 5) (q0 := 0) rfl rfl, kx_give (ws := []) (tys := []) hP hD hK hG hZ hS hFc⟩ rfl rfl hl.1 rfl (lv_room (Nat.le_of_ble_eq_true rfl)) dX5_print_107 ⟨show ((cv + dn_63) + dn_78) + 200 ≤ 1200 from (by omega), show ((sv + dm_64) + dm_79) + 85000 ≤ 600000 from (by omega)⟩) hS (fun q _ h => hFc q h) hFc (fun u dn_127 dm_128 t H locs ht hvm hq_125 hB hk1 hS => ?_)
                obtain ⟨r_129, n_130, z_131, F_132, Er_133, En_134, Ez_135, EF_136⟩ := u
                obtain ⟨hP, hK1, hD1⟩ := hB
                rw [ht] at hP
                have hD := hD1.weaken (fun _ q _ h => hFc _ h)
                obtain ⟨hR137, hC137, hq_125⟩ := hq_125
                have hok137 := hR137.1
                have hfr137 := hfr88.tr (hR137.2.1.mono (S' := [0, 1, 2, 4, 5, 6, 7, 8, 9, 10, 11, 15, 16, 22, 23]) (T' := [0, 1, 2, 4, 5, 6, 7, 8, 9, 10, 11]) (by decide) (by decide))
                have hPE137 := hR137.2.2.1
                have hef137 := hef88.tr (hR137.2.2.2.mono (S' := [10]) (T' := []) (by decide) (by decide))
                have hz137 : z_131 12 = (z_82 12) := hR137.2.1.1 12 (by decide)
                have hkr137_1 : z_131 1 = z_82 1 := hR137.2.1.1 1 (by decide)
                have hkr137_15 : z_131 15 = z_82 15 := hR137.2.1.1 15 (by decide)
                refine W.eq (g2 := F0 m 110 ls []) rfl ?_
                try dsimp only at hq_125
                have hrk138 : rs_RK z_131 F_132 Ez_135 lv ab Wd cm := rs_RK.fr hrk89 (hR137.2.1.1 15 (by decide)) (hR137.2.1.1 12 (by decide)) (hR137.2.1.1 1 (by decide)) (hR137.2.1.2 1 (by decide)) (fun j => hR137.2.2.2.1 j 10 (by decide))
                have hck138 : lo_K z_131 F_132 Ez_135 EF_136 := lo_K.fr hck89 (hR137.2.1.1 16 (by decide)) (hR137.2.1.1 15 (by decide)) (hR137.2.1.1 12 (by decide)) (hR137.2.1.1 7 (by decide)) (hR137.2.1.1 8 (by decide)) (hR137.2.1.1 9 (by decide)) (hR137.2.1.2 7 (by decide)) (hR137.2.1.2 8 (by decide)) (fun j => hR137.2.2.2.1 j 10 (by decide)) (fun j => hR137.2.2.2.1 j 4 (by decide)) (fun j => ⟨(hR137.2.2.2.2 j 4 (by decide)).2, (hR137.2.2.2.2 j 5 (by decide)).2, (hR137.2.2.2.2 j 6 (by decide)).2⟩)
                refine lv_iload hx hb dX5_print_110 (lv_at hl 0 rfl) ?_
                refine lv_istore_n (lv' := [(2, .int (iz z_60)), (6, .int (iz z_60)), (5, .int (iz (EzL28 j57 7))), (4, .int (iz (FL28 1 k))), (3, .int (iz k)), (1, .int (iz z_3)), (0, .ref (o 15))]) hx hb dX5_print_112 rfl hl (by decide) rfl (fun ls hl => ?_)
                refine lv_aload_n hx hb dX5_print_113 rfl (lv_at hl 6 rfl) ?_
                refine lv_iconst (v := iz 1) hx hb dX5_print_114 (by decide) ?_
                refine lv_iload hx hb dX5_print_115 (lv_at hl 2 rfl) ?_
                refine ki_iadd hx hb dX5_print_117 ?_
                refine ki_any (fun z_139 hz_139a hz_139b => ?_)
                refine lv_iload hx hb dX5_print_118 (lv_at hl 3 rfl) ?_
                refine lv_iload hx hb dX5_print_120 (lv_at hl 1 rfl) ?_
                have hxz_140 : -2147483648 ≤ z_131 12 ∧ z_131 12 < 2147483648 := hok137.2.2.2.1 12
                have hxG9 : xG N (z_131 12) G Eo := ⟨by omega, by omega, by omega, fun e9 h9 => hN4 e9 (by omega)⟩
                have hP : va_P (dC, dI) kxCl (xU cI cB cE o r_129 n_130 z_131 F_132 G (Eo 0 0) ++ eP cI N Eo Er_133 En_134 Ez_135 EF_136) H := hP
                have hD : va_D A (xU cI cB cE o r_129 n_130 z_131 F_132 G (Eo 0 0) ++ eP cI N Eo Er_133 En_134 Ez_135 EF_136) := hD
                have hFc := xw_free hD hS hA
                refine xk_call (va_runV (As := [.int (iz z_139), .int (iz (FL28 1 k)), .int (iz z_60)]) (rest := []) ⟨hx, hb, hml, hown, hts⟩ (y_writePart l dC dI cI cB cE o r_129 n_130 z_131 F_132 G N Eo Er_133 En_134 Ez_135 EF_136 z_139 (FL28 1 k) z_60 H.size hok137 hxG9 hPE137 (by omega) (by omega) (by omega) (by omega) (by omega) (by omega)) (cwV 3 hts (kx_gV kq_24_xnew_9 kq_24_xnew_10 kq_24_xnew_11 kq_18_xrows_4 kq_24_xnew_12 rfl) rfl rfl rfl (by decide +kernel) ⟨Nat.le_of_ble_eq_true rfl, Nat.le_of_ble_eq_true rfl⟩) ⟨kx_blind, va_recv hK hP (ci := 5) (q0 := 0) rfl rfl, kx_give (ws := []) (tys := []) hP hD hK hG hZ hS hFc⟩ rfl rfl hl.1 rfl (lv_room (Nat.le_of_ble_eq_true rfl)) dX5_print_122 ⟨show (((cv + dn_63) + dn_78) + dn_127) + 200 ≤ 1200 from (by omega), show (((sv + dm_64) + dm_79) + dm_128) + 85000 ≤ 600000 from (by omega)⟩) hS (fun q _ h => hFc q h) hFc (fun u dn_143 dm_144 t H locs ht hvm hq_141 hB hk1 hS => ?_)
                obtain ⟨r_145, n_146, z_147, F_148, Er_149, En_150, Ez_151, EF_152⟩ := u
                obtain ⟨hP, hK1, hD1⟩ := hB
                rw [ht] at hP
                have hD := hD1.weaken (fun _ q _ h => hFc _ h)
                obtain ⟨hR153, hC153, hq_141⟩ := hq_141
                have hok153 := hR153.1
                have hfr153 := hfr137.tr (hR153.2.1.mono (S' := [0, 1, 2, 4, 5, 6, 7, 8, 9, 10, 11, 15, 16, 22, 23]) (T' := [0, 1, 2, 4, 5, 6, 7, 8, 9, 10, 11]) (by decide) (by decide))
                have hPE153 := hR153.2.2.1
                have hef153 := hef137.tr (hR153.2.2.2.mono (S' := [10]) (T' := []) (by decide) (by decide))
                have hz153 : z_147 12 = (z_131 12) := hR153.2.1.1 12 (by decide)
                have hkr153_1 : z_147 1 = z_131 1 := hR153.2.1.1 1 (by decide)
                have hkr153_15 : z_147 15 = z_131 15 := hR153.2.1.1 15 (by decide)
                refine W.eq (g2 := F0 m 125 ls []) rfl ?_
                try dsimp only at hq_141
                have hrk154 : rs_RK z_147 F_148 Ez_151 lv ab Wd cm := rs_RK.fr hrk138 (hR153.2.1.1 15 (by decide)) (hR153.2.1.1 12 (by decide)) (hR153.2.1.1 1 (by decide)) (hR153.2.1.2 1 (by decide)) (fun j => hR153.2.2.2.1 j 10 (by decide))
                have hck154 : lo_K z_147 F_148 Ez_151 EF_152 := lo_K.fr hck138 (hR153.2.1.1 16 (by decide)) (hR153.2.1.1 15 (by decide)) (hR153.2.1.1 12 (by decide)) (hR153.2.1.1 7 (by decide)) (hR153.2.1.1 8 (by decide)) (hR153.2.1.1 9 (by decide)) (hR153.2.1.2 7 (by decide)) (hR153.2.1.2 8 (by decide)) (fun j => hR153.2.2.2.1 j 10 (by decide)) (fun j => hR153.2.2.2.1 j 4 (by decide)) (fun j => ⟨(hR153.2.2.2.2 j 4 (by decide)).2, (hR153.2.2.2.2 j 5 (by decide)).2, (hR153.2.2.2.2 j 6 (by decide)).2⟩)
                refine lv_iinc (v := iz (k + 1)) (lv' := [(3, .int (iz (k + 1))), (2, .int (iz z_60)), (6, .int (iz z_60)), (5, .int (iz (EzL28 j57 7))), (4, .int (iz (FL28 1 k))), (1, .int (iz z_3)), (0, .ref (o 15))]) hx hb dX5_print_125 hl (k := 4) rfl (iz_add k 1) (by decide) rfl (fun ls hl => ?_)
                refine lv_goto (tgt := 28) hx hb dX5_print_128 (by decide) ?_
                exact ih28 z_60 (k + 1) r_145 n_146 z_147 F_148 Er_149 En_150 Ez_151 EF_152 ((((cv + dn_63) + dn_78) + dn_127) + dn_143) ((((sv + dm_64) + dm_79) + dm_128) + dm_144) ⟨⟨hok153, hfr153, hPE153, hef153⟩, ⟨by omega, by omega⟩, (show z_147 12 = z 12 by omega), by omega, by omega, hrk154, hck154, (show z_147 15 = 1 by omega)⟩ (by omega) _ _ hP hD hS ls (lv_sub hl [0, 1, 5, 6] rfl)
    exact lp28 _ (-1) 0 (va_up r_9 11 r_25) (va_up n_10 11 n_26) (va_up (va_up z_11 11 z_27) 23 tl_28) (va_up F_12 11 F_29) Er_13 En_14 Ez_15 EF_16 ((0 + dn_7) + dn_23) ((0 + dm_8) + dm_24) ⟨⟨hok31, hfr31, hPE17, hef17⟩, ⟨by omega, by omega⟩, (show z_11 12 = z 12 by omega), by omega, by omega, hrk18, hck18, (show z_11 15 = 1 by omega)⟩ (Nat.lt_succ_self _) _ _ hP hD hS ls (lv_sub hl [0, 1, 2, 3] rfl)
  · skip
    refine lv_iconst (v := iz (-1)) hx hb dX5_print_9 (by decide) ?_
    refine lv_iload_n hx hb dX5_print_10 rfl (lv_at hl 0 rfl) ?_
    refine ki_isub hx hb dX5_print_11 ?_
    rw [← hQe]
    refine vx_ret ?_
    exact xk_iret (ov := (fun u : (Int) × (Nat → Nat) × (Nat → Nat) × (Nat → Nat) × (Nat → Int) × (Nat → Int → Int) × (Nat → Nat → Nat) × (Nat → Nat → Nat) × (Nat → Nat → Int) × (Nat → Nat → Int → Int) => match u with | (q, o', r', n', z', F', Er', En', Ez', EF') => some (.int (iz q)))) (post := (fun (u : (Int) × (Nat → Nat) × (Nat → Nat) × (Nat → Nat) × (Nat → Int) × (Nat → Int → Int) × (Nat → Nat → Nat) × (Nat → Nat → Nat) × (Nat → Nat → Int) × (Nat → Nat → Int → Int)) (dn dm : Nat) => match u with | (q, o', r', n', z', F', Er', En', Ez', EF') => xR [0, 1, 2, 4, 5, 6, 7, 8, 9, 10, 11, 15, 16, 22, 23] [0, 1, 2, 4, 5, 6, 7, 8, 9, 10, 11] [10] [] N z F En Ez EF n' z' F' En' Ez' EF' ∧ (dn + xg n' ≤ xg n + 0 ∧ dm + xp n' ≤ xp n + 0) ∧ ((∀ k, k ≠ 10 → k ≠ 11 → o' k = o k) ∧ rs_RK z' F' Ez' lv ab Wd cm ∧ lo_K z' F' Ez' EF'))) (ws := (fun u : (Int) × (Nat → Nat) × (Nat → Nat) × (Nat → Nat) × (Nat → Int) × (Nat → Int → Int) × (Nat → Nat → Nat) × (Nat → Nat → Nat) × (Nat → Nat → Int) × (Nat → Nat → Int → Int) => match u with | (q, o', r', n', z', F', Er', En', Ez', EF') => (xU cI cB cE o' r' n' z' F' G (Eo 0 0) ++ eP cI N Eo Er' En' Ez' EF'))) (tys := xT cI cB cE) (z := (-1) - z_3) ((-1) - z_3, o, r, n, z, F, Er, En, Ez, EF) hx hb hr rfl hlocks rfl hP hD hK hS dX5_print_12 (fun dn dm hdn hdm => ⟨⟨hok, hfr, hPE, hef⟩, ⟨by omega, by omega⟩, ⟨fun k _ _ => rfl, hkn, hck⟩⟩) (by omega) (by omega)
