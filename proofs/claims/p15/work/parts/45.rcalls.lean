/-! the landed object: its public calls, with the rows that they know -/

set_option maxHeartbeats 4000000 in
set_option maxRecDepth 100000 in
theorem y_run3 (l : Launch) (dC : Nat → ClassId) (dI : Nat → Nat → Nat) (cI cB cE : ClassId) (o r n : Nat → Nat) (z : Nat → Int) (F : Nat → Int → Int) (G : Nat → Option Nat) (N : Nat) (Eo Er En : Nat → Nat → Nat) (Ez : Nat → Nat → Int) (EF : Nat → Nat → Int → Int) (lv : Int → Int) (ab : Int → Int) (Wd : Int → Int → Prop) (cm : Int → Int → Int) (sz : Nat) (hok : xOk n z F) (hxG : xG N (z 12) G Eo) (hPE : eA N En Ez EF) (hRH : rs_H (z 12) Ez EF lv ab Wd cm) (h79 : z 12 ≤ 78) (hkn : rs_RK z F Ez lv ab Wd cm) : Met l yX5_run [.code yX5_run cX5_run 1 (some .int)] ({ frames := 7, cells := 700, slots := 350000, locals := 196 }) (va_Pc [.ref (o 15)] (kx_Pre dC dI (xU cI cB cE o r n z F G (Eo 0 0) ++ eP cI N Eo Er En Ez EF) (xT cI cB cE) sz)) (xQ (fun u : (Int) × (Nat → Nat) × (Nat → Nat) × (Nat → Int) × (Nat → Int → Int) × (Nat → Nat → Nat) × (Nat → Nat → Nat) × (Nat → Nat → Int) × (Nat → Nat → Int → Int) => match u with | (q, r', n', z', F', Er', En', Ez', EF') => some (.int (iz q))) (fun (u : (Int) × (Nat → Nat) × (Nat → Nat) × (Nat → Int) × (Nat → Int → Int) × (Nat → Nat → Nat) × (Nat → Nat → Nat) × (Nat → Nat → Int) × (Nat → Nat → Int → Int)) (dn dm : Nat) => match u with | (q, r', n', z', F', Er', En', Ez', EF') => xR [0, 1, 15] [0, 1] [10] [] N z F En Ez EF n' z' F' En' Ez' EF' ∧ (dn + xg n' ≤ xg n + 0 ∧ dm + xp n' ≤ xp n + 0) ∧ (rs_RK z' F' Ez' lv ab Wd cm ∧ z' 15 = 1 ∧ q = z' 1)) (fun u t => kx_At dC dI (va_A (xU cI cB cE o r n z F G (Eo 0 0) ++ eP cI N Eo Er En Ez EF) sz) ((fun u : (Int) × (Nat → Nat) × (Nat → Nat) × (Nat → Int) × (Nat → Int → Int) × (Nat → Nat → Nat) × (Nat → Nat → Nat) × (Nat → Nat → Int) × (Nat → Nat → Int → Int) => match u with | (q, r', n', z', F', Er', En', Ez', EF') => (xU cI cB cE o r' n' z' F' G (Eo 0 0) ++ eP cI N Eo Er' En' Ez' EF')) u) (xT cI cB cE) t) (va_A (xU cI cB cE o r n z F G (Eo 0 0) ++ eP cI N Eo Er En Ez EF) sz)) 700 350000 (va_A (xU cI cB cE o r n z F G (Eo 0 0) ++ eP cI N Eo Er En Ez EF) sz) := by
  refine Met.ofW (cc := cX5_run) (maxL := 1) (ret := (some .int)) (by decide) rfl ?_
  intro p e s m args below meth c s₁ B hml hv
  obtain ⟨rfl, hsz, hP, hK, hD0, hG, hZ⟩ := hv
  have hx := B.exec
  have hb := B.bytes
  have hr := B.returns
  have hts := kx_hts (a := ([.ref (o 15)] : List Value).toArray) hG
  have hown : s.vm.findClass RX5 = some m.cls := findClass_of_methodNamed B.named
  have hlocks := B.notSynchronized
  subst hsz
  have hD := hD0.self (sz := s.heap.size)
  generalize hAe : va_A (xU cI cB cE o r n z F G (Eo 0 0) ++ eP cI N Eo Er En Ez EF) s.heap.size = A at hD hZ ⊢
  have hA : ∀ q : Nat, s.heap.size ≤ q → A q := fun q h => by rw [← hAe]; exact Or.inr h
  have hS : va_S A s.heap s.heap [] := va_S.rf
  have hl := lv_entry ([.ref (o 15)]) (n := 1) (Nat.le_of_ble_eq_true rfl)
  rw [lg_entry_eq]
  generalize (lg_sl ([.ref (o 15)]) ++ List.replicate (1 - (lg_sl ([.ref (o 15)])).length) Slot.unset).toArray = ls at hl ⊢
  obtain ⟨hN1, hN2, hN3, hN4⟩ := hxG
  have hef : eFr [10] [] En Ez EF En Ez EF := eFr.rf
  have hfr : xFr [0, 1, 15] [0, 1] z F z F := xFr.rf
  have hxgl := xg_le n
  have hxpl := xp_le n
  have hl : lv_has ls 1 [(0, .ref (o 15))] := hl
  refine lv_aload_n hx hb dX5_run_0 rfl (lv_at hl 0 rfl) ?_
  have hxz_1 : -2147483648 ≤ z 12 ∧ z 12 < 2147483648 := hok.2.2.2.1 12
  have hxG9 : xG N (z 12) G Eo := ⟨by omega, by omega, by omega, fun e9 h9 => hN4 e9 (by omega)⟩
  have hP : va_P (dC, dI) kxCl (xU cI cB cE o r n z F G (Eo 0 0) ++ eP cI N Eo Er En Ez EF) s.heap := hP
  have hD : va_D A (xU cI cB cE o r n z F G (Eo 0 0) ++ eP cI N Eo Er En Ez EF) := hD
  have hFc := xw_free hD hS hA
  refine xk_call (va_runV (As := []) (rest := []) ⟨hx, hb, hml, hown, hts⟩ (y_findRows2 l dC dI cI cB cE o r n z F G N Eo Er En Ez EF lv ab Wd cm s.heap.size hok hxG9 hPE (by first | exact hRH | exact hRH.fr hef (by decide) (by decide)) (by omega) hkn) (cwV 0 hts (kx_gV kq_21_xcalls_25 kq_21_xcalls_26 kq_21_xcalls_27 kq_18_xrows_4 kq_21_xcalls_28 rfl) rfl rfl rfl (by decide +kernel) ⟨Nat.le_of_ble_eq_true rfl, Nat.le_of_ble_eq_true rfl⟩) ⟨kx_blind, va_recv hK hP (ci := 5) (q0 := 0) rfl rfl, kx_give (ws := []) (tys := []) hP hD hK hG hZ hS hFc⟩ rfl rfl hl.1 rfl (lv_room (Nat.le_of_ble_eq_true rfl)) dX5_run_1 ⟨show 0 + 600 ≤ 700 from (by omega), show 0 + 300000 ≤ 350000 from (by omega)⟩) hS (fun q _ h => hFc q h) hFc (fun u dn_4 dm_5 t H locs ht hvm hq_2 hB hk1 hS => ?_)
  obtain ⟨r_6, n_7, z_8, F_9, Er_10, En_11, Ez_12, EF_13⟩ := u
  obtain ⟨hP, hK1, hD1⟩ := hB
  rw [ht] at hP
  have hD := hD1.weaken (fun _ q _ h => hFc _ h)
  obtain ⟨hR14, hC14, hq_2⟩ := hq_2
  have hok14 := hR14.1
  have hfr14 := hfr.tr (hR14.2.1.mono (S' := [0, 1, 15]) (T' := [0, 1]) (by decide) (by decide))
  have hPE14 := hR14.2.2.1
  have hef14 := hef.tr (hR14.2.2.2.mono (S' := [10]) (T' := []) (by decide) (by decide))
  have hz14 : z_8 12 = (z 12) := hR14.2.1.1 12 (by decide)
  refine W.eq (g2 := F0 m 4 ls []) rfl ?_
  try dsimp only at hq_2
  obtain ⟨hk1515, hrr15⟩ := hq_2
  have hrk15 : rs_RK z_8 F_9 Ez_12 lv ab Wd cm := fun _ => hrr15
  refine lv_aload_n hx hb dX5_run_4 rfl (lv_at hl 0 rfl) ?_
  refine va_get (D := (dC, dI)) (ci := 5) (v := .ref (o 1)) (C := RX5) (T := TX5) (N := 16) hx hb hts kt_X5 hown hK hP 0 rfl rfl 6 (by decide) (kx_word hG kq_18_xrows_47 rfl) (fun _ h9 => h9) rfl dX5_run_5 ?_
  have hxi_16 : 0 ≤ z_8 1 ∧ z_8 1 ≤ ((n_7 1 : Nat) : Int) ∧ ((n_7 1 : Nat) : Int) ≤ 80 := hok14.1 1 (by decide)
  have hPc := hP.sub (ws' := (iU cI 80 (o 1) (r_6 1) (n_7 1) (z_8 1) (F_9 1))) [4, 5] rfl
  refine xk_pure (va_runV (As := []) (rest := []) ⟨hx, hb, hml, hown, hts⟩ (x_size l dC dI cI cB cE 80 (o 1) (r_6 1) (n_7 1) (z_8 1) (F_9 1)  H.size ) (cwV 0 hts (kx_gV kq_18_xrows_40 kq_15_xspan_10 kq_15_xspan_11 kq_13_xints_6 kq_15_xspan_12 rfl) rfl rfl rfl (by decide +kernel) ⟨Nat.le_of_ble_eq_true rfl, Nat.le_of_ble_eq_true rfl⟩) ⟨pPre_blind, va_recv hK hPc (ci := 1) (q0 := 0) rfl rfl, pPre_give hPc hK hG⟩ rfl rfl hl.1 rfl (lv_room (Nat.le_of_ble_eq_true rfl)) dX5_run_8 ⟨show (0 + dn_4) + 0 ≤ 700 from (by omega), show (0 + dm_5) + 0 ≤ 350000 from (by omega)⟩) hS (fun z_18 locs hq_17 hS => ?_)
  refine W.eq (g2 := F0 m 11 ls [.int (iz z_18)]) rfl ?_
  try dsimp only at hq_17
  have hq_17 := hq_17.symm
  subst hq_17
  exact xk_iret (ov := (fun u : (Int) × (Nat → Nat) × (Nat → Nat) × (Nat → Int) × (Nat → Int → Int) × (Nat → Nat → Nat) × (Nat → Nat → Nat) × (Nat → Nat → Int) × (Nat → Nat → Int → Int) => match u with | (q, r', n', z', F', Er', En', Ez', EF') => some (.int (iz q)))) (post := (fun (u : (Int) × (Nat → Nat) × (Nat → Nat) × (Nat → Int) × (Nat → Int → Int) × (Nat → Nat → Nat) × (Nat → Nat → Nat) × (Nat → Nat → Int) × (Nat → Nat → Int → Int)) (dn dm : Nat) => match u with | (q, r', n', z', F', Er', En', Ez', EF') => xR [0, 1, 15] [0, 1] [10] [] N z F En Ez EF n' z' F' En' Ez' EF' ∧ (dn + xg n' ≤ xg n + 0 ∧ dm + xp n' ≤ xp n + 0) ∧ (rs_RK z' F' Ez' lv ab Wd cm ∧ z' 15 = 1 ∧ q = z' 1))) (ws := (fun u : (Int) × (Nat → Nat) × (Nat → Nat) × (Nat → Int) × (Nat → Int → Int) × (Nat → Nat → Nat) × (Nat → Nat → Nat) × (Nat → Nat → Int) × (Nat → Nat → Int → Int) => match u with | (q, r', n', z', F', Er', En', Ez', EF') => (xU cI cB cE o r' n' z' F' G (Eo 0 0) ++ eP cI N Eo Er' En' Ez' EF'))) (tys := xT cI cB cE) (z := z_8 1) (z_8 1, r_6, n_7, z_8, F_9, Er_10, En_11, Ez_12, EF_13) hx hb hr rfl hlocks rfl hP hD hK hS dX5_run_11 (fun dn dm hdn hdm => ⟨⟨hok14, hfr14, hPE14, hef14⟩, ⟨by omega, by omega⟩, ⟨hrk15, by first | exact hk1515 | omega, rfl⟩⟩) (by omega) (by omega)
set_option maxHeartbeats 4000000 in
set_option maxRecDepth 100000 in
theorem y_row3 (l : Launch) (hlf : l.stackTraces = false) (dC : Nat → ClassId) (dI : Nat → Nat → Nat) (cI cB cE : ClassId) (o r n : Nat → Nat) (z : Nat → Int) (F : Nat → Int → Int) (G : Nat → Option Nat) (N : Nat) (Eo Er En : Nat → Nat → Nat) (Ez : Nat → Nat → Int) (EF : Nat → Nat → Int → Int) (p0 : Int) (p1 : Int) (lv : Int → Int) (ab : Int → Int) (Wd : Int → Int → Prop) (cm : Int → Int → Int) (sz : Nat) (hok : xOk n z F) (hxG : xG N (z 12) G Eo) (hPE : eA N En Ez EF) (hp01 : -2147483648 ≤ p0) (hp02 : p0 < 2147483648) (hp11 : -2147483648 ≤ p1) (hp12 : p1 < 2147483648) (hRH : rs_H (z 12) Ez EF lv ab Wd cm) (h79 : z 12 ≤ 78) (hkn : rs_RK z F Ez lv ab Wd cm) : vx_Met l yX5_row [.code yX5_row cX5_row 4 (some .int)] ({ frames := 7, cells := 1200, slots := 600000, locals := 196 }) (va_Pc [.ref (o 15), .int (iz p0), .int (iz p1)] (kx_Pre dC dI (xU cI cB cE o r n z F G (Eo 0 0) ++ eP cI N Eo Er En Ez EF) (xT cI cB cE) sz)) (xQ (fun u : (Int) × (Nat → Nat) × (Nat → Nat) × (Nat → Int) × (Nat → Int → Int) × (Nat → Nat → Nat) × (Nat → Nat → Nat) × (Nat → Nat → Int) × (Nat → Nat → Int → Int) => match u with | (q, r', n', z', F', Er', En', Ez', EF') => some (.int (iz q))) (fun (u : (Int) × (Nat → Nat) × (Nat → Nat) × (Nat → Int) × (Nat → Int → Int) × (Nat → Nat → Nat) × (Nat → Nat → Nat) × (Nat → Nat → Int) × (Nat → Nat → Int → Int)) (dn dm : Nat) => match u with | (q, r', n', z', F', Er', En', Ez', EF') => xR [0, 1, 2, 4, 5, 6, 7, 8, 9, 15, 16] [0, 1, 2, 4, 5, 6, 7, 8, 9] [10] [] N z F En Ez EF n' z' F' En' Ez' EF' ∧ (dn + xg n' ≤ xg n + 0 ∧ dm + xp n' ≤ xp n + 0) ∧ (rs_RK z' F' Ez' lv ab Wd cm)) (fun u t => kx_At dC dI (va_A (xU cI cB cE o r n z F G (Eo 0 0) ++ eP cI N Eo Er En Ez EF) sz) ((fun u : (Int) × (Nat → Nat) × (Nat → Nat) × (Nat → Int) × (Nat → Int → Int) × (Nat → Nat → Nat) × (Nat → Nat → Nat) × (Nat → Nat → Int) × (Nat → Nat → Int → Int) => match u with | (q, r', n', z', F', Er', En', Ez', EF') => (xU cI cB cE o r' n' z' F' G (Eo 0 0) ++ eP cI N Eo Er' En' Ez' EF')) u) (xT cI cB cE) t) (va_A (xU cI cB cE o r n z F G (Eo 0 0) ++ eP cI N Eo Er En Ez EF) sz)) (yX (fun E => (E = "java/lang/IndexOutOfBoundsException" ∧ (True))) 95 41800 (fun t => ∃ u : (Nat → Nat) × (Nat → Nat) × (Nat → Int) × (Nat → Int → Int) × (Nat → Nat → Nat) × (Nat → Nat → Nat) × (Nat → Nat → Int) × (Nat → Nat → Int → Int), match u with | (r', n', z', F', Er', En', Ez', EF') => xR [0, 1, 2, 4, 5, 6, 7, 8, 9, 15, 16] [0, 1, 2, 4, 5, 6, 7, 8, 9] [10] [] N z F En Ez EF n' z' F' En' Ez' EF' ∧ (rs_RK z' F' Ez' lv ab Wd cm) ∧ kx_At dC dI (va_A (xU cI cB cE o r n z F G (Eo 0 0) ++ eP cI N Eo Er En Ez EF) sz) (xU cI cB cE o r' n' z' F' G (Eo 0 0) ++ eP cI N Eo Er' En' Ez' EF') (xT cI cB cE) t) (va_A (xU cI cB cE o r n z F G (Eo 0 0) ++ eP cI N Eo Er En Ez EF) sz)) 1200 600000 (va_A (xU cI cB cE o r n z F G (Eo 0 0) ++ eP cI N Eo Er En Ez EF) sz) := by
  refine vx_ofW (cc := cX5_row) (maxL := 4) (ret := (some .int)) (by decide) rfl ?_
  intro p e s m args below meth c s₁ B hml htab hv
  obtain ⟨rfl, hsz, hP, hK, hD0, hG, hZ⟩ := hv
  have hx := B.exec
  have hb := B.bytes
  have hr := B.returns
  have hts := kx_hts (a := ([.ref (o 15), .int (iz p0), .int (iz p1)] : List Value).toArray) hG
  have hown : s.vm.findClass RX5 = some m.cls := findClass_of_methodNamed B.named
  have hlocks := B.notSynchronized
  subst hsz
  have hD := hD0.self (sz := s.heap.size)
  generalize hAe : va_A (xU cI cB cE o r n z F G (Eo 0 0) ++ eP cI N Eo Er En Ez EF) s.heap.size = A at hD hZ ⊢
  have hA : ∀ q : Nat, s.heap.size ≤ q → A q := fun q h => by rw [← hAe]; exact Or.inr h
  have hS : va_S A s.heap s.heap [] := va_S.rf
  have hl := lv_entry ([.ref (o 15), .int (iz p0), .int (iz p1)]) (n := 4) (Nat.le_of_ble_eq_true rfl)
  rw [lg_entry_eq]
  generalize (lg_sl ([.ref (o 15), .int (iz p0), .int (iz p1)]) ++ List.replicate (4 - (lg_sl ([.ref (o 15), .int (iz p0), .int (iz p1)])).length) Slot.unset).toArray = ls at hl ⊢
  obtain ⟨hN1, hN2, hN3, hN4⟩ := hxG
  have hef : eFr [10] [] En Ez EF En Ez EF := eFr.rf
  have hfr : xFr [0, 1, 2, 4, 5, 6, 7, 8, 9, 15, 16] [0, 1, 2, 4, 5, 6, 7, 8, 9] z F z F := xFr.rf
  have hxgl := xg_le n
  have hxpl := xp_le n
  have hl : lv_has ls 4 [(0, .ref (o 15)), (1, .int (iz p0)), (2, .int (iz p1))] := hl
  refine lv_aload_n hx hb dX5_row_0 rfl (lv_at hl 0 rfl) ?_
  have hxz_1 : -2147483648 ≤ z 12 ∧ z 12 < 2147483648 := hok.2.2.2.1 12
  have hxG9 : xG N (z 12) G Eo := ⟨by omega, by omega, by omega, fun e9 h9 => hN4 e9 (by omega)⟩
  have hP : va_P (dC, dI) kxCl (xU cI cB cE o r n z F G (Eo 0 0) ++ eP cI N Eo Er En Ez EF) s.heap := hP
  have hD : va_D A (xU cI cB cE o r n z F G (Eo 0 0) ++ eP cI N Eo Er En Ez EF) := hD
  have hFc := xw_free hD hS hA
  refine xk_call (va_runV (As := []) (rest := []) ⟨hx, hb, hml, hown, hts⟩ (y_findRows2 l dC dI cI cB cE o r n z F G N Eo Er En Ez EF lv ab Wd cm s.heap.size hok hxG9 hPE (by first | exact hRH | exact hRH.fr hef (by decide) (by decide)) (by omega) hkn) (cwV 0 hts (kx_gV kq_21_xcalls_25 kq_21_xcalls_26 kq_21_xcalls_27 kq_18_xrows_4 kq_21_xcalls_28 rfl) rfl rfl rfl (by decide +kernel) ⟨Nat.le_of_ble_eq_true rfl, Nat.le_of_ble_eq_true rfl⟩) ⟨kx_blind, va_recv hK hP (ci := 5) (q0 := 0) rfl rfl, kx_give (ws := []) (tys := []) hP hD hK hG hZ hS hFc⟩ rfl rfl hl.1 rfl (lv_room (Nat.le_of_ble_eq_true rfl)) dX5_row_1 ⟨show 0 + 600 ≤ 1200 from (by omega), show 0 + 300000 ≤ 600000 from (by omega)⟩) hS (fun q _ h => hFc q h) hFc (fun u dn_4 dm_5 t H locs ht hvm hq_2 hB hk1 hS => ?_)
  obtain ⟨r_6, n_7, z_8, F_9, Er_10, En_11, Ez_12, EF_13⟩ := u
  obtain ⟨hP, hK1, hD1⟩ := hB
  rw [ht] at hP
  have hD := hD1.weaken (fun _ q _ h => hFc _ h)
  obtain ⟨hR14, hC14, hq_2⟩ := hq_2
  have hok14 := hR14.1
  have hfr14 := hfr.tr (hR14.2.1.mono (S' := [0, 1, 2, 4, 5, 6, 7, 8, 9, 15, 16]) (T' := [0, 1, 2, 4, 5, 6, 7, 8, 9]) (by decide) (by decide))
  have hPE14 := hR14.2.2.1
  have hef14 := hef.tr (hR14.2.2.2.mono (S' := [10]) (T' := []) (by decide) (by decide))
  have hz14 : z_8 12 = (z 12) := hR14.2.1.1 12 (by decide)
  refine W.eq (g2 := F0 m 4 ls []) rfl ?_
  try dsimp only at hq_2
  obtain ⟨hk1515, hrr15⟩ := hq_2
  have hrk15 : rs_RK z_8 F_9 Ez_12 lv ab Wd cm := fun _ => hrr15
  refine lv_iload_n hx hb dX5_row_4 rfl (lv_at hl 1 rfl) ?_
  refine ki_if_lt (tgt := 19) hx hb dX5_row_5 (by decide) (by omega) (by omega) (fun c_16 => ?_) (fun c_16 => ?_)
  · skip
    exact ky_thr_IOB hx hb hlf hown hG hZ hS (hl.1.trans hml.symm) dX5_row_19 dX5_row_22 dX5_row_23 dX5_row_26 htab (Nat.le_of_ble_eq_true rfl) (Nat.le_of_ble_eq_true rfl) (show (0 + dn_4) + 1 ≤ 1200 from (by omega)) (show (0 + dm_5) + 6 ≤ 600000 from (by omega)) hlocks (⟨rfl, by first | trivial | omega⟩) (fun t hvm h1 h2 => ⟨(r_6, n_7, z_8, F_9, Er_10, En_11, Ez_12, EF_13), ⟨hok14, hfr14, hPE14, hef14⟩, hrk15, hP.kept (fun k q hk => h2 q.1 (hP k q hk).lt), va_K.moved hvm hK, hD⟩) hS.2.2 (by omega) (by omega) (by omega) (by omega)
  · skip
    refine lv_iload_n hx hb dX5_row_8 rfl (lv_at hl 1 rfl) ?_
    refine lv_aload_n hx hb dX5_row_9 rfl (lv_at hl 0 rfl) ?_
    refine va_get (D := (dC, dI)) (ci := 5) (v := .ref (o 1)) (C := RX5) (T := TX5) (N := 16) hx hb hts kt_X5 hown hK hP 0 rfl rfl 6 (by decide) (kx_word hG kq_18_xrows_47 rfl) (fun _ h9 => h9) rfl dX5_row_10 ?_
    have hxi_17 : 0 ≤ z_8 1 ∧ z_8 1 ≤ ((n_7 1 : Nat) : Int) ∧ ((n_7 1 : Nat) : Int) ≤ 80 := hok14.1 1 (by decide)
    have hPc := hP.sub (ws' := (iU cI 80 (o 1) (r_6 1) (n_7 1) (z_8 1) (F_9 1))) [4, 5] rfl
    refine xk_pure (va_runV (As := []) (rest := [.int (iz p0)]) ⟨hx, hb, hml, hown, hts⟩ (x_size l dC dI cI cB cE 80 (o 1) (r_6 1) (n_7 1) (z_8 1) (F_9 1)  H.size ) (cwV 0 hts (kx_gV kq_18_xrows_40 kq_15_xspan_10 kq_15_xspan_11 kq_13_xints_6 kq_15_xspan_12 rfl) rfl rfl rfl (by decide +kernel) ⟨Nat.le_of_ble_eq_true rfl, Nat.le_of_ble_eq_true rfl⟩) ⟨pPre_blind, va_recv hK hPc (ci := 1) (q0 := 0) rfl rfl, pPre_give hPc hK hG⟩ rfl rfl hl.1 rfl (lv_room (Nat.le_of_ble_eq_true rfl)) dX5_row_13 ⟨show (0 + dn_4) + 0 ≤ 1200 from (by omega), show (0 + dm_5) + 0 ≤ 600000 from (by omega)⟩) hS (fun z_19 locs hq_18 hS => ?_)
    refine W.eq (g2 := F0 m 16 ls [.int (iz z_19), .int (iz p0)]) rfl ?_
    try dsimp only at hq_18
    have hq_18 := hq_18.symm
    subst hq_18
    refine ki_icmp_lt (tgt := 27) hx hb dX5_row_16 (by decide) (by omega) (by omega) (by omega) (by omega) (fun c_20 => ?_) (fun c_20 => ?_)
    · skip
      refine lv_aload_n hx hb dX5_row_27 rfl (lv_at hl 0 rfl) ?_
      refine va_get (D := (dC, dI)) (ci := 5) (v := .ref (o 1)) (C := RX5) (T := TX5) (N := 16) hx hb hts kt_X5 hown hK hP 0 rfl rfl 6 (by decide) (kx_word hG kq_18_xrows_47 rfl) (fun _ h9 => h9) rfl dX5_row_28 ?_
      refine lv_iload_n hx hb dX5_row_31 rfl (lv_at hl 1 rfl) ?_
      have hPc := hP.sub (ws' := (iU cI 80 (o 1) (r_6 1) (n_7 1) (z_8 1) (F_9 1))) [4, 5] rfl
      refine xk_pure (va_runV (As := [.int (iz p0)]) (rest := []) ⟨hx, hb, hml, hown, hts⟩ (x_get l dC dI cI cB cE 80 (o 1) (r_6 1) (n_7 1) (z_8 1) (F_9 1) p0 H.size (by omega) (hok14.2.2.1 1) (by omega) (by omega)) (cwV 1 hts (kx_gV kq_18_xrows_41 kq_13_xints_4 kq_13_xints_5 kq_13_xints_6 kq_13_xints_7 rfl) rfl rfl rfl (by decide +kernel) ⟨Nat.le_of_ble_eq_true rfl, Nat.le_of_ble_eq_true rfl⟩) ⟨pPre_blind, va_recv hK hPc (ci := 1) (q0 := 0) rfl rfl, pPre_give hPc hK hG⟩ rfl rfl hl.1 rfl (lv_room (Nat.le_of_ble_eq_true rfl)) dX5_row_32 ⟨show (0 + dn_4) + 0 ≤ 1200 from (by omega), show (0 + dm_5) + 0 ≤ 600000 from (by omega)⟩) hS (fun z_22 locs hq_21 hS => ?_)
      refine W.eq (g2 := F0 m 35 ls [.int (iz z_22)]) rfl ?_
      try dsimp only at hq_21
      refine lv_istore_n (lv' := [(3, .int (iz z_22)), (0, .ref (o 15)), (1, .int (iz p0)), (2, .int (iz p1))]) hx hb dX5_row_35 rfl hl (by decide) rfl (fun ls hl => ?_)
      refine lv_iload_n hx hb dX5_row_36 rfl (lv_at hl 3 rfl) ?_
      by_cases hsw_23 : p1 = 0
      · skip
        refine ki_is (show iz (p1) = iz 0 by rw [hsw_23]) ?_
        refine lv_tableIn (off := 35) (tgt := 72) hx hb dX5_row_37 (by decide) (by decide) (by decide) (by decide) ?_
        refine lv_iload_n hx hb dX5_row_72 rfl (lv_at hl 0 rfl) ?_
        refine vx_ret ?_
        exact xk_iret (ov := (fun u : (Int) × (Nat → Nat) × (Nat → Nat) × (Nat → Int) × (Nat → Int → Int) × (Nat → Nat → Nat) × (Nat → Nat → Nat) × (Nat → Nat → Int) × (Nat → Nat → Int → Int) => match u with | (q, r', n', z', F', Er', En', Ez', EF') => some (.int (iz q)))) (post := (fun (u : (Int) × (Nat → Nat) × (Nat → Nat) × (Nat → Int) × (Nat → Int → Int) × (Nat → Nat → Nat) × (Nat → Nat → Nat) × (Nat → Nat → Int) × (Nat → Nat → Int → Int)) (dn dm : Nat) => match u with | (q, r', n', z', F', Er', En', Ez', EF') => xR [0, 1, 2, 4, 5, 6, 7, 8, 9, 15, 16] [0, 1, 2, 4, 5, 6, 7, 8, 9] [10] [] N z F En Ez EF n' z' F' En' Ez' EF' ∧ (dn + xg n' ≤ xg n + 0 ∧ dm + xp n' ≤ xp n + 0) ∧ (rs_RK z' F' Ez' lv ab Wd cm))) (ws := (fun u : (Int) × (Nat → Nat) × (Nat → Nat) × (Nat → Int) × (Nat → Int → Int) × (Nat → Nat → Nat) × (Nat → Nat → Nat) × (Nat → Nat → Int) × (Nat → Nat → Int → Int) => match u with | (q, r', n', z', F', Er', En', Ez', EF') => (xU cI cB cE o r' n' z' F' G (Eo 0 0) ++ eP cI N Eo Er' En' Ez' EF'))) (tys := xT cI cB cE) (z := z_22) (z_22, r_6, n_7, z_8, F_9, Er_10, En_11, Ez_12, EF_13) hx hb hr rfl hlocks rfl hP hD hK hS dX5_row_73 (fun dn dm hdn hdm => ⟨⟨hok14, hfr14, hPE14, hef14⟩, ⟨by omega, by omega⟩, hrk15⟩) (by omega) (by omega)
      by_cases hsw_24 : p1 = 1
      · skip
        refine ki_is (show iz (p1) = iz 1 by rw [hsw_24]) ?_
        refine lv_tableIn (off := 37) (tgt := 74) hx hb dX5_row_37 (by decide) (by decide) (by decide) (by decide) ?_
        refine lv_aload_n hx hb dX5_row_74 rfl (lv_at hl 1 rfl) ?_
        refine lv_iload_n hx hb dX5_row_75 rfl (lv_at hl 0 rfl) ?_
        have hxz_25 : -2147483648 ≤ z_8 12 ∧ z_8 12 < 2147483648 := hok14.2.2.2.1 12
        have hxG9 : xG N (z_8 12) G Eo := ⟨by omega, by omega, by omega, fun e9 h9 => hN4 e9 (by omega)⟩
        have hP : va_P (dC, dI) kxCl (xU cI cB cE o r_6 n_7 z_8 F_9 G (Eo 0 0) ++ eP cI N Eo Er_10 En_11 Ez_12 EF_13) H := hP
        refine xk_pure (va_runV (As := [.int (iz z_22)]) (rest := []) ⟨hx, hb, hml, hown, hts⟩ (y_known l dC dI cI cB cE o r_6 n_7 z_8 F_9 G N Eo Er_10 En_11 Ez_12 EF_13 z_22 H.size hok14 hxG9 hPE14 (by omega) (by omega)) (cwV 1 hts (kx_gV kq_18_xrows_8 kq_18_xrows_9 kq_18_xrows_10 kq_18_xrows_4 kq_18_xrows_11 rfl) rfl rfl rfl (by decide +kernel) ⟨Nat.le_of_ble_eq_true rfl, Nat.le_of_ble_eq_true rfl⟩) ⟨pPre_blind, va_recv hK hP (ci := 5) (q0 := 0) rfl rfl, pPre_give hP hK hG⟩ rfl rfl hl.1 rfl (lv_room (Nat.le_of_ble_eq_true rfl)) dX5_row_76 ⟨show (0 + dn_4) + 0 ≤ 1200 from (by omega), show (0 + dm_5) + 0 ≤ 600000 from (by omega)⟩) hS (fun z_27 locs hq_26 hS => ?_)
        refine W.eq (g2 := F0 m 79 ls [.ref z_27.toNat]) rfl ?_
        try dsimp only at hq_26
        obtain ⟨j28, hj28, ez28, hje28⟩ := hq_26
        subst ez28
        refine W.eq (g2 := F0 m 79 ls [.ref (Eo j28 0)]) rfl ?_
        have hP := eP_foc hj28 hP
        have hD := eD_foc hj28 hD
        have hez_29 : -2147483648 ≤ Ez_12 j28 7 ∧ Ez_12 j28 7 < 2147483648 := (hPE14 j28 hj28).2.2 7
        refine va_getN (D := (dC, dI)) (ci := 0) (v := .int (iz (Ez_12 j28 7))) (C := RX0) (T := TX0) (N := 12) hx hb hts kt_X0 hown hK hP 29 rfl rfl 0 (by decide) (va_Nw.use rfl (kx_nf hG kq_18_xrows_12)) (fun _ h9 => h9) rfl dX5_row_79 ?_
        have hP := eP_un0 hj28 hP
        have hD := eD_un0 hj28 hD
        refine vx_ret ?_
        exact xk_iret (ov := (fun u : (Int) × (Nat → Nat) × (Nat → Nat) × (Nat → Int) × (Nat → Int → Int) × (Nat → Nat → Nat) × (Nat → Nat → Nat) × (Nat → Nat → Int) × (Nat → Nat → Int → Int) => match u with | (q, r', n', z', F', Er', En', Ez', EF') => some (.int (iz q)))) (post := (fun (u : (Int) × (Nat → Nat) × (Nat → Nat) × (Nat → Int) × (Nat → Int → Int) × (Nat → Nat → Nat) × (Nat → Nat → Nat) × (Nat → Nat → Int) × (Nat → Nat → Int → Int)) (dn dm : Nat) => match u with | (q, r', n', z', F', Er', En', Ez', EF') => xR [0, 1, 2, 4, 5, 6, 7, 8, 9, 15, 16] [0, 1, 2, 4, 5, 6, 7, 8, 9] [10] [] N z F En Ez EF n' z' F' En' Ez' EF' ∧ (dn + xg n' ≤ xg n + 0 ∧ dm + xp n' ≤ xp n + 0) ∧ (rs_RK z' F' Ez' lv ab Wd cm))) (ws := (fun u : (Int) × (Nat → Nat) × (Nat → Nat) × (Nat → Int) × (Nat → Int → Int) × (Nat → Nat → Nat) × (Nat → Nat → Nat) × (Nat → Nat → Int) × (Nat → Nat → Int → Int) => match u with | (q, r', n', z', F', Er', En', Ez', EF') => (xU cI cB cE o r' n' z' F' G (Eo 0 0) ++ eP cI N Eo Er' En' Ez' EF'))) (tys := xT cI cB cE) (z := Ez_12 j28 7) (Ez_12 j28 7, r_6, n_7, z_8, F_9, Er_10, En_11, Ez_12, EF_13) hx hb hr rfl hlocks rfl hP hD hK hS dX5_row_82 (fun dn dm hdn hdm => ⟨⟨hok14, hfr14, hPE14, hef14⟩, ⟨by omega, by omega⟩, hrk15⟩) (by omega) (by omega)
      by_cases hsw_30 : p1 = 2
      · skip
        refine ki_is (show iz (p1) = iz 2 by rw [hsw_30]) ?_
        refine lv_tableIn (off := 46) (tgt := 83) hx hb dX5_row_37 (by decide) (by decide) (by decide) (by decide) ?_
        refine lv_aload_n hx hb dX5_row_83 rfl (lv_at hl 1 rfl) ?_
        refine lv_iload_n hx hb dX5_row_84 rfl (lv_at hl 0 rfl) ?_
        have hxz_31 : -2147483648 ≤ z_8 12 ∧ z_8 12 < 2147483648 := hok14.2.2.2.1 12
        have hxG9 : xG N (z_8 12) G Eo := ⟨by omega, by omega, by omega, fun e9 h9 => hN4 e9 (by omega)⟩
        have hP : va_P (dC, dI) kxCl (xU cI cB cE o r_6 n_7 z_8 F_9 G (Eo 0 0) ++ eP cI N Eo Er_10 En_11 Ez_12 EF_13) H := hP
        have hD : va_D A (xU cI cB cE o r_6 n_7 z_8 F_9 G (Eo 0 0) ++ eP cI N Eo Er_10 En_11 Ez_12 EF_13) := hD
        have hFc := xw_free hD hS hA
        refine xk_call (va_runV (As := [.int (iz z_22)]) (rest := []) ⟨hx, hb, hml, hown, hts⟩ (y_findLocators l dC dI cI cB cE o r_6 n_7 z_8 F_9 G N Eo Er_10 En_11 Ez_12 EF_13 z_22 H.size hok14 hxG9 hPE14 (by omega) (by omega)) (cwV 1 hts (kx_gV kq_21_xcalls_29 kq_21_xcalls_30 kq_21_xcalls_31 kq_18_xrows_4 kq_21_xcalls_32 rfl) rfl rfl rfl (by decide +kernel) ⟨Nat.le_of_ble_eq_true rfl, Nat.le_of_ble_eq_true rfl⟩) ⟨kx_blind, va_recv hK hP (ci := 5) (q0 := 0) rfl rfl, kx_give (ws := []) (tys := []) hP hD hK hG hZ hS hFc⟩ rfl rfl hl.1 rfl (lv_room (Nat.le_of_ble_eq_true rfl)) dX5_row_85 ⟨show (0 + dn_4) + 400 ≤ 1200 from (by omega), show (0 + dm_5) + 170000 ≤ 600000 from (by omega)⟩) hS (fun q _ h => hFc q h) hFc (fun u dn_34 dm_35 t H locs ht hvm hq_32 hB hk1 hS => ?_)
        obtain ⟨r_36, n_37, z_38, F_39, Er_40, En_41, Ez_42, EF_43⟩ := u
        obtain ⟨hP, hK1, hD1⟩ := hB
        rw [ht] at hP
        have hD := hD1.weaken (fun _ q _ h => hFc _ h)
        obtain ⟨hR44, hC44, hq_32⟩ := hq_32
        have hok44 := hR44.1
        have hfr44 := hfr14.tr (hR44.2.1.mono (S' := [0, 1, 2, 4, 5, 6, 7, 8, 9, 15, 16]) (T' := [0, 1, 2, 4, 5, 6, 7, 8, 9]) (by decide) (by decide))
        have hPE44 := hR44.2.2.1
        have hef44 := hef14.tr (hR44.2.2.2.mono (S' := [10]) (T' := []) (by decide) (by decide))
        have hz44 : z_38 12 = (z_8 12) := hR44.2.1.1 12 (by decide)
        refine W.eq (g2 := F0 m 88 ls []) rfl ?_
        try dsimp only at hq_32
        have hrk45 : rs_RK z_38 F_39 Ez_42 lv ab Wd cm := rs_RK.fr hrk15 (hR44.2.1.1 15 (by decide)) (hR44.2.1.1 12 (by decide)) (hR44.2.1.1 1 (by decide)) (hR44.2.1.2 1 (by decide)) (fun j => hR44.2.2.2.1 j 10 (by decide))
        refine lv_aload_n hx hb dX5_row_88 rfl (lv_at hl 1 rfl) ?_
        refine va_get (D := (dC, dI)) (ci := 5) (v := .ref (o 14)) (C := RX5) (T := TX5) (N := 16) hx hb hts kt_X5 hown hK hP 0 rfl rfl 9 (by decide) (kx_word hG kq_19_xouts_0 rfl) (fun _ h9 => h9) rfl dX5_row_89 ?_
        have hxi_46 : 0 ≤ z_38 7 ∧ z_38 7 ≤ ((n_37 7 : Nat) : Int) ∧ ((n_37 7 : Nat) : Int) ≤ 1600 := hok44.1 7 (by decide)
        have hxi_47 : 0 ≤ z_38 8 ∧ z_38 8 ≤ ((n_37 8 : Nat) : Int) ∧ ((n_37 8 : Nat) : Int) ≤ 1600 := hok44.1 8 (by decide)
        have hxi_48 : 0 ≤ z_38 9 ∧ z_38 9 ≤ ((n_37 9 : Nat) : Int) ∧ ((n_37 9 : Nat) : Int) ≤ 1600 := hok44.1 9 (by decide)
        have hPc := hP.sub (ws' := (sU cI 1600 (o 14) (o 7) (o 8) (o 9) (r_36 7) (r_36 8) (r_36 9) (n_37 7) (n_37 8) (n_37 9) (z_38 7) (z_38 8) (z_38 9) (F_39 7) (F_39 8) (F_39 9))) [17, 18, 19, 20, 21, 22, 23] rfl
        refine xk_pure (va_runV (As := []) (rest := []) ⟨hx, hb, hml, hown, hts⟩ (x_ssize l dC dI cI cB cE 1600 (o 14) (o 7) (o 8) (o 9) (r_36 7) (r_36 8) (r_36 9) (n_37 7) (n_37 8) (n_37 9) (z_38 7) (z_38 8) (z_38 9) (F_39 7) (F_39 8) (F_39 9)  H.size ) (cwV 0 hts (kx_gV kq_19_xouts_3 kq_15_xspan_51 kq_15_xspan_52 kq_15_xspan_53 kq_15_xspan_54 rfl) rfl rfl rfl (by decide +kernel) ⟨Nat.le_of_ble_eq_true rfl, Nat.le_of_ble_eq_true rfl⟩) ⟨pPre_blind, va_recv hK hPc (ci := 3) (q0 := 0) rfl rfl, pPre_give hPc hK hG⟩ rfl rfl hl.1 rfl (lv_room (Nat.le_of_ble_eq_true rfl)) dX5_row_92 ⟨show ((0 + dn_4) + dn_34) + 0 ≤ 1200 from (by omega), show ((0 + dm_5) + dm_35) + 0 ≤ 600000 from (by omega)⟩) hS (fun z_50 locs hq_49 hS => ?_)
        refine W.eq (g2 := F0 m 95 ls [.int (iz z_50)]) rfl ?_
        try dsimp only at hq_49
        have hq_49 := hq_49.symm
        subst hq_49
        refine vx_ret ?_
        exact xk_iret (ov := (fun u : (Int) × (Nat → Nat) × (Nat → Nat) × (Nat → Int) × (Nat → Int → Int) × (Nat → Nat → Nat) × (Nat → Nat → Nat) × (Nat → Nat → Int) × (Nat → Nat → Int → Int) => match u with | (q, r', n', z', F', Er', En', Ez', EF') => some (.int (iz q)))) (post := (fun (u : (Int) × (Nat → Nat) × (Nat → Nat) × (Nat → Int) × (Nat → Int → Int) × (Nat → Nat → Nat) × (Nat → Nat → Nat) × (Nat → Nat → Int) × (Nat → Nat → Int → Int)) (dn dm : Nat) => match u with | (q, r', n', z', F', Er', En', Ez', EF') => xR [0, 1, 2, 4, 5, 6, 7, 8, 9, 15, 16] [0, 1, 2, 4, 5, 6, 7, 8, 9] [10] [] N z F En Ez EF n' z' F' En' Ez' EF' ∧ (dn + xg n' ≤ xg n + 0 ∧ dm + xp n' ≤ xp n + 0) ∧ (rs_RK z' F' Ez' lv ab Wd cm))) (ws := (fun u : (Int) × (Nat → Nat) × (Nat → Nat) × (Nat → Int) × (Nat → Int → Int) × (Nat → Nat → Nat) × (Nat → Nat → Nat) × (Nat → Nat → Int) × (Nat → Nat → Int → Int) => match u with | (q, r', n', z', F', Er', En', Ez', EF') => (xU cI cB cE o r' n' z' F' G (Eo 0 0) ++ eP cI N Eo Er' En' Ez' EF'))) (tys := xT cI cB cE) (z := z_38 7) (z_38 7, r_36, n_37, z_38, F_39, Er_40, En_41, Ez_42, EF_43) hx hb hr rfl hlocks rfl hP hD hK hS dX5_row_95 (fun dn dm hdn hdm => ⟨⟨hok44, hfr44, hPE44, hef44⟩, ⟨by omega, by omega⟩, hrk45⟩) (by omega) (by omega)
      by_cases hsw_51 : p1 = 3
      · skip
        refine ki_is (show iz (p1) = iz 3 by rw [hsw_51]) ?_
        refine lv_tableIn (off := 59) (tgt := 96) hx hb dX5_row_37 (by decide) (by decide) (by decide) (by decide) ?_
        refine lv_aload_n hx hb dX5_row_96 rfl (lv_at hl 1 rfl) ?_
        refine lv_iload_n hx hb dX5_row_97 rfl (lv_at hl 0 rfl) ?_
        have hxz_52 : -2147483648 ≤ z_8 12 ∧ z_8 12 < 2147483648 := hok14.2.2.2.1 12
        have hxG9 : xG N (z_8 12) G Eo := ⟨by omega, by omega, by omega, fun e9 h9 => hN4 e9 (by omega)⟩
        have hP : va_P (dC, dI) kxCl (xU cI cB cE o r_6 n_7 z_8 F_9 G (Eo 0 0) ++ eP cI N Eo Er_10 En_11 Ez_12 EF_13) H := hP
        have hD : va_D A (xU cI cB cE o r_6 n_7 z_8 F_9 G (Eo 0 0) ++ eP cI N Eo Er_10 En_11 Ez_12 EF_13) := hD
        have hFc := xw_free hD hS hA
        refine xk_call (va_runV (As := [.int (iz z_22)]) (rest := []) ⟨hx, hb, hml, hown, hts⟩ (y_findSeen l dC dI cI cB cE o r_6 n_7 z_8 F_9 G N Eo Er_10 En_11 Ez_12 EF_13 z_22 H.size hok14 hxG9 hPE14 (by omega) (by omega)) (cwV 1 hts (kx_gV kq_21_xcalls_33 kq_21_xcalls_34 kq_21_xcalls_35 kq_18_xrows_4 kq_21_xcalls_36 rfl) rfl rfl rfl (by decide +kernel) ⟨Nat.le_of_ble_eq_true rfl, Nat.le_of_ble_eq_true rfl⟩) ⟨kx_blind, va_recv hK hP (ci := 5) (q0 := 0) rfl rfl, kx_give (ws := []) (tys := []) hP hD hK hG hZ hS hFc⟩ rfl rfl hl.1 rfl (lv_room (Nat.le_of_ble_eq_true rfl)) dX5_row_98 ⟨show (0 + dn_4) + 260 ≤ 1200 from (by omega), show (0 + dm_5) + 110000 ≤ 600000 from (by omega)⟩) hS (fun q _ h => hFc q h) hFc (fun u dn_55 dm_56 t H locs ht hvm hq_53 hB hk1 hS => ?_)
        obtain ⟨r_57, n_58, z_59, F_60, Er_61, En_62, Ez_63, EF_64⟩ := u
        obtain ⟨hP, hK1, hD1⟩ := hB
        rw [ht] at hP
        have hD := hD1.weaken (fun _ q _ h => hFc _ h)
        obtain ⟨hR65, hC65, hq_53⟩ := hq_53
        have hok65 := hR65.1
        have hfr65 := hfr14.tr (hR65.2.1.mono (S' := [0, 1, 2, 4, 5, 6, 7, 8, 9, 15, 16]) (T' := [0, 1, 2, 4, 5, 6, 7, 8, 9]) (by decide) (by decide))
        have hPE65 := hR65.2.2.1
        have hef65 := hef14.tr (hR65.2.2.2.mono (S' := [10]) (T' := []) (by decide) (by decide))
        have hz65 : z_59 12 = (z_8 12) := hR65.2.1.1 12 (by decide)
        refine W.eq (g2 := F0 m 101 ls []) rfl ?_
        try dsimp only at hq_53
        have hrk66 : rs_RK z_59 F_60 Ez_63 lv ab Wd cm := rs_RK.fr hrk15 (hR65.2.1.1 15 (by decide)) (hR65.2.1.1 12 (by decide)) (hR65.2.1.1 1 (by decide)) (hR65.2.1.2 1 (by decide)) (fun j => hR65.2.2.2.1 j 10 (by decide))
        refine lv_aload_n hx hb dX5_row_101 rfl (lv_at hl 1 rfl) ?_
        refine va_get (D := (dC, dI)) (ci := 5) (v := .ref (o 2)) (C := RX5) (T := TX5) (N := 16) hx hb hts kt_X5 hown hK hP 0 rfl rfl 11 (by decide) (kx_word hG kq_19_xouts_27 rfl) (fun _ h9 => h9) rfl dX5_row_102 ?_
        have hxi_67 : 0 ≤ z_59 2 ∧ z_59 2 ≤ ((n_58 2 : Nat) : Int) ∧ ((n_58 2 : Nat) : Int) ≤ 80 := hok65.1 2 (by decide)
        have hPc := hP.sub (ws' := (iU cI 80 (o 2) (r_57 2) (n_58 2) (z_59 2) (F_60 2))) [6, 7] rfl
        refine xk_pure (va_runV (As := []) (rest := []) ⟨hx, hb, hml, hown, hts⟩ (x_size l dC dI cI cB cE 80 (o 2) (r_57 2) (n_58 2) (z_59 2) (F_60 2)  H.size ) (cwV 0 hts (kx_gV kq_18_xrows_40 kq_15_xspan_10 kq_15_xspan_11 kq_13_xints_6 kq_15_xspan_12 rfl) rfl rfl rfl (by decide +kernel) ⟨Nat.le_of_ble_eq_true rfl, Nat.le_of_ble_eq_true rfl⟩) ⟨pPre_blind, va_recv hK hPc (ci := 1) (q0 := 0) rfl rfl, pPre_give hPc hK hG⟩ rfl rfl hl.1 rfl (lv_room (Nat.le_of_ble_eq_true rfl)) dX5_row_105 ⟨show ((0 + dn_4) + dn_55) + 0 ≤ 1200 from (by omega), show ((0 + dm_5) + dm_56) + 0 ≤ 600000 from (by omega)⟩) hS (fun z_69 locs hq_68 hS => ?_)
        refine W.eq (g2 := F0 m 108 ls [.int (iz z_69)]) rfl ?_
        try dsimp only at hq_68
        have hq_68 := hq_68.symm
        subst hq_68
        refine vx_ret ?_
        exact xk_iret (ov := (fun u : (Int) × (Nat → Nat) × (Nat → Nat) × (Nat → Int) × (Nat → Int → Int) × (Nat → Nat → Nat) × (Nat → Nat → Nat) × (Nat → Nat → Int) × (Nat → Nat → Int → Int) => match u with | (q, r', n', z', F', Er', En', Ez', EF') => some (.int (iz q)))) (post := (fun (u : (Int) × (Nat → Nat) × (Nat → Nat) × (Nat → Int) × (Nat → Int → Int) × (Nat → Nat → Nat) × (Nat → Nat → Nat) × (Nat → Nat → Int) × (Nat → Nat → Int → Int)) (dn dm : Nat) => match u with | (q, r', n', z', F', Er', En', Ez', EF') => xR [0, 1, 2, 4, 5, 6, 7, 8, 9, 15, 16] [0, 1, 2, 4, 5, 6, 7, 8, 9] [10] [] N z F En Ez EF n' z' F' En' Ez' EF' ∧ (dn + xg n' ≤ xg n + 0 ∧ dm + xp n' ≤ xp n + 0) ∧ (rs_RK z' F' Ez' lv ab Wd cm))) (ws := (fun u : (Int) × (Nat → Nat) × (Nat → Nat) × (Nat → Int) × (Nat → Int → Int) × (Nat → Nat → Nat) × (Nat → Nat → Nat) × (Nat → Nat → Int) × (Nat → Nat → Int → Int) => match u with | (q, r', n', z', F', Er', En', Ez', EF') => (xU cI cB cE o r' n' z' F' G (Eo 0 0) ++ eP cI N Eo Er' En' Ez' EF'))) (tys := xT cI cB cE) (z := z_59 2) (z_59 2, r_57, n_58, z_59, F_60, Er_61, En_62, Ez_63, EF_64) hx hb hr rfl hlocks rfl hP hD hK hS dX5_row_108 (fun dn dm hdn hdm => ⟨⟨hok65, hfr65, hPE65, hef65⟩, ⟨by omega, by omega⟩, hrk66⟩) (by omega) (by omega)
      by_cases hsw_70 : p1 = 4
      · skip
        refine ki_is (show iz (p1) = iz 4 by rw [hsw_70]) ?_
        refine lv_tableIn (off := 72) (tgt := 109) hx hb dX5_row_37 (by decide) (by decide) (by decide) (by decide) ?_
        refine lv_aload_n hx hb dX5_row_109 rfl (lv_at hl 1 rfl) ?_
        refine lv_iload_n hx hb dX5_row_110 rfl (lv_at hl 0 rfl) ?_
        have hxz_71 : -2147483648 ≤ z_8 12 ∧ z_8 12 < 2147483648 := hok14.2.2.2.1 12
        have hxG9 : xG N (z_8 12) G Eo := ⟨by omega, by omega, by omega, fun e9 h9 => hN4 e9 (by omega)⟩
        have hP : va_P (dC, dI) kxCl (xU cI cB cE o r_6 n_7 z_8 F_9 G (Eo 0 0) ++ eP cI N Eo Er_10 En_11 Ez_12 EF_13) H := hP
        refine xk_pure (va_runV (As := [.int (iz z_22)]) (rest := []) ⟨hx, hb, hml, hown, hts⟩ (y_groupOf l dC dI cI cB cE o r_6 n_7 z_8 F_9 G N Eo Er_10 En_11 Ez_12 EF_13 z_22 H.size hok14 hxG9 hPE14 (by omega) (by omega)) (cwV 1 hts (kx_gV kq_21_xcalls_37 kq_21_xcalls_38 kq_21_xcalls_39 kq_18_xrows_4 kq_21_xcalls_40 rfl) rfl rfl rfl (by decide +kernel) ⟨Nat.le_of_ble_eq_true rfl, Nat.le_of_ble_eq_true rfl⟩) ⟨pPre_blind, va_recv hK hP (ci := 5) (q0 := 0) rfl rfl, pPre_give hP hK hG⟩ rfl rfl hl.1 rfl (lv_room (Nat.le_of_ble_eq_true rfl)) dX5_row_111 ⟨show (0 + dn_4) + 0 ≤ 1200 from (by omega), show (0 + dm_5) + 0 ≤ 600000 from (by omega)⟩) hS (fun z_73 locs hq_72 hS => ?_)
        refine W.eq (g2 := F0 m 114 ls [.int (iz z_73)]) rfl ?_
        try dsimp only at hq_72
        refine vx_ret ?_
        exact xk_iret (ov := (fun u : (Int) × (Nat → Nat) × (Nat → Nat) × (Nat → Int) × (Nat → Int → Int) × (Nat → Nat → Nat) × (Nat → Nat → Nat) × (Nat → Nat → Int) × (Nat → Nat → Int → Int) => match u with | (q, r', n', z', F', Er', En', Ez', EF') => some (.int (iz q)))) (post := (fun (u : (Int) × (Nat → Nat) × (Nat → Nat) × (Nat → Int) × (Nat → Int → Int) × (Nat → Nat → Nat) × (Nat → Nat → Nat) × (Nat → Nat → Int) × (Nat → Nat → Int → Int)) (dn dm : Nat) => match u with | (q, r', n', z', F', Er', En', Ez', EF') => xR [0, 1, 2, 4, 5, 6, 7, 8, 9, 15, 16] [0, 1, 2, 4, 5, 6, 7, 8, 9] [10] [] N z F En Ez EF n' z' F' En' Ez' EF' ∧ (dn + xg n' ≤ xg n + 0 ∧ dm + xp n' ≤ xp n + 0) ∧ (rs_RK z' F' Ez' lv ab Wd cm))) (ws := (fun u : (Int) × (Nat → Nat) × (Nat → Nat) × (Nat → Int) × (Nat → Int → Int) × (Nat → Nat → Nat) × (Nat → Nat → Nat) × (Nat → Nat → Int) × (Nat → Nat → Int → Int) => match u with | (q, r', n', z', F', Er', En', Ez', EF') => (xU cI cB cE o r' n' z' F' G (Eo 0 0) ++ eP cI N Eo Er' En' Ez' EF'))) (tys := xT cI cB cE) (z := z_73) (z_73, r_6, n_7, z_8, F_9, Er_10, En_11, Ez_12, EF_13) hx hb hr rfl hlocks rfl hP hD hK hS dX5_row_114 (fun dn dm hdn hdm => ⟨⟨hok14, hfr14, hPE14, hef14⟩, ⟨by omega, by omega⟩, hrk15⟩) (by omega) (by omega)
      refine lv_tableOut (tgt := 115) hx hb dX5_row_37 (by rw [iz_toInt (by omega) (by omega)]; omega) (by decide) ?_
      exact ky_thr_IOB hx hb hlf hown hG hZ hS (hl.1.trans hml.symm) dX5_row_115 dX5_row_118 dX5_row_119 dX5_row_122 htab (Nat.le_of_ble_eq_true rfl) (Nat.le_of_ble_eq_true rfl) (show (0 + dn_4) + 1 ≤ 1200 from (by omega)) (show (0 + dm_5) + 6 ≤ 600000 from (by omega)) hlocks (⟨rfl, by first | trivial | omega⟩) (fun t hvm h1 h2 => ⟨(r_6, n_7, z_8, F_9, Er_10, En_11, Ez_12, EF_13), ⟨hok14, hfr14, hPE14, hef14⟩, hrk15, hP.kept (fun k q hk => h2 q.1 (hP k q hk).lt), va_K.moved hvm hK, hD⟩) hS.2.2 (by omega) (by omega) (by omega) (by omega)
    · skip
      exact ky_thr_IOB hx hb hlf hown hG hZ hS (hl.1.trans hml.symm) dX5_row_19 dX5_row_22 dX5_row_23 dX5_row_26 htab (Nat.le_of_ble_eq_true rfl) (Nat.le_of_ble_eq_true rfl) (show (0 + dn_4) + 1 ≤ 1200 from (by omega)) (show (0 + dm_5) + 6 ≤ 600000 from (by omega)) hlocks (⟨rfl, by first | trivial | omega⟩) (fun t hvm h1 h2 => ⟨(r_6, n_7, z_8, F_9, Er_10, En_11, Ez_12, EF_13), ⟨hok14, hfr14, hPE14, hef14⟩, hrk15, hP.kept (fun k q hk => h2 q.1 (hP k q hk).lt), va_K.moved hvm hK, hD⟩) hS.2.2 (by omega) (by omega) (by omega) (by omega)
set_option maxHeartbeats 4000000 in
set_option maxRecDepth 100000 in
theorem y_locator3 (l : Launch) (hlf : l.stackTraces = false) (dC : Nat → ClassId) (dI : Nat → Nat → Nat) (cI cB cE : ClassId) (o r n : Nat → Nat) (z : Nat → Int) (F : Nat → Int → Int) (G : Nat → Option Nat) (N : Nat) (Eo Er En : Nat → Nat → Nat) (Ez : Nat → Nat → Int) (EF : Nat → Nat → Int → Int) (p0 : Int) (p1 : Int) (p2 : Int) (lv : Int → Int) (ab : Int → Int) (Wd : Int → Int → Prop) (cm : Int → Int → Int) (sz : Nat) (hok : xOk n z F) (hxG : xG N (z 12) G Eo) (hPE : eA N En Ez EF) (hp01 : -2147483648 ≤ p0) (hp02 : p0 < 2147483648) (hp11 : -2147483648 ≤ p1) (hp12 : p1 < 2147483648) (hp21 : -2147483648 ≤ p2) (hp22 : p2 < 2147483648) (hRH : rs_H (z 12) Ez EF lv ab Wd cm) (h79 : z 12 ≤ 78) (hkn : rs_RK z F Ez lv ab Wd cm) : vx_Met l yX5_locator [.code yX5_locator cX5_locator 5 (some .int)] ({ frames := 7, cells := 1200, slots := 600000, locals := 196 }) (va_Pc [.ref (o 15), .int (iz p0), .int (iz p1), .int (iz p2)] (kx_Pre dC dI (xU cI cB cE o r n z F G (Eo 0 0) ++ eP cI N Eo Er En Ez EF) (xT cI cB cE) sz)) (xQ (fun u : (Int) × (Nat → Nat) × (Nat → Nat) × (Nat → Int) × (Nat → Int → Int) × (Nat → Nat → Nat) × (Nat → Nat → Nat) × (Nat → Nat → Int) × (Nat → Nat → Int → Int) => match u with | (q, r', n', z', F', Er', En', Ez', EF') => some (.int (iz q))) (fun (u : (Int) × (Nat → Nat) × (Nat → Nat) × (Nat → Int) × (Nat → Int → Int) × (Nat → Nat → Nat) × (Nat → Nat → Nat) × (Nat → Nat → Int) × (Nat → Nat → Int → Int)) (dn dm : Nat) => match u with | (q, r', n', z', F', Er', En', Ez', EF') => xR [0, 1, 2, 4, 5, 6, 7, 8, 9, 15, 16] [0, 1, 2, 4, 5, 6, 7, 8, 9] [10] [] N z F En Ez EF n' z' F' En' Ez' EF' ∧ (dn + xg n' ≤ xg n + 0 ∧ dm + xp n' ≤ xp n + 0) ∧ (rs_RK z' F' Ez' lv ab Wd cm)) (fun u t => kx_At dC dI (va_A (xU cI cB cE o r n z F G (Eo 0 0) ++ eP cI N Eo Er En Ez EF) sz) ((fun u : (Int) × (Nat → Nat) × (Nat → Nat) × (Nat → Int) × (Nat → Int → Int) × (Nat → Nat → Nat) × (Nat → Nat → Nat) × (Nat → Nat → Int) × (Nat → Nat → Int → Int) => match u with | (q, r', n', z', F', Er', En', Ez', EF') => (xU cI cB cE o r' n' z' F' G (Eo 0 0) ++ eP cI N Eo Er' En' Ez' EF')) u) (xT cI cB cE) t) (va_A (xU cI cB cE o r n z F G (Eo 0 0) ++ eP cI N Eo Er En Ez EF) sz)) (yX (fun E => (E = "java/lang/IndexOutOfBoundsException" ∧ (True))) 95 41800 (fun t => ∃ u : (Nat → Nat) × (Nat → Nat) × (Nat → Int) × (Nat → Int → Int) × (Nat → Nat → Nat) × (Nat → Nat → Nat) × (Nat → Nat → Int) × (Nat → Nat → Int → Int), match u with | (r', n', z', F', Er', En', Ez', EF') => xR [0, 1, 2, 4, 5, 6, 7, 8, 9, 15, 16] [0, 1, 2, 4, 5, 6, 7, 8, 9] [10] [] N z F En Ez EF n' z' F' En' Ez' EF' ∧ (rs_RK z' F' Ez' lv ab Wd cm) ∧ kx_At dC dI (va_A (xU cI cB cE o r n z F G (Eo 0 0) ++ eP cI N Eo Er En Ez EF) sz) (xU cI cB cE o r' n' z' F' G (Eo 0 0) ++ eP cI N Eo Er' En' Ez' EF') (xT cI cB cE) t) (va_A (xU cI cB cE o r n z F G (Eo 0 0) ++ eP cI N Eo Er En Ez EF) sz)) 1200 600000 (va_A (xU cI cB cE o r n z F G (Eo 0 0) ++ eP cI N Eo Er En Ez EF) sz) := by
  refine vx_ofW (cc := cX5_locator) (maxL := 5) (ret := (some .int)) (by decide) rfl ?_
  intro p e s m args below meth c s₁ B hml htab hv
  obtain ⟨rfl, hsz, hP, hK, hD0, hG, hZ⟩ := hv
  have hx := B.exec
  have hb := B.bytes
  have hr := B.returns
  have hts := kx_hts (a := ([.ref (o 15), .int (iz p0), .int (iz p1), .int (iz p2)] : List Value).toArray) hG
  have hown : s.vm.findClass RX5 = some m.cls := findClass_of_methodNamed B.named
  have hlocks := B.notSynchronized
  subst hsz
  have hD := hD0.self (sz := s.heap.size)
  generalize hAe : va_A (xU cI cB cE o r n z F G (Eo 0 0) ++ eP cI N Eo Er En Ez EF) s.heap.size = A at hD hZ ⊢
  have hA : ∀ q : Nat, s.heap.size ≤ q → A q := fun q h => by rw [← hAe]; exact Or.inr h
  have hS : va_S A s.heap s.heap [] := va_S.rf
  have hl := lv_entry ([.ref (o 15), .int (iz p0), .int (iz p1), .int (iz p2)]) (n := 5) (Nat.le_of_ble_eq_true rfl)
  rw [lg_entry_eq]
  generalize (lg_sl ([.ref (o 15), .int (iz p0), .int (iz p1), .int (iz p2)]) ++ List.replicate (5 - (lg_sl ([.ref (o 15), .int (iz p0), .int (iz p1), .int (iz p2)])).length) Slot.unset).toArray = ls at hl ⊢
  obtain ⟨hN1, hN2, hN3, hN4⟩ := hxG
  have hef : eFr [10] [] En Ez EF En Ez EF := eFr.rf
  have hfr : xFr [0, 1, 2, 4, 5, 6, 7, 8, 9, 15, 16] [0, 1, 2, 4, 5, 6, 7, 8, 9] z F z F := xFr.rf
  have hxgl := xg_le n
  have hxpl := xp_le n
  have hl : lv_has ls 5 [(0, .ref (o 15)), (1, .int (iz p0)), (2, .int (iz p1)), (3, .int (iz p2))] := hl
  refine lv_aload_n hx hb dX5_locator_0 rfl (lv_at hl 0 rfl) ?_
  have hxz_1 : -2147483648 ≤ z 12 ∧ z 12 < 2147483648 := hok.2.2.2.1 12
  have hxG9 : xG N (z 12) G Eo := ⟨by omega, by omega, by omega, fun e9 h9 => hN4 e9 (by omega)⟩
  have hP : va_P (dC, dI) kxCl (xU cI cB cE o r n z F G (Eo 0 0) ++ eP cI N Eo Er En Ez EF) s.heap := hP
  have hD : va_D A (xU cI cB cE o r n z F G (Eo 0 0) ++ eP cI N Eo Er En Ez EF) := hD
  have hFc := xw_free hD hS hA
  refine xk_call (va_runV (As := []) (rest := []) ⟨hx, hb, hml, hown, hts⟩ (y_findRows2 l dC dI cI cB cE o r n z F G N Eo Er En Ez EF lv ab Wd cm s.heap.size hok hxG9 hPE (by first | exact hRH | exact hRH.fr hef (by decide) (by decide)) (by omega) hkn) (cwV 0 hts (kx_gV kq_21_xcalls_25 kq_21_xcalls_26 kq_21_xcalls_27 kq_18_xrows_4 kq_21_xcalls_28 rfl) rfl rfl rfl (by decide +kernel) ⟨Nat.le_of_ble_eq_true rfl, Nat.le_of_ble_eq_true rfl⟩) ⟨kx_blind, va_recv hK hP (ci := 5) (q0 := 0) rfl rfl, kx_give (ws := []) (tys := []) hP hD hK hG hZ hS hFc⟩ rfl rfl hl.1 rfl (lv_room (Nat.le_of_ble_eq_true rfl)) dX5_locator_1 ⟨show 0 + 600 ≤ 1200 from (by omega), show 0 + 300000 ≤ 600000 from (by omega)⟩) hS (fun q _ h => hFc q h) hFc (fun u dn_4 dm_5 t H locs ht hvm hq_2 hB hk1 hS => ?_)
  obtain ⟨r_6, n_7, z_8, F_9, Er_10, En_11, Ez_12, EF_13⟩ := u
  obtain ⟨hP, hK1, hD1⟩ := hB
  rw [ht] at hP
  have hD := hD1.weaken (fun _ q _ h => hFc _ h)
  obtain ⟨hR14, hC14, hq_2⟩ := hq_2
  have hok14 := hR14.1
  have hfr14 := hfr.tr (hR14.2.1.mono (S' := [0, 1, 2, 4, 5, 6, 7, 8, 9, 15, 16]) (T' := [0, 1, 2, 4, 5, 6, 7, 8, 9]) (by decide) (by decide))
  have hPE14 := hR14.2.2.1
  have hef14 := hef.tr (hR14.2.2.2.mono (S' := [10]) (T' := []) (by decide) (by decide))
  have hz14 : z_8 12 = (z 12) := hR14.2.1.1 12 (by decide)
  refine W.eq (g2 := F0 m 4 ls []) rfl ?_
  try dsimp only at hq_2
  obtain ⟨hk1515, hrr15⟩ := hq_2
  have hrk15 : rs_RK z_8 F_9 Ez_12 lv ab Wd cm := fun _ => hrr15
  refine lv_iload_n hx hb dX5_locator_4 rfl (lv_at hl 1 rfl) ?_
  refine ki_if_lt (tgt := 19) hx hb dX5_locator_5 (by decide) (by omega) (by omega) (fun c_16 => ?_) (fun c_16 => ?_)
  · skip
    exact ky_thr_IOB hx hb hlf hown hG hZ hS (hl.1.trans hml.symm) dX5_locator_19 dX5_locator_22 dX5_locator_23 dX5_locator_26 htab (Nat.le_of_ble_eq_true rfl) (Nat.le_of_ble_eq_true rfl) (show (0 + dn_4) + 1 ≤ 1200 from (by omega)) (show (0 + dm_5) + 6 ≤ 600000 from (by omega)) hlocks (⟨rfl, by first | trivial | omega⟩) (fun t hvm h1 h2 => ⟨(r_6, n_7, z_8, F_9, Er_10, En_11, Ez_12, EF_13), ⟨hok14, hfr14, hPE14, hef14⟩, hrk15, hP.kept (fun k q hk => h2 q.1 (hP k q hk).lt), va_K.moved hvm hK, hD⟩) hS.2.2 (by omega) (by omega) (by omega) (by omega)
  · skip
    refine lv_iload_n hx hb dX5_locator_8 rfl (lv_at hl 1 rfl) ?_
    refine lv_aload_n hx hb dX5_locator_9 rfl (lv_at hl 0 rfl) ?_
    refine va_get (D := (dC, dI)) (ci := 5) (v := .ref (o 1)) (C := RX5) (T := TX5) (N := 16) hx hb hts kt_X5 hown hK hP 0 rfl rfl 6 (by decide) (kx_word hG kq_18_xrows_47 rfl) (fun _ h9 => h9) rfl dX5_locator_10 ?_
    have hxi_17 : 0 ≤ z_8 1 ∧ z_8 1 ≤ ((n_7 1 : Nat) : Int) ∧ ((n_7 1 : Nat) : Int) ≤ 80 := hok14.1 1 (by decide)
    have hPc := hP.sub (ws' := (iU cI 80 (o 1) (r_6 1) (n_7 1) (z_8 1) (F_9 1))) [4, 5] rfl
    refine xk_pure (va_runV (As := []) (rest := [.int (iz p0)]) ⟨hx, hb, hml, hown, hts⟩ (x_size l dC dI cI cB cE 80 (o 1) (r_6 1) (n_7 1) (z_8 1) (F_9 1)  H.size ) (cwV 0 hts (kx_gV kq_18_xrows_40 kq_15_xspan_10 kq_15_xspan_11 kq_13_xints_6 kq_15_xspan_12 rfl) rfl rfl rfl (by decide +kernel) ⟨Nat.le_of_ble_eq_true rfl, Nat.le_of_ble_eq_true rfl⟩) ⟨pPre_blind, va_recv hK hPc (ci := 1) (q0 := 0) rfl rfl, pPre_give hPc hK hG⟩ rfl rfl hl.1 rfl (lv_room (Nat.le_of_ble_eq_true rfl)) dX5_locator_13 ⟨show (0 + dn_4) + 0 ≤ 1200 from (by omega), show (0 + dm_5) + 0 ≤ 600000 from (by omega)⟩) hS (fun z_19 locs hq_18 hS => ?_)
    refine W.eq (g2 := F0 m 16 ls [.int (iz z_19), .int (iz p0)]) rfl ?_
    try dsimp only at hq_18
    have hq_18 := hq_18.symm
    subst hq_18
    refine ki_icmp_lt (tgt := 27) hx hb dX5_locator_16 (by decide) (by omega) (by omega) (by omega) (by omega) (fun c_20 => ?_) (fun c_20 => ?_)
    · skip
      refine lv_aload_n hx hb dX5_locator_27 rfl (lv_at hl 0 rfl) ?_
      refine lv_aload_n hx hb dX5_locator_28 rfl (lv_at hl 0 rfl) ?_
      refine va_get (D := (dC, dI)) (ci := 5) (v := .ref (o 1)) (C := RX5) (T := TX5) (N := 16) hx hb hts kt_X5 hown hK hP 0 rfl rfl 6 (by decide) (kx_word hG kq_18_xrows_47 rfl) (fun _ h9 => h9) rfl dX5_locator_29 ?_
      refine lv_iload_n hx hb dX5_locator_32 rfl (lv_at hl 1 rfl) ?_
      have hPc := hP.sub (ws' := (iU cI 80 (o 1) (r_6 1) (n_7 1) (z_8 1) (F_9 1))) [4, 5] rfl
      refine xk_pure (va_runV (As := [.int (iz p0)]) (rest := [.ref (o 15)]) ⟨hx, hb, hml, hown, hts⟩ (x_get l dC dI cI cB cE 80 (o 1) (r_6 1) (n_7 1) (z_8 1) (F_9 1) p0 H.size (by omega) (hok14.2.2.1 1) (by omega) (by omega)) (cwV 1 hts (kx_gV kq_18_xrows_41 kq_13_xints_4 kq_13_xints_5 kq_13_xints_6 kq_13_xints_7 rfl) rfl rfl rfl (by decide +kernel) ⟨Nat.le_of_ble_eq_true rfl, Nat.le_of_ble_eq_true rfl⟩) ⟨pPre_blind, va_recv hK hPc (ci := 1) (q0 := 0) rfl rfl, pPre_give hPc hK hG⟩ rfl rfl hl.1 rfl (lv_room (Nat.le_of_ble_eq_true rfl)) dX5_locator_33 ⟨show (0 + dn_4) + 0 ≤ 1200 from (by omega), show (0 + dm_5) + 0 ≤ 600000 from (by omega)⟩) hS (fun z_22 locs hq_21 hS => ?_)
      refine W.eq (g2 := F0 m 36 ls [.int (iz z_22), .ref (o 15)]) rfl ?_
      try dsimp only at hq_21
      have hxz_23 : -2147483648 ≤ z_8 12 ∧ z_8 12 < 2147483648 := hok14.2.2.2.1 12
      have hxG9 : xG N (z_8 12) G Eo := ⟨by omega, by omega, by omega, fun e9 h9 => hN4 e9 (by omega)⟩
      have hP : va_P (dC, dI) kxCl (xU cI cB cE o r_6 n_7 z_8 F_9 G (Eo 0 0) ++ eP cI N Eo Er_10 En_11 Ez_12 EF_13) H := hP
      have hD : va_D A (xU cI cB cE o r_6 n_7 z_8 F_9 G (Eo 0 0) ++ eP cI N Eo Er_10 En_11 Ez_12 EF_13) := hD
      have hFc := xw_free hD hS hA
      refine xk_call (va_runV (As := [.int (iz z_22)]) (rest := []) ⟨hx, hb, hml, hown, hts⟩ (y_findLocators l dC dI cI cB cE o r_6 n_7 z_8 F_9 G N Eo Er_10 En_11 Ez_12 EF_13 z_22 H.size hok14 hxG9 hPE14 (by omega) (by omega)) (cwV 1 hts (kx_gV kq_21_xcalls_29 kq_21_xcalls_30 kq_21_xcalls_31 kq_18_xrows_4 kq_21_xcalls_32 rfl) rfl rfl rfl (by decide +kernel) ⟨Nat.le_of_ble_eq_true rfl, Nat.le_of_ble_eq_true rfl⟩) ⟨kx_blind, va_recv hK hP (ci := 5) (q0 := 0) rfl rfl, kx_give (ws := []) (tys := []) hP hD hK hG hZ hS hFc⟩ rfl rfl hl.1 rfl (lv_room (Nat.le_of_ble_eq_true rfl)) dX5_locator_36 ⟨show (0 + dn_4) + 400 ≤ 1200 from (by omega), show (0 + dm_5) + 170000 ≤ 600000 from (by omega)⟩) hS (fun q _ h => hFc q h) hFc (fun u dn_26 dm_27 t H locs ht hvm hq_24 hB hk1 hS => ?_)
      obtain ⟨r_28, n_29, z_30, F_31, Er_32, En_33, Ez_34, EF_35⟩ := u
      obtain ⟨hP, hK1, hD1⟩ := hB
      rw [ht] at hP
      have hD := hD1.weaken (fun _ q _ h => hFc _ h)
      obtain ⟨hR36, hC36, hq_24⟩ := hq_24
      have hok36 := hR36.1
      have hfr36 := hfr14.tr (hR36.2.1.mono (S' := [0, 1, 2, 4, 5, 6, 7, 8, 9, 15, 16]) (T' := [0, 1, 2, 4, 5, 6, 7, 8, 9]) (by decide) (by decide))
      have hPE36 := hR36.2.2.1
      have hef36 := hef14.tr (hR36.2.2.2.mono (S' := [10]) (T' := []) (by decide) (by decide))
      have hz36 : z_30 12 = (z_8 12) := hR36.2.1.1 12 (by decide)
      refine W.eq (g2 := F0 m 39 ls []) rfl ?_
      try dsimp only at hq_24
      have hrk37 : rs_RK z_30 F_31 Ez_34 lv ab Wd cm := rs_RK.fr hrk15 (hR36.2.1.1 15 (by decide)) (hR36.2.1.1 12 (by decide)) (hR36.2.1.1 1 (by decide)) (hR36.2.1.2 1 (by decide)) (fun j => hR36.2.2.2.1 j 10 (by decide))
      refine lv_iload_n hx hb dX5_locator_39 rfl (lv_at hl 2 rfl) ?_
      refine ki_if_lt (tgt := 63) hx hb dX5_locator_40 (by decide) (by omega) (by omega) (fun c_38 => ?_) (fun c_38 => ?_)
      · skip
        exact ky_thr_IOB hx hb hlf hown hG hZ hS (hl.1.trans hml.symm) dX5_locator_63 dX5_locator_66 dX5_locator_67 dX5_locator_70 htab (Nat.le_of_ble_eq_true rfl) (Nat.le_of_ble_eq_true rfl) (show ((0 + dn_4) + dn_26) + 1 ≤ 1200 from (by omega)) (show ((0 + dm_5) + dm_27) + 6 ≤ 600000 from (by omega)) hlocks (⟨rfl, by first | trivial | omega⟩) (fun t hvm h1 h2 => ⟨(r_28, n_29, z_30, F_31, Er_32, En_33, Ez_34, EF_35), ⟨hok36, hfr36, hPE36, hef36⟩, hrk37, hP.kept (fun k q hk => h2 q.1 (hP k q hk).lt), va_K.moved hvm hK, hD⟩) hS.2.2 (by omega) (by omega) (by omega) (by omega)
      · skip
        refine lv_iload_n hx hb dX5_locator_43 rfl (lv_at hl 2 rfl) ?_
        refine lv_aload_n hx hb dX5_locator_44 rfl (lv_at hl 0 rfl) ?_
        refine va_get (D := (dC, dI)) (ci := 5) (v := .ref (o 14)) (C := RX5) (T := TX5) (N := 16) hx hb hts kt_X5 hown hK hP 0 rfl rfl 9 (by decide) (kx_word hG kq_19_xouts_0 rfl) (fun _ h9 => h9) rfl dX5_locator_45 ?_
        have hxi_39 : 0 ≤ z_30 7 ∧ z_30 7 ≤ ((n_29 7 : Nat) : Int) ∧ ((n_29 7 : Nat) : Int) ≤ 1600 := hok36.1 7 (by decide)
        have hxi_40 : 0 ≤ z_30 8 ∧ z_30 8 ≤ ((n_29 8 : Nat) : Int) ∧ ((n_29 8 : Nat) : Int) ≤ 1600 := hok36.1 8 (by decide)
        have hxi_41 : 0 ≤ z_30 9 ∧ z_30 9 ≤ ((n_29 9 : Nat) : Int) ∧ ((n_29 9 : Nat) : Int) ≤ 1600 := hok36.1 9 (by decide)
        have hPc := hP.sub (ws' := (sU cI 1600 (o 14) (o 7) (o 8) (o 9) (r_28 7) (r_28 8) (r_28 9) (n_29 7) (n_29 8) (n_29 9) (z_30 7) (z_30 8) (z_30 9) (F_31 7) (F_31 8) (F_31 9))) [17, 18, 19, 20, 21, 22, 23] rfl
        refine xk_pure (va_runV (As := []) (rest := [.int (iz p1)]) ⟨hx, hb, hml, hown, hts⟩ (x_ssize l dC dI cI cB cE 1600 (o 14) (o 7) (o 8) (o 9) (r_28 7) (r_28 8) (r_28 9) (n_29 7) (n_29 8) (n_29 9) (z_30 7) (z_30 8) (z_30 9) (F_31 7) (F_31 8) (F_31 9)  H.size ) (cwV 0 hts (kx_gV kq_19_xouts_3 kq_15_xspan_51 kq_15_xspan_52 kq_15_xspan_53 kq_15_xspan_54 rfl) rfl rfl rfl (by decide +kernel) ⟨Nat.le_of_ble_eq_true rfl, Nat.le_of_ble_eq_true rfl⟩) ⟨pPre_blind, va_recv hK hPc (ci := 3) (q0 := 0) rfl rfl, pPre_give hPc hK hG⟩ rfl rfl hl.1 rfl (lv_room (Nat.le_of_ble_eq_true rfl)) dX5_locator_48 ⟨show ((0 + dn_4) + dn_26) + 0 ≤ 1200 from (by omega), show ((0 + dm_5) + dm_27) + 0 ≤ 600000 from (by omega)⟩) hS (fun z_43 locs hq_42 hS => ?_)
        refine W.eq (g2 := F0 m 51 ls [.int (iz z_43), .int (iz p1)]) rfl ?_
        try dsimp only at hq_42
        have hq_42 := hq_42.symm
        subst hq_42
        refine ki_icmp_ge (tgt := 63) hx hb dX5_locator_51 (by decide) (by omega) (by omega) (by omega) (by omega) (fun c_44 => ?_) (fun c_44 => ?_)
        · skip
          exact ky_thr_IOB hx hb hlf hown hG hZ hS (hl.1.trans hml.symm) dX5_locator_63 dX5_locator_66 dX5_locator_67 dX5_locator_70 htab (Nat.le_of_ble_eq_true rfl) (Nat.le_of_ble_eq_true rfl) (show ((0 + dn_4) + dn_26) + 1 ≤ 1200 from (by omega)) (show ((0 + dm_5) + dm_27) + 6 ≤ 600000 from (by omega)) hlocks (⟨rfl, by first | trivial | omega⟩) (fun t hvm h1 h2 => ⟨(r_28, n_29, z_30, F_31, Er_32, En_33, Ez_34, EF_35), ⟨hok36, hfr36, hPE36, hef36⟩, hrk37, hP.kept (fun k q hk => h2 q.1 (hP k q hk).lt), va_K.moved hvm hK, hD⟩) hS.2.2 (by omega) (by omega) (by omega) (by omega)
        · skip
          refine lv_iload_n hx hb dX5_locator_54 rfl (lv_at hl 3 rfl) ?_
          refine ki_if_lt (tgt := 63) hx hb dX5_locator_55 (by decide) (by omega) (by omega) (fun c_45 => ?_) (fun c_45 => ?_)
          · skip
            exact ky_thr_IOB hx hb hlf hown hG hZ hS (hl.1.trans hml.symm) dX5_locator_63 dX5_locator_66 dX5_locator_67 dX5_locator_70 htab (Nat.le_of_ble_eq_true rfl) (Nat.le_of_ble_eq_true rfl) (show ((0 + dn_4) + dn_26) + 1 ≤ 1200 from (by omega)) (show ((0 + dm_5) + dm_27) + 6 ≤ 600000 from (by omega)) hlocks (⟨rfl, by first | trivial | omega⟩) (fun t hvm h1 h2 => ⟨(r_28, n_29, z_30, F_31, Er_32, En_33, Ez_34, EF_35), ⟨hok36, hfr36, hPE36, hef36⟩, hrk37, hP.kept (fun k q hk => h2 q.1 (hP k q hk).lt), va_K.moved hvm hK, hD⟩) hS.2.2 (by omega) (by omega) (by omega) (by omega)
          · skip
            refine lv_iload_n hx hb dX5_locator_58 rfl (lv_at hl 3 rfl) ?_
            refine lv_iconst (v := iz 2) hx hb dX5_locator_59 (by decide) ?_
            refine ki_icmp_le (tgt := 71) hx hb dX5_locator_60 (by decide) (by omega) (by omega) (by omega) (by omega) (fun c_46 => ?_) (fun c_46 => ?_)
            · skip
              refine lv_aload_n hx hb dX5_locator_71 rfl (lv_at hl 0 rfl) ?_
              refine va_get (D := (dC, dI)) (ci := 5) (v := .ref (o 14)) (C := RX5) (T := TX5) (N := 16) hx hb hts kt_X5 hown hK hP 0 rfl rfl 9 (by decide) (kx_word hG kq_19_xouts_0 rfl) (fun _ h9 => h9) rfl dX5_locator_72 ?_
              refine lv_iload_n hx hb dX5_locator_75 rfl (lv_at hl 2 rfl) ?_
              have hPc := hP.sub (ws' := (sU cI 1600 (o 14) (o 7) (o 8) (o 9) (r_28 7) (r_28 8) (r_28 9) (n_29 7) (n_29 8) (n_29 9) (z_30 7) (z_30 8) (z_30 9) (F_31 7) (F_31 8) (F_31 9))) [17, 18, 19, 20, 21, 22, 23] rfl
              refine xk_pure (va_runV (As := [.int (iz p1)]) (rest := []) ⟨hx, hb, hml, hown, hts⟩ (x_sfrom l dC dI cI cB cE 1600 (o 14) (o 7) (o 8) (o 9) (r_28 7) (r_28 8) (r_28 9) (n_29 7) (n_29 8) (n_29 9) (z_30 7) (z_30 8) (z_30 9) (F_31 7) (F_31 8) (F_31 9) p1 H.size (by omega) (hok36.2.2.1 7) (by omega) (hok36.2.2.1 8) (by omega) (hok36.2.2.1 9) (by omega) (by omega)) (cwV 1 hts (kx_gV kq_19_xouts_8 kq_15_xspan_56 kq_15_xspan_57 kq_15_xspan_53 kq_15_xspan_58 rfl) rfl rfl rfl (by decide +kernel) ⟨Nat.le_of_ble_eq_true rfl, Nat.le_of_ble_eq_true rfl⟩) ⟨pPre_blind, va_recv hK hPc (ci := 3) (q0 := 0) rfl rfl, pPre_give hPc hK hG⟩ rfl rfl hl.1 rfl (lv_room (Nat.le_of_ble_eq_true rfl)) dX5_locator_76 ⟨show ((0 + dn_4) + dn_26) + 0 ≤ 1200 from (by omega), show ((0 + dm_5) + dm_27) + 0 ≤ 600000 from (by omega)⟩) hS (fun z_48 locs hq_47 hS => ?_)
              refine W.eq (g2 := F0 m 79 ls [.int (iz z_48)]) rfl ?_
              try dsimp only at hq_47
              refine lv_istore (lv' := [(4, .int (iz z_48)), (0, .ref (o 15)), (1, .int (iz p0)), (2, .int (iz p1)), (3, .int (iz p2))]) hx hb dX5_locator_79 hl (by decide) rfl (fun ls hl => ?_)
              refine lv_iload_n hx hb dX5_locator_81 rfl (lv_at hl 4 rfl) ?_
              refine ki_if_ne (tgt := 91) hx hb dX5_locator_82 (by decide) (by omega) (by omega) (fun c_49 => ?_) (fun c_49 => ?_)
              · skip
                refine lv_iload_n hx hb dX5_locator_91 rfl (lv_at hl 4 rfl) ?_
                refine lv_iconst (v := iz 1) hx hb dX5_locator_92 (by decide) ?_
                refine ki_icmp_ne (tgt := 101) hx hb dX5_locator_93 (by decide) (by omega) (by omega) (by omega) (by omega) (fun c_50 => ?_) (fun c_50 => ?_)
                · skip
                  refine lv_aload_n hx hb dX5_locator_101 rfl (lv_at hl 1 rfl) ?_
                  refine va_get (D := (dC, dI)) (ci := 5) (v := .ref (o 14)) (C := RX5) (T := TX5) (N := 16) hx hb hts kt_X5 hown hK hP 0 rfl rfl 9 (by decide) (kx_word hG kq_19_xouts_0 rfl) (fun _ h9 => h9) rfl dX5_locator_102 ?_
                  refine lv_iload_n hx hb dX5_locator_105 rfl (lv_at hl 3 rfl) ?_
                  have hPc := hP.sub (ws' := (sU cI 1600 (o 14) (o 7) (o 8) (o 9) (r_28 7) (r_28 8) (r_28 9) (n_29 7) (n_29 8) (n_29 9) (z_30 7) (z_30 8) (z_30 9) (F_31 7) (F_31 8) (F_31 9))) [17, 18, 19, 20, 21, 22, 23] rfl
                  refine xk_pure (va_runV (As := [.int (iz p1)]) (rest := []) ⟨hx, hb, hml, hown, hts⟩ (x_sto l dC dI cI cB cE 1600 (o 14) (o 7) (o 8) (o 9) (r_28 7) (r_28 8) (r_28 9) (n_29 7) (n_29 8) (n_29 9) (z_30 7) (z_30 8) (z_30 9) (F_31 7) (F_31 8) (F_31 9) p1 H.size (by omega) (hok36.2.2.1 7) (by omega) (hok36.2.2.1 8) (by omega) (hok36.2.2.1 9) (by omega) (by omega)) (cwV 1 hts (kx_gV kq_19_xouts_9 kq_15_xspan_64 kq_15_xspan_65 kq_15_xspan_53 kq_15_xspan_66 rfl) rfl rfl rfl (by decide +kernel) ⟨Nat.le_of_ble_eq_true rfl, Nat.le_of_ble_eq_true rfl⟩) ⟨pPre_blind, va_recv hK hPc (ci := 3) (q0 := 0) rfl rfl, pPre_give hPc hK hG⟩ rfl rfl hl.1 rfl (lv_room (Nat.le_of_ble_eq_true rfl)) dX5_locator_106 ⟨show ((0 + dn_4) + dn_26) + 0 ≤ 1200 from (by omega), show ((0 + dm_5) + dm_27) + 0 ≤ 600000 from (by omega)⟩) hS (fun z_52 locs hq_51 hS => ?_)
                  refine W.eq (g2 := F0 m 109 ls [.int (iz z_52)]) rfl ?_
                  try dsimp only at hq_51
                  refine lv_ldc (v := 100000) hx hb hown (kx_word hG kq_19_xouts_55 rfl) dX5_locator_109 ?_
                  refine ki_is (show (100000 : Int32) = iz 100000 by decide) ?_
                  refine lv_irem hx hb dX5_locator_111 (show ¬ iz 100000 = 0 by decide) ?_
                  refine ki_any (fun z_53 hz_53a hz_53b => ?_)
                  refine vx_ret ?_
                  exact xk_iret (ov := (fun u : (Int) × (Nat → Nat) × (Nat → Nat) × (Nat → Int) × (Nat → Int → Int) × (Nat → Nat → Nat) × (Nat → Nat → Nat) × (Nat → Nat → Int) × (Nat → Nat → Int → Int) => match u with | (q, r', n', z', F', Er', En', Ez', EF') => some (.int (iz q)))) (post := (fun (u : (Int) × (Nat → Nat) × (Nat → Nat) × (Nat → Int) × (Nat → Int → Int) × (Nat → Nat → Nat) × (Nat → Nat → Nat) × (Nat → Nat → Int) × (Nat → Nat → Int → Int)) (dn dm : Nat) => match u with | (q, r', n', z', F', Er', En', Ez', EF') => xR [0, 1, 2, 4, 5, 6, 7, 8, 9, 15, 16] [0, 1, 2, 4, 5, 6, 7, 8, 9] [10] [] N z F En Ez EF n' z' F' En' Ez' EF' ∧ (dn + xg n' ≤ xg n + 0 ∧ dm + xp n' ≤ xp n + 0) ∧ (rs_RK z' F' Ez' lv ab Wd cm))) (ws := (fun u : (Int) × (Nat → Nat) × (Nat → Nat) × (Nat → Int) × (Nat → Int → Int) × (Nat → Nat → Nat) × (Nat → Nat → Nat) × (Nat → Nat → Int) × (Nat → Nat → Int → Int) => match u with | (q, r', n', z', F', Er', En', Ez', EF') => (xU cI cB cE o r' n' z' F' G (Eo 0 0) ++ eP cI N Eo Er' En' Ez' EF'))) (tys := xT cI cB cE) (z := z_53) (z_53, r_28, n_29, z_30, F_31, Er_32, En_33, Ez_34, EF_35) hx hb hr rfl hlocks rfl hP hD hK hS dX5_locator_112 (fun dn dm hdn hdm => ⟨⟨hok36, hfr36, hPE36, hef36⟩, ⟨by omega, by omega⟩, hrk37⟩) (by omega) (by omega)
                · skip
                  refine lv_iload hx hb dX5_locator_96 (lv_at hl 0 rfl) ?_
                  refine lv_goto (tgt := 109) hx hb dX5_locator_98 (by decide) ?_
                  refine lv_ldc (v := 100000) hx hb hown (kx_word hG kq_19_xouts_55 rfl) dX5_locator_109 ?_
                  refine ki_is (show (100000 : Int32) = iz 100000 by decide) ?_
                  refine lv_irem hx hb dX5_locator_111 (show ¬ iz 100000 = 0 by decide) ?_
                  refine ki_any (fun z_54 hz_54a hz_54b => ?_)
                  refine vx_ret ?_
                  exact xk_iret (ov := (fun u : (Int) × (Nat → Nat) × (Nat → Nat) × (Nat → Int) × (Nat → Int → Int) × (Nat → Nat → Nat) × (Nat → Nat → Nat) × (Nat → Nat → Int) × (Nat → Nat → Int → Int) => match u with | (q, r', n', z', F', Er', En', Ez', EF') => some (.int (iz q)))) (post := (fun (u : (Int) × (Nat → Nat) × (Nat → Nat) × (Nat → Int) × (Nat → Int → Int) × (Nat → Nat → Nat) × (Nat → Nat → Nat) × (Nat → Nat → Int) × (Nat → Nat → Int → Int)) (dn dm : Nat) => match u with | (q, r', n', z', F', Er', En', Ez', EF') => xR [0, 1, 2, 4, 5, 6, 7, 8, 9, 15, 16] [0, 1, 2, 4, 5, 6, 7, 8, 9] [10] [] N z F En Ez EF n' z' F' En' Ez' EF' ∧ (dn + xg n' ≤ xg n + 0 ∧ dm + xp n' ≤ xp n + 0) ∧ (rs_RK z' F' Ez' lv ab Wd cm))) (ws := (fun u : (Int) × (Nat → Nat) × (Nat → Nat) × (Nat → Int) × (Nat → Int → Int) × (Nat → Nat → Nat) × (Nat → Nat → Nat) × (Nat → Nat → Int) × (Nat → Nat → Int → Int) => match u with | (q, r', n', z', F', Er', En', Ez', EF') => (xU cI cB cE o r' n' z' F' G (Eo 0 0) ++ eP cI N Eo Er' En' Ez' EF'))) (tys := xT cI cB cE) (z := z_54) (z_54, r_28, n_29, z_30, F_31, Er_32, En_33, Ez_34, EF_35) hx hb hr rfl hlocks rfl hP hD hK hS dX5_locator_112 (fun dn dm hdn hdm => ⟨⟨hok36, hfr36, hPE36, hef36⟩, ⟨by omega, by omega⟩, hrk37⟩) (by omega) (by omega)
              · skip
                refine lv_iload hx hb dX5_locator_85 (lv_at hl 0 rfl) ?_
                refine lv_ldc (v := 100000) hx hb hown (kx_word hG kq_19_xouts_55 rfl) dX5_locator_87 ?_
                refine ki_is (show (100000 : Int32) = iz 100000 by decide) ?_
                refine lv_idiv hx hb dX5_locator_89 (show ¬ iz 100000 = 0 by decide) ?_
                refine ki_any (fun z_55 hz_55a hz_55b => ?_)
                refine vx_ret ?_
                exact xk_iret (ov := (fun u : (Int) × (Nat → Nat) × (Nat → Nat) × (Nat → Int) × (Nat → Int → Int) × (Nat → Nat → Nat) × (Nat → Nat → Nat) × (Nat → Nat → Int) × (Nat → Nat → Int → Int) => match u with | (q, r', n', z', F', Er', En', Ez', EF') => some (.int (iz q)))) (post := (fun (u : (Int) × (Nat → Nat) × (Nat → Nat) × (Nat → Int) × (Nat → Int → Int) × (Nat → Nat → Nat) × (Nat → Nat → Nat) × (Nat → Nat → Int) × (Nat → Nat → Int → Int)) (dn dm : Nat) => match u with | (q, r', n', z', F', Er', En', Ez', EF') => xR [0, 1, 2, 4, 5, 6, 7, 8, 9, 15, 16] [0, 1, 2, 4, 5, 6, 7, 8, 9] [10] [] N z F En Ez EF n' z' F' En' Ez' EF' ∧ (dn + xg n' ≤ xg n + 0 ∧ dm + xp n' ≤ xp n + 0) ∧ (rs_RK z' F' Ez' lv ab Wd cm))) (ws := (fun u : (Int) × (Nat → Nat) × (Nat → Nat) × (Nat → Int) × (Nat → Int → Int) × (Nat → Nat → Nat) × (Nat → Nat → Nat) × (Nat → Nat → Int) × (Nat → Nat → Int → Int) => match u with | (q, r', n', z', F', Er', En', Ez', EF') => (xU cI cB cE o r' n' z' F' G (Eo 0 0) ++ eP cI N Eo Er' En' Ez' EF'))) (tys := xT cI cB cE) (z := z_55) (z_55, r_28, n_29, z_30, F_31, Er_32, En_33, Ez_34, EF_35) hx hb hr rfl hlocks rfl hP hD hK hS dX5_locator_90 (fun dn dm hdn hdm => ⟨⟨hok36, hfr36, hPE36, hef36⟩, ⟨by omega, by omega⟩, hrk37⟩) (by omega) (by omega)
            · skip
              exact ky_thr_IOB hx hb hlf hown hG hZ hS (hl.1.trans hml.symm) dX5_locator_63 dX5_locator_66 dX5_locator_67 dX5_locator_70 htab (Nat.le_of_ble_eq_true rfl) (Nat.le_of_ble_eq_true rfl) (show ((0 + dn_4) + dn_26) + 1 ≤ 1200 from (by omega)) (show ((0 + dm_5) + dm_27) + 6 ≤ 600000 from (by omega)) hlocks (⟨rfl, by first | trivial | omega⟩) (fun t hvm h1 h2 => ⟨(r_28, n_29, z_30, F_31, Er_32, En_33, Ez_34, EF_35), ⟨hok36, hfr36, hPE36, hef36⟩, hrk37, hP.kept (fun k q hk => h2 q.1 (hP k q hk).lt), va_K.moved hvm hK, hD⟩) hS.2.2 (by omega) (by omega) (by omega) (by omega)
    · skip
      exact ky_thr_IOB hx hb hlf hown hG hZ hS (hl.1.trans hml.symm) dX5_locator_19 dX5_locator_22 dX5_locator_23 dX5_locator_26 htab (Nat.le_of_ble_eq_true rfl) (Nat.le_of_ble_eq_true rfl) (show (0 + dn_4) + 1 ≤ 1200 from (by omega)) (show (0 + dm_5) + 6 ≤ 600000 from (by omega)) hlocks (⟨rfl, by first | trivial | omega⟩) (fun t hvm h1 h2 => ⟨(r_6, n_7, z_8, F_9, Er_10, En_11, Ez_12, EF_13), ⟨hok14, hfr14, hPE14, hef14⟩, hrk15, hP.kept (fun k q hk => h2 q.1 (hP k q hk).lt), va_K.moved hvm hK, hD⟩) hS.2.2 (by omega) (by omega) (by omega) (by omega)
set_option maxHeartbeats 4000000 in
set_option maxRecDepth 100000 in
theorem y_told3 (l : Launch) (hlf : l.stackTraces = false) (dC : Nat → ClassId) (dI : Nat → Nat → Nat) (cI cB cE : ClassId) (o r n : Nat → Nat) (z : Nat → Int) (F : Nat → Int → Int) (G : Nat → Option Nat) (N : Nat) (Eo Er En : Nat → Nat → Nat) (Ez : Nat → Nat → Int) (EF : Nat → Nat → Int → Int) (p0 : Int) (p1 : Int) (lv : Int → Int) (ab : Int → Int) (Wd : Int → Int → Prop) (cm : Int → Int → Int) (sz : Nat) (hok : xOk n z F) (hxG : xG N (z 12) G Eo) (hPE : eA N En Ez EF) (hp01 : -2147483648 ≤ p0) (hp02 : p0 < 2147483648) (hp11 : -2147483648 ≤ p1) (hp12 : p1 < 2147483648) (hRH : rs_H (z 12) Ez EF lv ab Wd cm) (h79 : z 12 ≤ 78) (hkn : rs_RK z F Ez lv ab Wd cm) : vx_Met l yX5_told [.code yX5_told cX5_told 4 (some .int)] ({ frames := 7, cells := 1200, slots := 600000, locals := 196 }) (va_Pc [.ref (o 15), .int (iz p0), .int (iz p1)] (kx_Pre dC dI (xU cI cB cE o r n z F G (Eo 0 0) ++ eP cI N Eo Er En Ez EF) (xT cI cB cE) sz)) (xQ (fun u : (Int) × (Nat → Nat) × (Nat → Nat) × (Nat → Int) × (Nat → Int → Int) × (Nat → Nat → Nat) × (Nat → Nat → Nat) × (Nat → Nat → Int) × (Nat → Nat → Int → Int) => match u with | (q, r', n', z', F', Er', En', Ez', EF') => some (.int (iz q))) (fun (u : (Int) × (Nat → Nat) × (Nat → Nat) × (Nat → Int) × (Nat → Int → Int) × (Nat → Nat → Nat) × (Nat → Nat → Nat) × (Nat → Nat → Int) × (Nat → Nat → Int → Int)) (dn dm : Nat) => match u with | (q, r', n', z', F', Er', En', Ez', EF') => xR [0, 1, 15, 17, 18, 19, 20, 21] [0, 1] [10, 11, 12, 13] [] N z F En Ez EF n' z' F' En' Ez' EF' ∧ (dn + xg n' ≤ xg n + 0 ∧ dm + xp n' ≤ xp n + 0) ∧ (rs_RK z' F' Ez' lv ab Wd cm)) (fun u t => kx_At dC dI (va_A (xU cI cB cE o r n z F G (Eo 0 0) ++ eP cI N Eo Er En Ez EF) sz) ((fun u : (Int) × (Nat → Nat) × (Nat → Nat) × (Nat → Int) × (Nat → Int → Int) × (Nat → Nat → Nat) × (Nat → Nat → Nat) × (Nat → Nat → Int) × (Nat → Nat → Int → Int) => match u with | (q, r', n', z', F', Er', En', Ez', EF') => (xU cI cB cE o r' n' z' F' G (Eo 0 0) ++ eP cI N Eo Er' En' Ez' EF')) u) (xT cI cB cE) t) (va_A (xU cI cB cE o r n z F G (Eo 0 0) ++ eP cI N Eo Er En Ez EF) sz)) (yX (fun E => (E = "java/lang/IndexOutOfBoundsException" ∧ (True))) 95 41800 (fun t => ∃ u : (Nat → Nat) × (Nat → Nat) × (Nat → Int) × (Nat → Int → Int) × (Nat → Nat → Nat) × (Nat → Nat → Nat) × (Nat → Nat → Int) × (Nat → Nat → Int → Int), match u with | (r', n', z', F', Er', En', Ez', EF') => xR [0, 1, 15, 17, 18, 19, 20, 21] [0, 1] [10, 11, 12, 13] [] N z F En Ez EF n' z' F' En' Ez' EF' ∧ (rs_RK z' F' Ez' lv ab Wd cm) ∧ kx_At dC dI (va_A (xU cI cB cE o r n z F G (Eo 0 0) ++ eP cI N Eo Er En Ez EF) sz) (xU cI cB cE o r' n' z' F' G (Eo 0 0) ++ eP cI N Eo Er' En' Ez' EF') (xT cI cB cE) t) (va_A (xU cI cB cE o r n z F G (Eo 0 0) ++ eP cI N Eo Er En Ez EF) sz)) 1200 600000 (va_A (xU cI cB cE o r n z F G (Eo 0 0) ++ eP cI N Eo Er En Ez EF) sz) := by
  refine vx_ofW (cc := cX5_told) (maxL := 4) (ret := (some .int)) (by decide) rfl ?_
  intro p e s m args below meth c s₁ B hml htab hv
  obtain ⟨rfl, hsz, hP, hK, hD0, hG, hZ⟩ := hv
  have hx := B.exec
  have hb := B.bytes
  have hr := B.returns
  have hts := kx_hts (a := ([.ref (o 15), .int (iz p0), .int (iz p1)] : List Value).toArray) hG
  have hown : s.vm.findClass RX5 = some m.cls := findClass_of_methodNamed B.named
  have hlocks := B.notSynchronized
  subst hsz
  have hD := hD0.self (sz := s.heap.size)
  generalize hAe : va_A (xU cI cB cE o r n z F G (Eo 0 0) ++ eP cI N Eo Er En Ez EF) s.heap.size = A at hD hZ ⊢
  have hA : ∀ q : Nat, s.heap.size ≤ q → A q := fun q h => by rw [← hAe]; exact Or.inr h
  have hS : va_S A s.heap s.heap [] := va_S.rf
  have hl := lv_entry ([.ref (o 15), .int (iz p0), .int (iz p1)]) (n := 4) (Nat.le_of_ble_eq_true rfl)
  rw [lg_entry_eq]
  generalize (lg_sl ([.ref (o 15), .int (iz p0), .int (iz p1)]) ++ List.replicate (4 - (lg_sl ([.ref (o 15), .int (iz p0), .int (iz p1)])).length) Slot.unset).toArray = ls at hl ⊢
  obtain ⟨hN1, hN2, hN3, hN4⟩ := hxG
  have hef : eFr [10, 11, 12, 13] [] En Ez EF En Ez EF := eFr.rf
  have hfr : xFr [0, 1, 15, 17, 18, 19, 20, 21] [0, 1] z F z F := xFr.rf
  have hxgl := xg_le n
  have hxpl := xp_le n
  have hl : lv_has ls 4 [(0, .ref (o 15)), (1, .int (iz p0)), (2, .int (iz p1))] := hl
  generalize hQe : vx_MQ below (xQ (fun u : (Int) × (Nat → Nat) × (Nat → Nat) × (Nat → Int) × (Nat → Int → Int) × (Nat → Nat → Nat) × (Nat → Nat → Nat) × (Nat → Nat → Int) × (Nat → Nat → Int → Int) => match u with | (q, r', n', z', F', Er', En', Ez', EF') => some (.int (iz q))) (fun (u : (Int) × (Nat → Nat) × (Nat → Nat) × (Nat → Int) × (Nat → Int → Int) × (Nat → Nat → Nat) × (Nat → Nat → Nat) × (Nat → Nat → Int) × (Nat → Nat → Int → Int)) (dn dm : Nat) => match u with | (q, r', n', z', F', Er', En', Ez', EF') => xR [0, 1, 15, 17, 18, 19, 20, 21] [0, 1] [10, 11, 12, 13] [] N z F En Ez EF n' z' F' En' Ez' EF' ∧ (dn + xg n' ≤ xg n + 0 ∧ dm + xp n' ≤ xp n + 0) ∧ (rs_RK z' F' Ez' lv ab Wd cm)) (fun u t => kx_At dC dI A ((fun u : (Int) × (Nat → Nat) × (Nat → Nat) × (Nat → Int) × (Nat → Int → Int) × (Nat → Nat → Nat) × (Nat → Nat → Nat) × (Nat → Nat → Int) × (Nat → Nat → Int → Int) => match u with | (q, r', n', z', F', Er', En', Ez', EF') => (xU cI cB cE o r' n' z' F' G (Eo 0 0) ++ eP cI N Eo Er' En' Ez' EF')) u) (xT cI cB cE) t) A) (yX (fun E => (E = "java/lang/IndexOutOfBoundsException" ∧ (True))) 95 41800 (fun t => ∃ u : (Nat → Nat) × (Nat → Nat) × (Nat → Int) × (Nat → Int → Int) × (Nat → Nat → Nat) × (Nat → Nat → Nat) × (Nat → Nat → Int) × (Nat → Nat → Int → Int), match u with | (r', n', z', F', Er', En', Ez', EF') => xR [0, 1, 15, 17, 18, 19, 20, 21] [0, 1] [10, 11, 12, 13] [] N z F En Ez EF n' z' F' En' Ez' EF' ∧ (rs_RK z' F' Ez' lv ab Wd cm) ∧ kx_At dC dI A (xU cI cB cE o r' n' z' F' G (Eo 0 0) ++ eP cI N Eo Er' En' Ez' EF') (xT cI cB cE) t) A) ([.ref (o 15), .int (iz p0), .int (iz p1)] : List Value).toArray s 1200 600000 A = QQ
  refine lv_aload_n hx hb dX5_told_0 rfl (lv_at hl 0 rfl) ?_
  have hxz_1 : -2147483648 ≤ z 12 ∧ z 12 < 2147483648 := hok.2.2.2.1 12
  have hxG9 : xG N (z 12) G Eo := ⟨by omega, by omega, by omega, fun e9 h9 => hN4 e9 (by omega)⟩
  have hP : va_P (dC, dI) kxCl (xU cI cB cE o r n z F G (Eo 0 0) ++ eP cI N Eo Er En Ez EF) s.heap := hP
  have hD : va_D A (xU cI cB cE o r n z F G (Eo 0 0) ++ eP cI N Eo Er En Ez EF) := hD
  have hFc := xw_free hD hS hA
  refine xk_call (va_runV (As := []) (rest := []) ⟨hx, hb, hml, hown, hts⟩ (y_findRows2 l dC dI cI cB cE o r n z F G N Eo Er En Ez EF lv ab Wd cm s.heap.size hok hxG9 hPE (by first | exact hRH | exact hRH.fr hef (by decide) (by decide)) (by omega) hkn) (cwV 0 hts (kx_gV kq_21_xcalls_25 kq_21_xcalls_26 kq_21_xcalls_27 kq_18_xrows_4 kq_21_xcalls_28 rfl) rfl rfl rfl (by decide +kernel) ⟨Nat.le_of_ble_eq_true rfl, Nat.le_of_ble_eq_true rfl⟩) ⟨kx_blind, va_recv hK hP (ci := 5) (q0 := 0) rfl rfl, kx_give (ws := []) (tys := []) hP hD hK hG hZ hS hFc⟩ rfl rfl hl.1 rfl (lv_room (Nat.le_of_ble_eq_true rfl)) dX5_told_1 ⟨show 0 + 600 ≤ 1200 from (by omega), show 0 + 300000 ≤ 600000 from (by omega)⟩) hS (fun q _ h => hFc q h) hFc (fun u dn_4 dm_5 t H locs ht hvm hq_2 hB hk1 hS => ?_)
  obtain ⟨r_6, n_7, z_8, F_9, Er_10, En_11, Ez_12, EF_13⟩ := u
  obtain ⟨hP, hK1, hD1⟩ := hB
  rw [ht] at hP
  have hD := hD1.weaken (fun _ q _ h => hFc _ h)
  obtain ⟨hR14, hC14, hq_2⟩ := hq_2
  have hok14 := hR14.1
  have hfr14 := hfr.tr (hR14.2.1.mono (S' := [0, 1, 15, 17, 18, 19, 20, 21]) (T' := [0, 1]) (by decide) (by decide))
  have hPE14 := hR14.2.2.1
  have hef14 := hef.tr (hR14.2.2.2.mono (S' := [10, 11, 12, 13]) (T' := []) (by decide) (by decide))
  have hz14 : z_8 12 = (z 12) := hR14.2.1.1 12 (by decide)
  refine W.eq (g2 := F0 m 4 ls []) rfl ?_
  try dsimp only at hq_2
  obtain ⟨hk1515, hrr15⟩ := hq_2
  have hrk15 : rs_RK z_8 F_9 Ez_12 lv ab Wd cm := fun _ => hrr15
  refine lv_aload_n hx hb dX5_told_4 rfl (lv_at hl 0 rfl) ?_
  have hxz_16 : -2147483648 ≤ z_8 12 ∧ z_8 12 < 2147483648 := hok14.2.2.2.1 12
  have hxG9 : xG N (z_8 12) G Eo := ⟨by omega, by omega, by omega, fun e9 h9 => hN4 e9 (by omega)⟩
  have hP : va_P (dC, dI) kxCl (xU cI cB cE o r_6 n_7 z_8 F_9 G (Eo 0 0) ++ eP cI N Eo Er_10 En_11 Ez_12 EF_13) H := hP
  have hD : va_D A (xU cI cB cE o r_6 n_7 z_8 F_9 G (Eo 0 0) ++ eP cI N Eo Er_10 En_11 Ez_12 EF_13) := hD
  have hFc := xw_free hD hS hA
  refine xk_call (va_runV (As := []) (rest := []) ⟨hx, hb, hml, hown, hts⟩ (y_countByRows l dC dI cI cB cE o r_6 n_7 z_8 F_9 G N Eo Er_10 En_11 Ez_12 EF_13  H.size hok14 hxG9 hPE14 ) (cwV 0 hts (kx_gV kq_21_xcalls_41 kq_21_xcalls_42 kq_21_xcalls_43 kq_18_xrows_4 kq_21_xcalls_44 rfl) rfl rfl rfl (by decide +kernel) ⟨Nat.le_of_ble_eq_true rfl, Nat.le_of_ble_eq_true rfl⟩) ⟨kx_blind, va_recv hK hP (ci := 5) (q0 := 0) rfl rfl, kx_give (ws := []) (tys := []) hP hD hK hG hZ hS hFc⟩ rfl rfl hl.1 rfl (lv_room (Nat.le_of_ble_eq_true rfl)) dX5_told_5 ⟨show (0 + dn_4) + 100 ≤ 1200 from (by omega), show (0 + dm_5) + 42000 ≤ 600000 from (by omega)⟩) hS (fun q _ h => hFc q h) hFc (fun u dn_19 dm_20 t H locs ht hvm hq_17 hB hk1 hS => ?_)
  obtain ⟨r_21, n_22, z_23, F_24, Er_25, En_26, Ez_27, EF_28⟩ := u
  obtain ⟨hP, hK1, hD1⟩ := hB
  rw [ht] at hP
  have hD := hD1.weaken (fun _ q _ h => hFc _ h)
  obtain ⟨hR29, hC29, hq_17⟩ := hq_17
  have hok29 := hR29.1
  have hfr29 := hfr14.tr (hR29.2.1.mono (S' := [0, 1, 15, 17, 18, 19, 20, 21]) (T' := [0, 1]) (by decide) (by decide))
  have hPE29 := hR29.2.2.1
  have hef29 := hef14.tr (hR29.2.2.2.mono (S' := [10, 11, 12, 13]) (T' := []) (by decide) (by decide))
  have hz29 : z_23 12 = (z_8 12) := hR29.2.1.1 12 (by decide)
  refine W.eq (g2 := F0 m 8 ls []) rfl ?_
  try dsimp only at hq_17
  have hrk30 : rs_RK z_23 F_24 Ez_27 lv ab Wd cm := rs_RK.fr hrk15 (hR29.2.1.1 15 (by decide)) (hR29.2.1.1 12 (by decide)) (hR29.2.1.1 1 (by decide)) (hR29.2.1.2 1 (by decide)) (fun j => hR29.2.2.2.1 j 10 (by decide))
  refine lv_aload_n hx hb dX5_told_8 rfl (lv_at hl 0 rfl) ?_
  refine va_get (D := (dC, dI)) (ci := 5) (v := .ref (o 12)) (C := RX5) (T := TX5) (N := 16) hx hb hts kt_X5 hown hK hP 0 rfl rfl 12 (by decide) (kx_word hG kq_19_xouts_49 rfl) (fun _ h9 => h9) rfl dX5_told_9 ?_
  refine lv_iload_n hx hb dX5_told_12 rfl (lv_at hl 1 rfl) ?_
  have hxz_31 : -2147483648 ≤ z_23 17 ∧ z_23 17 < 2147483648 := hok29.2.2.2.1 17
  have hxz_32 : -2147483648 ≤ z_23 18 ∧ z_23 18 < 2147483648 := hok29.2.2.2.1 18
  have hxz_33 : -2147483648 ≤ z_23 19 ∧ z_23 19 < 2147483648 := hok29.2.2.2.1 19
  have hxz_34 : -2147483648 ≤ z_23 20 ∧ z_23 20 < 2147483648 := hok29.2.2.2.1 20
  have hxz_35 : -2147483648 ≤ z_23 21 ∧ z_23 21 < 2147483648 := hok29.2.2.2.1 21
  have hPc := hP.sub (ws' := (wU (o 12) (z_23 17) (z_23 18) (z_23 19) (z_23 20) (z_23 21))) [24] rfl
  have hDc := hD.sub (ws' := (wU (o 12) (z_23 17) (z_23 18) (z_23 19) (z_23 20) (z_23 21))) [24] (by decide) rfl
  have hFc := va_free (wc := (wU (o 12) (z_23 17) (z_23 18) (z_23 19) (z_23 20) (z_23 21))) hD hS hA [24] rfl
  refine xk_call (va_runV (As := [.int (iz p0)]) (rest := []) ⟨hx, hb, hml, hown, hts⟩ (x_lookFor l dC dI cI cB cE (o 12) (z_23 17) (z_23 18) (z_23 19) (z_23 20) (z_23 21) p0 H.size (by omega) (by omega) (by omega) (by omega) (by omega) (by omega) (by omega)) (cwV 1 hts (kx_gV kq_21_xcalls_45 kq_21_xcalls_46 kq_21_xcalls_47 kq_19_xouts_53 kq_21_xcalls_48 rfl) rfl rfl rfl (by decide +kernel) ⟨Nat.le_of_ble_eq_true rfl, Nat.le_of_ble_eq_true rfl⟩) ⟨kx_blind, va_recv hK hPc (ci := 4) (q0 := 0) rfl rfl, kx_give (ws := []) (tys := []) hPc hDc hK hG hZ hS hFc⟩ rfl rfl hl.1 rfl (lv_room (Nat.le_of_ble_eq_true rfl)) dX5_told_13 ⟨show ((0 + dn_4) + dn_19) + 0 ≤ 1200 from (by omega), show ((0 + dm_5) + dm_20) + 0 ≤ 600000 from (by omega)⟩) hS (fun q _ h => hFc q h) hFc (fun u dn_37 dm_38 t H locs ht hvm hq_36 hB hk1 hS => ?_)
  obtain ⟨z1_39, z2_40⟩ := u
  obtain ⟨hP1, hK1, hD1⟩ := hB
  rw [ht] at hP1
  obtain ⟨hP, hD⟩ := xj_pool (wr := [(o 15, .inr (5, [.ref (o 16), .ref (Eo 0 0), .int (iz (z_23 12)), .int (iz (z_23 13)), .int (iz (z_23 14)), .ref (o 0), .ref (o 1), .int (iz (z_23 15)), .ref (o 13), .ref (o 14), .int (iz (z_23 16)), .ref (o 2), .ref (o 12), .ref (o 3), .ref (o 10), .ref (o 11)])), (o 16, .inl (cE, 80, .inr (.inr (.inr (.inr G))))), (o 0, .inr (1, [.int (iz 80), .ref (r_21 0), .int (iz (z_23 0))])), (r_21 0, .inl (cI, n_22 0, .inl (iA (F_24 0)))), (o 1, .inr (1, [.int (iz 80), .ref (r_21 1), .int (iz (z_23 1))])), (r_21 1, .inl (cI, n_22 1, .inl (iA (F_24 1)))), (o 2, .inr (1, [.int (iz 80), .ref (r_21 2), .int (iz (z_23 2))])), (r_21 2, .inl (cI, n_22 2, .inl (iA (F_24 2)))), (o 3, .inr (1, [.int (iz 80), .ref (r_21 3), .int (iz (z_23 3))])), (r_21 3, .inl (cI, n_22 3, .inl (iA (F_24 3)))), (o 13, .inr (3, [.ref (o 4), .ref (o 5), .ref (o 6)])), (o 4, .inr (1, [.int (iz 1600), .ref (r_21 4), .int (iz (z_23 4))])), (r_21 4, .inl (cI, n_22 4, .inl (iA (F_24 4)))), (o 5, .inr (1, [.int (iz 1600), .ref (r_21 5), .int (iz (z_23 5))])), (r_21 5, .inl (cI, n_22 5, .inl (iA (F_24 5)))), (o 6, .inr (1, [.int (iz 1600), .ref (r_21 6), .int (iz (z_23 6))])), (r_21 6, .inl (cI, n_22 6, .inl (iA (F_24 6)))), (o 14, .inr (3, [.ref (o 7), .ref (o 8), .ref (o 9)])), (o 7, .inr (1, [.int (iz 1600), .ref (r_21 7), .int (iz (z_23 7))])), (r_21 7, .inl (cI, n_22 7, .inl (iA (F_24 7)))), (o 8, .inr (1, [.int (iz 1600), .ref (r_21 8), .int (iz (z_23 8))])), (r_21 8, .inl (cI, n_22 8, .inl (iA (F_24 8)))), (o 9, .inr (1, [.int (iz 1600), .ref (r_21 9), .int (iz (z_23 9))])), (r_21 9, .inl (cI, n_22 9, .inl (iA (F_24 9)))), (o 10, .inr (2, [.ref (r_21 10), .int (iz (z_23 10)), .int (iz (z_23 22))])), (r_21 10, .inl (cB, n_22 10, .inl (iA (F_24 10)))), (o 11, .inr (2, [.ref (r_21 11), .int (iz (z_23 11)), .int (iz (z_23 23))])), (r_21 11, .inl (cB, n_22 11, .inl (iA (F_24 11))))]) (w1 := (wU (o 12) z1_39 z2_40 (z_23 19) (z_23 20) (z_23 21))) (ws' := (xU cI cB cE o r_21 n_22 (va_up (va_up z_23 17 z1_39) 18 z2_40) F_24 G (Eo 0 0))) hP hD [24] [0, 1, 2, 3, 4, 5, 6, 7, 8, 9, 10, 11, 12, 13, 14, 15, 16, 17, 18, 19, 20, 21, 22, 23, 25, 26, 27, 28] [0, 1, 2, 3, 4, 5, 6, 7, 8, 9, 10, 11, 12, 13, 14, 15, 16, 17, 18, 19, 20, 21, 22, 23, 28, 24, 25, 26, 27] rfl rfl (by decide) (by decide) hk1 hFc hP1 hD1 rfl (by decide)
  refine W.eq (g2 := F0 m 16 ls []) rfl ?_
  try dsimp only at hq_36
  obtain ⟨hd41, hm41, hw41⟩ := hq_36
  subst hd41
  subst hm41
  refine lv_iconst (v := iz 0) hx hb dX5_told_16 (by decide) ?_
  refine lv_istore_n (lv' := [(3, .int (iz 0)), (0, .ref (o 15)), (1, .int (iz p0)), (2, .int (iz p1))]) hx hb dX5_told_17 rfl hl (by decide) rfl (fun ls hl => ?_)
  have hok42 : xOk n_22 (va_up (va_up z_23 17 z1_39) 18 z2_40) F_24 := ((hok29.s 17 (by decide) (show -2147483648 ≤ z1_39 ∧ z1_39 < 2147483648 by omega) (by omega)).s 18 (by decide) (show -2147483648 ≤ z2_40 ∧ z2_40 < 2147483648 by omega) (by omega))
  have hfr42 : xFr [0, 1, 15, 17, 18, 19, 20, 21] [0, 1] z F (va_up (va_up z_23 17 z1_39) 18 z2_40) F_24 := ((hfr29.uz 17 (by decide) _).uz 18 (by decide) _)
  have lp18 : ∀ (n0 : Nat) (k : Int) (rL18 : Nat → Nat) (nL18 : Nat → Nat) (zL18 : Nat → Int) (FL18 : Nat → Int → Int) (ErL18 : Nat → Nat → Nat) (EnL18 : Nat → Nat → Nat) (EzL18 : Nat → Nat → Int) (EFL18 : Nat → Nat → Int → Int) (cv : Nat) (sv : Nat), ((xR [0, 1, 15, 17, 18, 19, 20, 21] [0, 1] [10, 11, 12, 13] [] N z F En Ez EF nL18 zL18 FL18 EnL18 EzL18 EFL18) ∧ (cv + xg nL18 ≤ xg n + (0) ∧ sv + xp nL18 ≤ xp n + (0)) ∧ (zL18 12 = z 12) ∧ (0 ≤ k ∧ k ≤ 79) ∧ (rs_RK zL18 FL18 EzL18 lv ab Wd cm)) → (z 12 - k).toNat < n0 → ∀ (H : Heap) (locs : List Loc), va_P (dC, dI) kxCl ((xU cI cB cE o rL18 nL18 zL18 FL18 G (Eo 0 0)) ++ (eP cI N Eo ErL18 EnL18 EzL18 EFL18)) H → va_D A ((xU cI cB cE o rL18 nL18 zL18 FL18 G (Eo 0 0)) ++ (eP cI N Eo ErL18 EnL18 EzL18 EFL18)) → va_S A s.heap H locs → ∀ ls : Array Slot, lv_has ls 4 [(3, .int (iz k)), (0, .ref (o 15)), (1, .int (iz p0)), (2, .int (iz p1))] → W p l e (headSpec [.code yX5_told cX5_told 4 (some .int)] ({ frames := 7, cells := 1200, slots := 600000, locals := 196 })).room s m ([.ref (o 15), .int (iz p0), .int (iz p1)] : List Value).toArray below meth c H locs cv sv QQ (F0 m 18 ls []) := by
    intro n0
    induction n0 with
    | zero => intro k rL18 nL18 zL18 FL18 ErL18 EnL18 EzL18 EFL18 cv sv hinv hm0; exact absurd hm0 (Nat.not_lt_zero _)
    | succ n0 ih18 =>
      intro k rL18 nL18 zL18 FL18 ErL18 EnL18 EzL18 EFL18 cv sv hinv hm0 H locs hP hD hS ls hl
      obtain ⟨hRLL18, hCLL18, hZLL18, hk, hrkL⟩ := hinv
      refine lv_iload_n hx hb dX5_told_18 rfl (lv_at hl 0 rfl) ?_
      refine lv_aload_n hx hb dX5_told_19 rfl (lv_at hl 1 rfl) ?_
      have hxz_43 : -2147483648 ≤ zL18 12 ∧ zL18 12 < 2147483648 := hRLL18.1.2.2.2.1 12
      refine va_get (D := (dC, dI)) (ci := 5) (v := .int (iz (zL18 12))) (C := RX5) (T := TX5) (N := 16) hx hb hts kt_X5 hown hK hP 0 rfl rfl 2 (by decide) (kx_word hG kq_18_xrows_0 rfl) (fun _ h9 => h9) rfl dX5_told_20 ?_
      refine ki_icmp_ge (tgt := 37) hx hb dX5_told_23 (by decide) (by omega) (by omega) (by omega) (by omega) (fun c_44 => ?_) (fun c_44 => ?_)
      · skip
        refine lv_iload_n hx hb dX5_told_37 rfl (lv_at hl 2 rfl) ?_
        refine lv_iconst (v := iz (-1)) hx hb dX5_told_38 (by decide) ?_
        refine ki_icmp_ne (tgt := 50) hx hb dX5_told_39 (by decide) (by omega) (by omega) (by omega) (by omega) (fun c_45 => ?_) (fun c_45 => ?_)
        · skip
          refine lv_iload_n hx hb dX5_told_50 rfl (lv_at hl 2 rfl) ?_
          refine ki_if_lt (tgt := 74) hx hb dX5_told_51 (by decide) (by omega) (by omega) (fun c_46 => ?_) (fun c_46 => ?_)
          · skip
            rw [← hQe]
            exact ky_thr_IOB hx hb hlf hown hG hZ hS (hl.1.trans hml.symm) dX5_told_74 dX5_told_77 dX5_told_78 dX5_told_81 htab (Nat.le_of_ble_eq_true rfl) (Nat.le_of_ble_eq_true rfl) (show cv + 1 ≤ 1200 from (by omega)) (show sv + 6 ≤ 600000 from (by omega)) hlocks (⟨rfl, by first | trivial | omega⟩) (fun t hvm h1 h2 => ⟨(rL18, nL18, zL18, FL18, ErL18, EnL18, EzL18, EFL18), ⟨hRLL18.1, hRLL18.2.1, hRLL18.2.2.1, hRLL18.2.2.2⟩, hrkL, hP.kept (fun k q hk => h2 q.1 (hP k q hk).lt), va_K.moved hvm hK, hD⟩) hS.2.2 (by omega) (by omega) (by omega) (by omega)
          · skip
            refine lv_iload_n hx hb dX5_told_54 rfl (lv_at hl 2 rfl) ?_
            refine lv_aload_n hx hb dX5_told_55 rfl (lv_at hl 1 rfl) ?_
            refine va_get (D := (dC, dI)) (ci := 5) (v := .ref (o 12)) (C := RX5) (T := TX5) (N := 16) hx hb hts kt_X5 hown hK hP 0 rfl rfl 12 (by decide) (kx_word hG kq_19_xouts_49 rfl) (fun _ h9 => h9) rfl dX5_told_56 ?_
            have hxz_47 : -2147483648 ≤ zL18 18 ∧ zL18 18 < 2147483648 := hRLL18.1.2.2.2.1 18
            refine va_getN (D := (dC, dI)) (ci := 4) (v := .int (iz (zL18 18))) (C := RX4) (T := TX4) (N := 5) hx hb hts kt_X4 hown hK hP 24 rfl rfl 1 (by decide) (va_Nw.use rfl (kx_nf hG kq_21_xcalls_49)) (fun _ h9 => h9) rfl dX5_told_59 ?_
            refine ki_icmp_ge (tgt := 74) hx hb dX5_told_62 (by decide) (by omega) (by omega) (by omega) (by omega) (fun c_48 => ?_) (fun c_48 => ?_)
            · skip
              rw [← hQe]
              exact ky_thr_IOB hx hb hlf hown hG hZ hS (hl.1.trans hml.symm) dX5_told_74 dX5_told_77 dX5_told_78 dX5_told_81 htab (Nat.le_of_ble_eq_true rfl) (Nat.le_of_ble_eq_true rfl) (show cv + 1 ≤ 1200 from (by omega)) (show sv + 6 ≤ 600000 from (by omega)) hlocks (⟨rfl, by first | trivial | omega⟩) (fun t hvm h1 h2 => ⟨(rL18, nL18, zL18, FL18, ErL18, EnL18, EzL18, EFL18), ⟨hRLL18.1, hRLL18.2.1, hRLL18.2.2.1, hRLL18.2.2.2⟩, hrkL, hP.kept (fun k q hk => h2 q.1 (hP k q hk).lt), va_K.moved hvm hK, hD⟩) hS.2.2 (by omega) (by omega) (by omega) (by omega)
            · skip
              refine lv_iload_n hx hb dX5_told_65 rfl (lv_at hl 3 rfl) ?_
              refine ki_if_lt (tgt := 74) hx hb dX5_told_66 (by decide) (by omega) (by omega) (fun c_49 => ?_) (fun c_49 => ?_)
              · skip
                rw [← hQe]
                exact ky_thr_IOB hx hb hlf hown hG hZ hS (hl.1.trans hml.symm) dX5_told_74 dX5_told_77 dX5_told_78 dX5_told_81 htab (Nat.le_of_ble_eq_true rfl) (Nat.le_of_ble_eq_true rfl) (show cv + 1 ≤ 1200 from (by omega)) (show sv + 6 ≤ 600000 from (by omega)) hlocks (⟨rfl, by first | trivial | omega⟩) (fun t hvm h1 h2 => ⟨(rL18, nL18, zL18, FL18, ErL18, EnL18, EzL18, EFL18), ⟨hRLL18.1, hRLL18.2.1, hRLL18.2.2.1, hRLL18.2.2.2⟩, hrkL, hP.kept (fun k q hk => h2 q.1 (hP k q hk).lt), va_K.moved hvm hK, hD⟩) hS.2.2 (by omega) (by omega) (by omega) (by omega)
              · skip
                refine lv_iload_n hx hb dX5_told_69 rfl (lv_at hl 3 rfl) ?_
                refine lv_iconst (v := iz 2) hx hb dX5_told_70 (by decide) ?_
                refine ki_icmp_le (tgt := 82) hx hb dX5_told_71 (by decide) (by omega) (by omega) (by omega) (by omega) (fun c_50 => ?_) (fun c_50 => ?_)
                · skip
                  refine lv_iload_n hx hb dX5_told_82 rfl (lv_at hl 3 rfl) ?_
                  refine ki_if_ne (tgt := 94) hx hb dX5_told_83 (by decide) (by omega) (by omega) (fun c_51 => ?_) (fun c_51 => ?_)
                  · skip
                    refine lv_iload_n hx hb dX5_told_94 rfl (lv_at hl 3 rfl) ?_
                    refine lv_iconst (v := iz 1) hx hb dX5_told_95 (by decide) ?_
                    refine ki_icmp_ne (tgt := 109) hx hb dX5_told_96 (by decide) (by omega) (by omega) (by omega) (by omega) (fun c_52 => ?_) (fun c_52 => ?_)
                    · skip
                      refine lv_aload_n hx hb dX5_told_109 rfl (lv_at hl 1 rfl) ?_
                      refine va_get (D := (dC, dI)) (ci := 5) (v := .ref (o 12)) (C := RX5) (T := TX5) (N := 16) hx hb hts kt_X5 hown hK hP 0 rfl rfl 12 (by decide) (kx_word hG kq_19_xouts_49 rfl) (fun _ h9 => h9) rfl dX5_told_110 ?_
                      have hxz_53 : -2147483648 ≤ zL18 21 ∧ zL18 21 < 2147483648 := hRLL18.1.2.2.2.1 21
                      refine va_getN (D := (dC, dI)) (ci := 4) (v := .int (iz (zL18 21))) (C := RX4) (T := TX4) (N := 5) hx hb hts kt_X4 hown hK hP 24 rfl rfl 4 (by decide) (va_Nw.use rfl (kx_nf hG kq_21_xcalls_50)) (fun _ h9 => h9) rfl dX5_told_113 ?_
                      rw [← hQe]
                      refine vx_ret ?_
                      exact xk_iret (ov := (fun u : (Int) × (Nat → Nat) × (Nat → Nat) × (Nat → Int) × (Nat → Int → Int) × (Nat → Nat → Nat) × (Nat → Nat → Nat) × (Nat → Nat → Int) × (Nat → Nat → Int → Int) => match u with | (q, r', n', z', F', Er', En', Ez', EF') => some (.int (iz q)))) (post := (fun (u : (Int) × (Nat → Nat) × (Nat → Nat) × (Nat → Int) × (Nat → Int → Int) × (Nat → Nat → Nat) × (Nat → Nat → Nat) × (Nat → Nat → Int) × (Nat → Nat → Int → Int)) (dn dm : Nat) => match u with | (q, r', n', z', F', Er', En', Ez', EF') => xR [0, 1, 15, 17, 18, 19, 20, 21] [0, 1] [10, 11, 12, 13] [] N z F En Ez EF n' z' F' En' Ez' EF' ∧ (dn + xg n' ≤ xg n + 0 ∧ dm + xp n' ≤ xp n + 0) ∧ (rs_RK z' F' Ez' lv ab Wd cm))) (ws := (fun u : (Int) × (Nat → Nat) × (Nat → Nat) × (Nat → Int) × (Nat → Int → Int) × (Nat → Nat → Nat) × (Nat → Nat → Nat) × (Nat → Nat → Int) × (Nat → Nat → Int → Int) => match u with | (q, r', n', z', F', Er', En', Ez', EF') => (xU cI cB cE o r' n' z' F' G (Eo 0 0) ++ eP cI N Eo Er' En' Ez' EF'))) (tys := xT cI cB cE) (z := zL18 21) (zL18 21, rL18, nL18, zL18, FL18, ErL18, EnL18, EzL18, EFL18) hx hb hr rfl hlocks rfl hP hD hK hS dX5_told_116 (fun dn dm hdn hdm => ⟨⟨hRLL18.1, hRLL18.2.1, hRLL18.2.2.1, hRLL18.2.2.2⟩, ⟨by omega, by omega⟩, hrkL⟩) (by omega) (by omega)
                    · skip
                      refine lv_aload_n hx hb dX5_told_99 rfl (lv_at hl 1 rfl) ?_
                      refine va_get (D := (dC, dI)) (ci := 5) (v := .ref (o 12)) (C := RX5) (T := TX5) (N := 16) hx hb hts kt_X5 hown hK hP 0 rfl rfl 12 (by decide) (kx_word hG kq_19_xouts_49 rfl) (fun _ h9 => h9) rfl dX5_told_100 ?_
                      have hxz_54 : -2147483648 ≤ zL18 20 ∧ zL18 20 < 2147483648 := hRLL18.1.2.2.2.1 20
                      refine va_getN (D := (dC, dI)) (ci := 4) (v := .int (iz (zL18 20))) (C := RX4) (T := TX4) (N := 5) hx hb hts kt_X4 hown hK hP 24 rfl rfl 3 (by decide) (va_Nw.use rfl (kx_nf hG kq_21_xcalls_51)) (fun _ h9 => h9) rfl dX5_told_103 ?_
                      refine lv_goto (tgt := 116) hx hb dX5_told_106 (by decide) ?_
                      rw [← hQe]
                      refine vx_ret ?_
                      exact xk_iret (ov := (fun u : (Int) × (Nat → Nat) × (Nat → Nat) × (Nat → Int) × (Nat → Int → Int) × (Nat → Nat → Nat) × (Nat → Nat → Nat) × (Nat → Nat → Int) × (Nat → Nat → Int → Int) => match u with | (q, r', n', z', F', Er', En', Ez', EF') => some (.int (iz q)))) (post := (fun (u : (Int) × (Nat → Nat) × (Nat → Nat) × (Nat → Int) × (Nat → Int → Int) × (Nat → Nat → Nat) × (Nat → Nat → Nat) × (Nat → Nat → Int) × (Nat → Nat → Int → Int)) (dn dm : Nat) => match u with | (q, r', n', z', F', Er', En', Ez', EF') => xR [0, 1, 15, 17, 18, 19, 20, 21] [0, 1] [10, 11, 12, 13] [] N z F En Ez EF n' z' F' En' Ez' EF' ∧ (dn + xg n' ≤ xg n + 0 ∧ dm + xp n' ≤ xp n + 0) ∧ (rs_RK z' F' Ez' lv ab Wd cm))) (ws := (fun u : (Int) × (Nat → Nat) × (Nat → Nat) × (Nat → Int) × (Nat → Int → Int) × (Nat → Nat → Nat) × (Nat → Nat → Nat) × (Nat → Nat → Int) × (Nat → Nat → Int → Int) => match u with | (q, r', n', z', F', Er', En', Ez', EF') => (xU cI cB cE o r' n' z' F' G (Eo 0 0) ++ eP cI N Eo Er' En' Ez' EF'))) (tys := xT cI cB cE) (z := zL18 20) (zL18 20, rL18, nL18, zL18, FL18, ErL18, EnL18, EzL18, EFL18) hx hb hr rfl hlocks rfl hP hD hK hS dX5_told_116 (fun dn dm hdn hdm => ⟨⟨hRLL18.1, hRLL18.2.1, hRLL18.2.2.1, hRLL18.2.2.2⟩, ⟨by omega, by omega⟩, hrkL⟩) (by omega) (by omega)
                  · skip
                    refine lv_aload_n hx hb dX5_told_86 rfl (lv_at hl 1 rfl) ?_
                    refine va_get (D := (dC, dI)) (ci := 5) (v := .ref (o 12)) (C := RX5) (T := TX5) (N := 16) hx hb hts kt_X5 hown hK hP 0 rfl rfl 12 (by decide) (kx_word hG kq_19_xouts_49 rfl) (fun _ h9 => h9) rfl dX5_told_87 ?_
                    have hxz_55 : -2147483648 ≤ zL18 19 ∧ zL18 19 < 2147483648 := hRLL18.1.2.2.2.1 19
                    refine va_getN (D := (dC, dI)) (ci := 4) (v := .int (iz (zL18 19))) (C := RX4) (T := TX4) (N := 5) hx hb hts kt_X4 hown hK hP 24 rfl rfl 2 (by decide) (va_Nw.use rfl (kx_nf hG kq_21_xcalls_52)) (fun _ h9 => h9) rfl dX5_told_90 ?_
                    rw [← hQe]
                    refine vx_ret ?_
                    exact xk_iret (ov := (fun u : (Int) × (Nat → Nat) × (Nat → Nat) × (Nat → Int) × (Nat → Int → Int) × (Nat → Nat → Nat) × (Nat → Nat → Nat) × (Nat → Nat → Int) × (Nat → Nat → Int → Int) => match u with | (q, r', n', z', F', Er', En', Ez', EF') => some (.int (iz q)))) (post := (fun (u : (Int) × (Nat → Nat) × (Nat → Nat) × (Nat → Int) × (Nat → Int → Int) × (Nat → Nat → Nat) × (Nat → Nat → Nat) × (Nat → Nat → Int) × (Nat → Nat → Int → Int)) (dn dm : Nat) => match u with | (q, r', n', z', F', Er', En', Ez', EF') => xR [0, 1, 15, 17, 18, 19, 20, 21] [0, 1] [10, 11, 12, 13] [] N z F En Ez EF n' z' F' En' Ez' EF' ∧ (dn + xg n' ≤ xg n + 0 ∧ dm + xp n' ≤ xp n + 0) ∧ (rs_RK z' F' Ez' lv ab Wd cm))) (ws := (fun u : (Int) × (Nat → Nat) × (Nat → Nat) × (Nat → Int) × (Nat → Int → Int) × (Nat → Nat → Nat) × (Nat → Nat → Nat) × (Nat → Nat → Int) × (Nat → Nat → Int → Int) => match u with | (q, r', n', z', F', Er', En', Ez', EF') => (xU cI cB cE o r' n' z' F' G (Eo 0 0) ++ eP cI N Eo Er' En' Ez' EF'))) (tys := xT cI cB cE) (z := zL18 19) (zL18 19, rL18, nL18, zL18, FL18, ErL18, EnL18, EzL18, EFL18) hx hb hr rfl hlocks rfl hP hD hK hS dX5_told_93 (fun dn dm hdn hdm => ⟨⟨hRLL18.1, hRLL18.2.1, hRLL18.2.2.1, hRLL18.2.2.2⟩, ⟨by omega, by omega⟩, hrkL⟩) (by omega) (by omega)
                · skip
                  rw [← hQe]
                  exact ky_thr_IOB hx hb hlf hown hG hZ hS (hl.1.trans hml.symm) dX5_told_74 dX5_told_77 dX5_told_78 dX5_told_81 htab (Nat.le_of_ble_eq_true rfl) (Nat.le_of_ble_eq_true rfl) (show cv + 1 ≤ 1200 from (by omega)) (show sv + 6 ≤ 600000 from (by omega)) hlocks (⟨rfl, by first | trivial | omega⟩) (fun t hvm h1 h2 => ⟨(rL18, nL18, zL18, FL18, ErL18, EnL18, EzL18, EFL18), ⟨hRLL18.1, hRLL18.2.1, hRLL18.2.2.1, hRLL18.2.2.2⟩, hrkL, hP.kept (fun k q hk => h2 q.1 (hP k q hk).lt), va_K.moved hvm hK, hD⟩) hS.2.2 (by omega) (by omega) (by omega) (by omega)
        · skip
          refine lv_aload_n hx hb dX5_told_42 rfl (lv_at hl 1 rfl) ?_
          refine va_get (D := (dC, dI)) (ci := 5) (v := .ref (o 12)) (C := RX5) (T := TX5) (N := 16) hx hb hts kt_X5 hown hK hP 0 rfl rfl 12 (by decide) (kx_word hG kq_19_xouts_49 rfl) (fun _ h9 => h9) rfl dX5_told_43 ?_
          have hxz_56 : -2147483648 ≤ zL18 18 ∧ zL18 18 < 2147483648 := hRLL18.1.2.2.2.1 18
          refine va_getN (D := (dC, dI)) (ci := 4) (v := .int (iz (zL18 18))) (C := RX4) (T := TX4) (N := 5) hx hb hts kt_X4 hown hK hP 24 rfl rfl 1 (by decide) (va_Nw.use rfl (kx_nf hG kq_21_xcalls_49)) (fun _ h9 => h9) rfl dX5_told_46 ?_
          rw [← hQe]
          refine vx_ret ?_
          exact xk_iret (ov := (fun u : (Int) × (Nat → Nat) × (Nat → Nat) × (Nat → Int) × (Nat → Int → Int) × (Nat → Nat → Nat) × (Nat → Nat → Nat) × (Nat → Nat → Int) × (Nat → Nat → Int → Int) => match u with | (q, r', n', z', F', Er', En', Ez', EF') => some (.int (iz q)))) (post := (fun (u : (Int) × (Nat → Nat) × (Nat → Nat) × (Nat → Int) × (Nat → Int → Int) × (Nat → Nat → Nat) × (Nat → Nat → Nat) × (Nat → Nat → Int) × (Nat → Nat → Int → Int)) (dn dm : Nat) => match u with | (q, r', n', z', F', Er', En', Ez', EF') => xR [0, 1, 15, 17, 18, 19, 20, 21] [0, 1] [10, 11, 12, 13] [] N z F En Ez EF n' z' F' En' Ez' EF' ∧ (dn + xg n' ≤ xg n + 0 ∧ dm + xp n' ≤ xp n + 0) ∧ (rs_RK z' F' Ez' lv ab Wd cm))) (ws := (fun u : (Int) × (Nat → Nat) × (Nat → Nat) × (Nat → Int) × (Nat → Int → Int) × (Nat → Nat → Nat) × (Nat → Nat → Nat) × (Nat → Nat → Int) × (Nat → Nat → Int → Int) => match u with | (q, r', n', z', F', Er', En', Ez', EF') => (xU cI cB cE o r' n' z' F' G (Eo 0 0) ++ eP cI N Eo Er' En' Ez' EF'))) (tys := xT cI cB cE) (z := zL18 18) (zL18 18, rL18, nL18, zL18, FL18, ErL18, EnL18, EzL18, EFL18) hx hb hr rfl hlocks rfl hP hD hK hS dX5_told_49 (fun dn dm hdn hdm => ⟨⟨hRLL18.1, hRLL18.2.1, hRLL18.2.2.1, hRLL18.2.2.2⟩, ⟨by omega, by omega⟩, hrkL⟩) (by omega) (by omega)
      · skip
        refine lv_aload_n hx hb dX5_told_26 rfl (lv_at hl 1 rfl) ?_
        refine lv_iload_n hx hb dX5_told_27 rfl (lv_at hl 0 rfl) ?_
        have hxG9 : xG N (zL18 12) G Eo := ⟨by omega, by omega, by omega, fun e9 h9 => hN4 e9 (by omega)⟩
        have hP : va_P (dC, dI) kxCl (xU cI cB cE o rL18 nL18 zL18 FL18 G (Eo 0 0) ++ eP cI N Eo ErL18 EnL18 EzL18 EFL18) H := hP
        have hD : va_D A (xU cI cB cE o rL18 nL18 zL18 FL18 G (Eo 0 0) ++ eP cI N Eo ErL18 EnL18 EzL18 EFL18) := hD
        have hFc := xw_free hD hS hA
        refine xk_call (va_runV (As := [.int (iz k)]) (rest := []) ⟨hx, hb, hml, hown, hts⟩ (y_warnOf l dC dI cI cB cE o rL18 nL18 zL18 FL18 G N Eo ErL18 EnL18 EzL18 EFL18 k H.size hRLL18.1 hxG9 hRLL18.2.2.1 (by omega) (by omega)) (cwV 1 hts (kx_gV kq_21_xcalls_53 kq_21_xcalls_54 kq_21_xcalls_55 kq_18_xrows_4 kq_21_xcalls_56 rfl) rfl rfl rfl (by decide +kernel) ⟨Nat.le_of_ble_eq_true rfl, Nat.le_of_ble_eq_true rfl⟩) ⟨kx_blind, va_recv hK hP (ci := 5) (q0 := 0) rfl rfl, kx_give (ws := []) (tys := []) hP hD hK hG hZ hS hFc⟩ rfl rfl hl.1 rfl (lv_room (Nat.le_of_ble_eq_true rfl)) dX5_told_28 ⟨show cv + 100 ≤ 1200 from (by omega), show sv + 42000 ≤ 600000 from (by omega)⟩) hS (fun q _ h => hFc q h) hFc (fun u dn_59 dm_60 t H locs ht hvm hq_57 hB hk1 hS => ?_)
        obtain ⟨r_61, n_62, z_63, F_64, Er_65, En_66, Ez_67, EF_68⟩ := u
        obtain ⟨hP, hK1, hD1⟩ := hB
        rw [ht] at hP
        have hD := hD1.weaken (fun _ q _ h => hFc _ h)
        obtain ⟨hR69, hC69, hq_57⟩ := hq_57
        have hok69 := hR69.1
        have hfr69 := hRLL18.2.1.tr (hR69.2.1.mono (S' := [0, 1, 15, 17, 18, 19, 20, 21]) (T' := [0, 1]) (by decide) (by decide))
        have hPE69 := hR69.2.2.1
        have hef69 := hRLL18.2.2.2.tr (hR69.2.2.2.mono (S' := [10, 11, 12, 13]) (T' := []) (by decide) (by decide))
        have hz69 : z_63 12 = (zL18 12) := hR69.2.1.1 12 (by decide)
        refine W.eq (g2 := F0 m 31 ls []) rfl ?_
        try dsimp only at hq_57
        have hrk70 : rs_RK z_63 F_64 Ez_67 lv ab Wd cm := rs_RK.fr hrkL (hR69.2.1.1 15 (by decide)) (hR69.2.1.1 12 (by decide)) (hR69.2.1.1 1 (by decide)) (hR69.2.1.2 1 (by decide)) (fun j => hR69.2.2.2.1 j 10 (by decide))
        refine lv_iinc (v := iz (k + 1)) (lv' := [(3, .int (iz (k + 1))), (0, .ref (o 15)), (1, .int (iz p0)), (2, .int (iz p1))]) hx hb dX5_told_31 hl (k := 0) rfl (iz_add k 1) (by decide) rfl (fun ls hl => ?_)
        refine lv_goto (tgt := 18) hx hb dX5_told_34 (by decide) ?_
        exact ih18 (k + 1) r_61 n_62 z_63 F_64 Er_65 En_66 Ez_67 EF_68 (cv + dn_59) (sv + dm_60) ⟨⟨hok69, hfr69, hPE69, hef69⟩, ⟨by omega, by omega⟩, (show z_63 12 = z 12 by omega), by omega, hrk70⟩ (by omega) _ _ hP hD hS ls (lv_sub hl [0, 1, 2, 3] rfl)
  exact lp18 _ 0 r_21 n_22 (va_up (va_up z_23 17 z1_39) 18 z2_40) F_24 Er_25 En_26 Ez_27 EF_28 (((0 + dn_4) + dn_19) + 0) (((0 + dm_5) + dm_20) + 0) ⟨⟨hok42, hfr42, hPE29, hef29⟩, ⟨by omega, by omega⟩, (show z_23 12 = z 12 by omega), by omega, hrk30⟩ (Nat.lt_succ_self _) _ _ hP hD hS ls (lv_sub hl [0, 1, 2, 3] rfl)
set_option maxHeartbeats 4000000 in
set_option maxRecDepth 100000 in
theorem y_print3 (l : Launch) (hlf : l.stackTraces = false) (dC : Nat → ClassId) (dI : Nat → Nat → Nat) (cI cB cE : ClassId) (o r n : Nat → Nat) (z : Nat → Int) (F : Nat → Int → Int) (G : Nat → Option Nat) (N : Nat) (Eo Er En : Nat → Nat → Nat) (Ez : Nat → Nat → Int) (EF : Nat → Nat → Int → Int) (lv : Int → Int) (ab : Int → Int) (Wd : Int → Int → Prop) (cm : Int → Int → Int) (sz : Nat) (hok : xOk n z F) (hxG : xG N (z 12) G Eo) (hPE : eA N En Ez EF) (hRH : rs_H (z 12) Ez EF lv ab Wd cm) (h79 : z 12 ≤ 78) (hkn : rs_RK z F Ez lv ab Wd cm) : vx_Met l yX5_print [.code yX5_print cX5_print 7 (some .int)] ({ frames := 7, cells := 1200, slots := 600000, locals := 196 }) (va_Pc [.ref (o 15)] (kx_Pre dC dI (xU cI cB cE o r n z F G (Eo 0 0) ++ eP cI N Eo Er En Ez EF) (xT cI cB cE) sz)) (xQ (fun u : (Int) × (Nat → Nat) × (Nat → Nat) × (Nat → Nat) × (Nat → Int) × (Nat → Int → Int) × (Nat → Nat → Nat) × (Nat → Nat → Nat) × (Nat → Nat → Int) × (Nat → Nat → Int → Int) => match u with | (q, o', r', n', z', F', Er', En', Ez', EF') => some (.int (iz q))) (fun (u : (Int) × (Nat → Nat) × (Nat → Nat) × (Nat → Nat) × (Nat → Int) × (Nat → Int → Int) × (Nat → Nat → Nat) × (Nat → Nat → Nat) × (Nat → Nat → Int) × (Nat → Nat → Int → Int)) (dn dm : Nat) => match u with | (q, o', r', n', z', F', Er', En', Ez', EF') => xR [0, 1, 2, 4, 5, 6, 7, 8, 9, 10, 11, 15, 16, 22, 23] [0, 1, 2, 4, 5, 6, 7, 8, 9, 10, 11] [10] [] N z F En Ez EF n' z' F' En' Ez' EF' ∧ (dn + xg n' ≤ xg n + 0 ∧ dm + xp n' ≤ xp n + 0) ∧ ((∀ k, k ≠ 10 → k ≠ 11 → o' k = o k) ∧ rs_RK z' F' Ez' lv ab Wd cm)) (fun u t => kx_At dC dI (va_A (xU cI cB cE o r n z F G (Eo 0 0) ++ eP cI N Eo Er En Ez EF) sz) ((fun u : (Int) × (Nat → Nat) × (Nat → Nat) × (Nat → Nat) × (Nat → Int) × (Nat → Int → Int) × (Nat → Nat → Nat) × (Nat → Nat → Nat) × (Nat → Nat → Int) × (Nat → Nat → Int → Int) => match u with | (q, o', r', n', z', F', Er', En', Ez', EF') => (xU cI cB cE o' r' n' z' F' G (Eo 0 0) ++ eP cI N Eo Er' En' Ez' EF')) u) (xT cI cB cE) t) (va_A (xU cI cB cE o r n z F G (Eo 0 0) ++ eP cI N Eo Er En Ez EF) sz)) (yX (fun E => (E = "java/lang/UnsupportedOperationException" ∧ (True))) 100 42000 (fun t => ∃ u : (Nat → Nat) × (Nat → Nat) × (Nat → Int) × (Nat → Int → Int) × (Nat → Nat → Nat) × (Nat → Nat → Nat) × (Nat → Nat → Int) × (Nat → Nat → Int → Int), match u with | (r', n', z', F', Er', En', Ez', EF') => xR [0, 1, 2, 4, 5, 6, 7, 8, 9, 10, 11, 15, 16, 22, 23] [0, 1, 2, 4, 5, 6, 7, 8, 9, 10, 11] [10] [] N z F En Ez EF n' z' F' En' Ez' EF' ∧ (rs_RK z' F' Ez' lv ab Wd cm) ∧ kx_At dC dI (va_A (xU cI cB cE o r n z F G (Eo 0 0) ++ eP cI N Eo Er En Ez EF) sz) (xU cI cB cE o r' n' z' F' G (Eo 0 0) ++ eP cI N Eo Er' En' Ez' EF') (xT cI cB cE) t) (va_A (xU cI cB cE o r n z F G (Eo 0 0) ++ eP cI N Eo Er En Ez EF) sz)) 1200 600000 (va_A (xU cI cB cE o r n z F G (Eo 0 0) ++ eP cI N Eo Er En Ez EF) sz) := by
  refine vx_ofW (cc := cX5_print) (maxL := 7) (ret := (some .int)) (by decide) rfl ?_
  intro p e s m args below meth c s₁ B hml htab hv
  obtain ⟨rfl, hsz, hP, hK, hD0, hG, hZ⟩ := hv
  have hx := B.exec
  have hb := B.bytes
  have hr := B.returns
  have hts := kx_hts (a := ([.ref (o 15)] : List Value).toArray) hG
  have hown : s.vm.findClass RX5 = some m.cls := findClass_of_methodNamed B.named
  have hlocks := B.notSynchronized
  subst hsz
  have hD := hD0.self (sz := s.heap.size)
  generalize hAe : va_A (xU cI cB cE o r n z F G (Eo 0 0) ++ eP cI N Eo Er En Ez EF) s.heap.size = A at hD hZ ⊢
  have hA : ∀ q : Nat, s.heap.size ≤ q → A q := fun q h => by rw [← hAe]; exact Or.inr h
  have hS : va_S A s.heap s.heap [] := va_S.rf
  have hl := lv_entry ([.ref (o 15)]) (n := 7) (Nat.le_of_ble_eq_true rfl)
  rw [lg_entry_eq]
  generalize (lg_sl ([.ref (o 15)]) ++ List.replicate (7 - (lg_sl ([.ref (o 15)])).length) Slot.unset).toArray = ls at hl ⊢
  obtain ⟨hN1, hN2, hN3, hN4⟩ := hxG
  have hef : eFr [10] [] En Ez EF En Ez EF := eFr.rf
  have hfr : xFr [0, 1, 2, 4, 5, 6, 7, 8, 9, 10, 11, 15, 16, 22, 23] [0, 1, 2, 4, 5, 6, 7, 8, 9, 10, 11] z F z F := xFr.rf
  have hxgl := xg_le n
  have hxpl := xp_le n
  have hl : lv_has ls 7 [(0, .ref (o 15))] := hl
  generalize hQe : vx_MQ below (xQ (fun u : (Int) × (Nat → Nat) × (Nat → Nat) × (Nat → Nat) × (Nat → Int) × (Nat → Int → Int) × (Nat → Nat → Nat) × (Nat → Nat → Nat) × (Nat → Nat → Int) × (Nat → Nat → Int → Int) => match u with | (q, o', r', n', z', F', Er', En', Ez', EF') => some (.int (iz q))) (fun (u : (Int) × (Nat → Nat) × (Nat → Nat) × (Nat → Nat) × (Nat → Int) × (Nat → Int → Int) × (Nat → Nat → Nat) × (Nat → Nat → Nat) × (Nat → Nat → Int) × (Nat → Nat → Int → Int)) (dn dm : Nat) => match u with | (q, o', r', n', z', F', Er', En', Ez', EF') => xR [0, 1, 2, 4, 5, 6, 7, 8, 9, 10, 11, 15, 16, 22, 23] [0, 1, 2, 4, 5, 6, 7, 8, 9, 10, 11] [10] [] N z F En Ez EF n' z' F' En' Ez' EF' ∧ (dn + xg n' ≤ xg n + 0 ∧ dm + xp n' ≤ xp n + 0) ∧ ((∀ k, k ≠ 10 → k ≠ 11 → o' k = o k) ∧ rs_RK z' F' Ez' lv ab Wd cm)) (fun u t => kx_At dC dI A ((fun u : (Int) × (Nat → Nat) × (Nat → Nat) × (Nat → Nat) × (Nat → Int) × (Nat → Int → Int) × (Nat → Nat → Nat) × (Nat → Nat → Nat) × (Nat → Nat → Int) × (Nat → Nat → Int → Int) => match u with | (q, o', r', n', z', F', Er', En', Ez', EF') => (xU cI cB cE o' r' n' z' F' G (Eo 0 0) ++ eP cI N Eo Er' En' Ez' EF')) u) (xT cI cB cE) t) A) (yX (fun E => (E = "java/lang/UnsupportedOperationException" ∧ (True))) 100 42000 (fun t => ∃ u : (Nat → Nat) × (Nat → Nat) × (Nat → Int) × (Nat → Int → Int) × (Nat → Nat → Nat) × (Nat → Nat → Nat) × (Nat → Nat → Int) × (Nat → Nat → Int → Int), match u with | (r', n', z', F', Er', En', Ez', EF') => xR [0, 1, 2, 4, 5, 6, 7, 8, 9, 10, 11, 15, 16, 22, 23] [0, 1, 2, 4, 5, 6, 7, 8, 9, 10, 11] [10] [] N z F En Ez EF n' z' F' En' Ez' EF' ∧ (rs_RK z' F' Ez' lv ab Wd cm) ∧ kx_At dC dI A (xU cI cB cE o r' n' z' F' G (Eo 0 0) ++ eP cI N Eo Er' En' Ez' EF') (xT cI cB cE) t) A) ([.ref (o 15)] : List Value).toArray s 1200 600000 A = QQ
  refine lv_aload_n hx hb dX5_print_0 rfl (lv_at hl 0 rfl) ?_
  have hxz_1 : -2147483648 ≤ z 12 ∧ z 12 < 2147483648 := hok.2.2.2.1 12
  have hxG9 : xG N (z 12) G Eo := ⟨by omega, by omega, by omega, fun e9 h9 => hN4 e9 (by omega)⟩
  have hP : va_P (dC, dI) kxCl (xU cI cB cE o r n z F G (Eo 0 0) ++ eP cI N Eo Er En Ez EF) s.heap := hP
  refine xk_pure (va_runV (As := []) (rest := []) ⟨hx, hb, hml, hown, hts⟩ (y_firstFault l dC dI cI cB cE o r n z F G N Eo Er En Ez EF  s.heap.size hok hxG9 hPE ) (cwV 0 hts (kx_gV kq_24_xnew_0 kq_24_xnew_1 kq_24_xnew_2 kq_18_xrows_4 kq_24_xnew_3 rfl) rfl rfl rfl (by decide +kernel) ⟨Nat.le_of_ble_eq_true rfl, Nat.le_of_ble_eq_true rfl⟩) ⟨pPre_blind, va_recv hK hP (ci := 5) (q0 := 0) rfl rfl, pPre_give hP hK hG⟩ rfl rfl hl.1 rfl (lv_room (Nat.le_of_ble_eq_true rfl)) dX5_print_1 ⟨show 0 + 0 ≤ 1200 from (by omega), show 0 + 0 ≤ 600000 from (by omega)⟩) hS (fun z_3 locs hq_2 hS => ?_)
  refine W.eq (g2 := F0 m 4 ls [.int (iz z_3)]) rfl ?_
  try dsimp only at hq_2
  refine lv_istore_n (lv' := [(1, .int (iz z_3)), (0, .ref (o 15))]) hx hb dX5_print_4 rfl hl (by decide) rfl (fun ls hl => ?_)
  refine lv_iload_n hx hb dX5_print_5 rfl (lv_at hl 0 rfl) ?_
  refine ki_if_lt (tgt := 13) hx hb dX5_print_6 (by decide) (by omega) (by omega) (fun c_4 => ?_) (fun c_4 => ?_)
  · skip
    refine lv_aload_n hx hb dX5_print_13 rfl (lv_at hl 1 rfl) ?_
    have hxG9 : xG N (z 12) G Eo := ⟨by omega, by omega, by omega, fun e9 h9 => hN4 e9 (by omega)⟩
    have hP : va_P (dC, dI) kxCl (xU cI cB cE o r n z F G (Eo 0 0) ++ eP cI N Eo Er En Ez EF) s.heap := hP
    have hD : va_D A (xU cI cB cE o r n z F G (Eo 0 0) ++ eP cI N Eo Er En Ez EF) := hD
    have hFc := xw_free hD hS hA
    refine xk_call (va_runV (As := []) (rest := []) ⟨hx, hb, hml, hown, hts⟩ (y_findRows2 l dC dI cI cB cE o r n z F G N Eo Er En Ez EF lv ab Wd cm s.heap.size hok hxG9 hPE (by first | exact hRH | exact hRH.fr hef (by decide) (by decide)) (by omega) hkn) (cwV 0 hts (kx_gV kq_21_xcalls_25 kq_21_xcalls_26 kq_21_xcalls_27 kq_18_xrows_4 kq_21_xcalls_28 rfl) rfl rfl rfl (by decide +kernel) ⟨Nat.le_of_ble_eq_true rfl, Nat.le_of_ble_eq_true rfl⟩) ⟨kx_blind, va_recv hK hP (ci := 5) (q0 := 0) rfl rfl, kx_give (ws := []) (tys := []) hP hD hK hG hZ hS hFc⟩ rfl rfl hl.1 rfl (lv_room (Nat.le_of_ble_eq_true rfl)) dX5_print_14 ⟨show 0 + 600 ≤ 1200 from (by omega), show 0 + 300000 ≤ 600000 from (by omega)⟩) hS (fun q _ h => hFc q h) hFc (fun u dn_7 dm_8 t H locs ht hvm hq_5 hB hk1 hS => ?_)
    obtain ⟨r_9, n_10, z_11, F_12, Er_13, En_14, Ez_15, EF_16⟩ := u
    obtain ⟨hP, hK1, hD1⟩ := hB
    rw [ht] at hP
    have hD := hD1.weaken (fun _ q _ h => hFc _ h)
    obtain ⟨hR17, hC17, hq_5⟩ := hq_5
    have hok17 := hR17.1
    have hfr17 := hfr.tr (hR17.2.1.mono (S' := [0, 1, 2, 4, 5, 6, 7, 8, 9, 10, 11, 15, 16, 22, 23]) (T' := [0, 1, 2, 4, 5, 6, 7, 8, 9, 10, 11]) (by decide) (by decide))
    have hPE17 := hR17.2.2.1
    have hef17 := hef.tr (hR17.2.2.2.mono (S' := [10]) (T' := []) (by decide) (by decide))
    have hz17 : z_11 12 = (z 12) := hR17.2.1.1 12 (by decide)
    refine W.eq (g2 := F0 m 17 ls []) rfl ?_
    try dsimp only at hq_5
    obtain ⟨hk1518, hrr18⟩ := hq_5
    have hrk18 : rs_RK z_11 F_12 Ez_15 lv ab Wd cm := fun _ => hrr18
    refine lv_aload_n hx hb dX5_print_17 rfl (lv_at hl 1 rfl) ?_
    refine va_get (D := (dC, dI)) (ci := 5) (v := .ref (o 11)) (C := RX5) (T := TX5) (N := 16) hx hb hts kt_X5 hown hK hP 0 rfl rfl 15 (by decide) (kx_word hG kq_19_xouts_60 rfl) (fun _ h9 => h9) rfl dX5_print_18 ?_
    have hxp_19 : 0 ≤ z_11 11 ∧ z_11 11 ≤ ((n_10 11 : Nat) : Int) ∧ (n_10 11 = 0 ∨ n_10 11 = 6000) := hok17.2.1 11 (by decide)
    have hxz_20 : -2147483648 ≤ z_11 23 ∧ z_11 23 < 2147483648 := hok17.2.2.2.1 23
    have hxb_21 : z_11 23 = 0 ∨ z_11 23 = 1 := hok17.2.2.2.2 23 (by decide)
    have hPc := hP.sub (ws' := (pU cB (o 11) (r_9 11) (n_10 11) (z_11 11) (z_11 23) (F_12 11))) [27, 28] rfl
    have hDc := hD.sub (ws' := (pU cB (o 11) (r_9 11) (n_10 11) (z_11 11) (z_11 23) (F_12 11))) [27, 28] (by decide) rfl
    have hFc := va_free (wc := (pU cB (o 11) (r_9 11) (n_10 11) (z_11 11) (z_11 23) (F_12 11))) hD hS hA [27, 28] rfl
    refine xk_call (va_runV (As := []) (rest := []) ⟨hx, hb, hml, hown, hts⟩ (x_pclear l dC dI cI cB cE (o 11) (r_9 11) (n_10 11) (z_11 11) (z_11 23) (F_12 11)  H.size (by omega) (by omega) (hok17.2.2.1 11)) (cwV 0 hts (kx_gV kq_24_xnew_4 kq_24_xnew_5 kq_24_xnew_6 kq_15_xspan_17 kq_24_xnew_7 rfl) rfl rfl rfl (by decide +kernel) ⟨Nat.le_of_ble_eq_true rfl, Nat.le_of_ble_eq_true rfl⟩) ⟨kx_blind, va_recv hK hPc (ci := 2) (q0 := 0) rfl rfl, kx_give (ws := []) (tys := []) hPc hDc hK hG hZ hS hFc⟩ rfl rfl hl.1 rfl (lv_room (Nat.le_of_ble_eq_true rfl)) dX5_print_21 ⟨show (0 + dn_7) + 1 ≤ 1200 from (by omega), show (0 + dm_8) + 6000 ≤ 600000 from (by omega)⟩) hS (fun q _ h => hFc q h) hFc (fun u dn_23 dm_24 t H locs ht hvm hq_22 hB hk1 hS => ?_)
    obtain ⟨r_25, n_26, z_27, tl_28, F_29⟩ := u
    obtain ⟨hP1, hK1, hD1⟩ := hB
    rw [ht] at hP1
    obtain ⟨hP, hD⟩ := xj_pool (wr := [(o 15, .inr (5, [.ref (o 16), .ref (Eo 0 0), .int (iz (z_11 12)), .int (iz (z_11 13)), .int (iz (z_11 14)), .ref (o 0), .ref (o 1), .int (iz (z_11 15)), .ref (o 13), .ref (o 14), .int (iz (z_11 16)), .ref (o 2), .ref (o 12), .ref (o 3), .ref (o 10), .ref (o 11)])), (o 16, .inl (cE, 80, .inr (.inr (.inr (.inr G))))), (o 0, .inr (1, [.int (iz 80), .ref (r_9 0), .int (iz (z_11 0))])), (r_9 0, .inl (cI, n_10 0, .inl (iA (F_12 0)))), (o 1, .inr (1, [.int (iz 80), .ref (r_9 1), .int (iz (z_11 1))])), (r_9 1, .inl (cI, n_10 1, .inl (iA (F_12 1)))), (o 2, .inr (1, [.int (iz 80), .ref (r_9 2), .int (iz (z_11 2))])), (r_9 2, .inl (cI, n_10 2, .inl (iA (F_12 2)))), (o 3, .inr (1, [.int (iz 80), .ref (r_9 3), .int (iz (z_11 3))])), (r_9 3, .inl (cI, n_10 3, .inl (iA (F_12 3)))), (o 13, .inr (3, [.ref (o 4), .ref (o 5), .ref (o 6)])), (o 4, .inr (1, [.int (iz 1600), .ref (r_9 4), .int (iz (z_11 4))])), (r_9 4, .inl (cI, n_10 4, .inl (iA (F_12 4)))), (o 5, .inr (1, [.int (iz 1600), .ref (r_9 5), .int (iz (z_11 5))])), (r_9 5, .inl (cI, n_10 5, .inl (iA (F_12 5)))), (o 6, .inr (1, [.int (iz 1600), .ref (r_9 6), .int (iz (z_11 6))])), (r_9 6, .inl (cI, n_10 6, .inl (iA (F_12 6)))), (o 14, .inr (3, [.ref (o 7), .ref (o 8), .ref (o 9)])), (o 7, .inr (1, [.int (iz 1600), .ref (r_9 7), .int (iz (z_11 7))])), (r_9 7, .inl (cI, n_10 7, .inl (iA (F_12 7)))), (o 8, .inr (1, [.int (iz 1600), .ref (r_9 8), .int (iz (z_11 8))])), (r_9 8, .inl (cI, n_10 8, .inl (iA (F_12 8)))), (o 9, .inr (1, [.int (iz 1600), .ref (r_9 9), .int (iz (z_11 9))])), (r_9 9, .inl (cI, n_10 9, .inl (iA (F_12 9)))), (o 12, .inr (4, [.int (iz (z_11 17)), .int (iz (z_11 18)), .int (iz (z_11 19)), .int (iz (z_11 20)), .int (iz (z_11 21))])), (o 10, .inr (2, [.ref (r_9 10), .int (iz (z_11 10)), .int (iz (z_11 22))])), (r_9 10, .inl (cB, n_10 10, .inl (iA (F_12 10))))]) (w1 := (pU cB (o 11) r_25 n_26 z_27 tl_28 F_29)) (ws' := (xU cI cB cE o (va_up r_9 11 r_25) (va_up n_10 11 n_26) (va_up (va_up z_11 11 z_27) 23 tl_28) (va_up F_12 11 F_29) G (Eo 0 0))) hP hD [27, 28] [0, 1, 2, 3, 4, 5, 6, 7, 8, 9, 10, 11, 12, 13, 14, 15, 16, 17, 18, 19, 20, 21, 22, 23, 24, 25, 26] [0, 1, 2, 3, 4, 5, 6, 7, 8, 9, 10, 11, 12, 13, 14, 15, 16, 17, 18, 19, 20, 21, 22, 23, 24, 25, 26, 27, 28] rfl rfl (by decide) (by decide) hk1 hFc hP1 hD1 rfl (by decide)
    refine W.eq (g2 := F0 m 24 ls []) rfl ?_
    try dsimp only at hq_22
    obtain ⟨hc30, hz30, ht30, hn30, hF30⟩ := hq_22
    refine lv_iconst (v := iz (-1)) hx hb dX5_print_24 (by decide) ?_
    refine lv_istore_n (lv' := [(2, .int (iz (-1))), (1, .int (iz z_3)), (0, .ref (o 15))]) hx hb dX5_print_25 rfl hl (by decide) rfl (fun ls hl => ?_)
    refine lv_iconst (v := iz 0) hx hb dX5_print_26 (by decide) ?_
    refine lv_istore_n (lv' := [(3, .int (iz 0)), (2, .int (iz (-1))), (1, .int (iz z_3)), (0, .ref (o 15))]) hx hb dX5_print_27 rfl hl (by decide) rfl (fun ls hl => ?_)
    have hok31 : xOk (va_up n_10 11 n_26) (va_up (va_up z_11 11 z_27) 23 tl_28) (va_up F_12 11 F_29) := ((hok17.p 11 (by decide) (show 0 ≤ z_27 ∧ z_27 ≤ ((n_26 : Nat) : Int) ∧ (n_26 = 0 ∨ n_26 = 6000) by omega) hF30).s 23 (by decide) (show -2147483648 ≤ tl_28 ∧ tl_28 < 2147483648 by omega) (by omega))
    have hfr31 : xFr [0, 1, 2, 4, 5, 6, 7, 8, 9, 10, 11, 15, 16, 22, 23] [0, 1, 2, 4, 5, 6, 7, 8, 9, 10, 11] z F (va_up (va_up z_11 11 z_27) 23 tl_28) (va_up F_12 11 F_29) := (((hfr17.uz 11 (by decide) _).uz 23 (by decide) _).uf 11 (by decide) _)
    have hcg31 : (dn_23) + xg (va_up n_10 11 n_26) ≤ xg n_10 := by unfold xg; simp (decide := true) only [va_ev, ↓reduceIte]; omega
    have hcp31 : (dm_24) + xp (va_up n_10 11 n_26) ≤ xp n_10 := by unfold xp; simp (decide := true) only [va_ev, ↓reduceIte]; omega
    have lp28 : ∀ (n0 : Nat) (gv : Int) (k : Int) (rL28 : Nat → Nat) (nL28 : Nat → Nat) (zL28 : Nat → Int) (FL28 : Nat → Int → Int) (ErL28 : Nat → Nat → Nat) (EnL28 : Nat → Nat → Nat) (EzL28 : Nat → Nat → Int) (EFL28 : Nat → Nat → Int → Int) (cv : Nat) (sv : Nat), ((xR [0, 1, 2, 4, 5, 6, 7, 8, 9, 10, 11, 15, 16, 22, 23] [0, 1, 2, 4, 5, 6, 7, 8, 9, 10, 11] [10] [] N z F En Ez EF nL28 zL28 FL28 EnL28 EzL28 EFL28) ∧ (cv + xg nL28 ≤ xg n + (0) ∧ sv + xp nL28 ≤ xp n + (0)) ∧ (zL28 12 = z 12) ∧ (-2147483648 ≤ gv ∧ gv < 2147483648) ∧ (0 ≤ k ∧ k ≤ 81) ∧ (rs_RK zL28 FL28 EzL28 lv ab Wd cm)) → (zL28 1 - k).toNat < n0 → ∀ (H : Heap) (locs : List Loc), va_P (dC, dI) kxCl ((xU cI cB cE o rL28 nL28 zL28 FL28 G (Eo 0 0)) ++ (eP cI N Eo ErL28 EnL28 EzL28 EFL28)) H → va_D A ((xU cI cB cE o rL28 nL28 zL28 FL28 G (Eo 0 0)) ++ (eP cI N Eo ErL28 EnL28 EzL28 EFL28)) → va_S A s.heap H locs → ∀ ls : Array Slot, lv_has ls 7 [(3, .int (iz k)), (2, .int (iz gv)), (1, .int (iz z_3)), (0, .ref (o 15))] → W p l e (headSpec [.code yX5_print cX5_print 7 (some .int)] ({ frames := 7, cells := 1200, slots := 600000, locals := 196 })).room s m ([.ref (o 15)] : List Value).toArray below meth c H locs cv sv QQ (F0 m 28 ls []) := by
      intro n0
      induction n0 with
      | zero => intro gv k rL28 nL28 zL28 FL28 ErL28 EnL28 EzL28 EFL28 cv sv hinv hm0; exact absurd hm0 (Nat.not_lt_zero _)
      | succ n0 ih28 =>
        intro gv k rL28 nL28 zL28 FL28 ErL28 EnL28 EzL28 EFL28 cv sv hinv hm0 H locs hP hD hS ls hl
        obtain ⟨hRLL28, hCLL28, hZLL28, hgv, hk, hrkL⟩ := hinv
        have hz1 : 0 ≤ zL28 1 ∧ zL28 1 ≤ (nL28 1 : Int) ∧ (nL28 1 : Int) ≤ 80 := hRLL28.1.1 1 (by decide)
        refine lv_iload_n hx hb dX5_print_28 rfl (lv_at hl 0 rfl) ?_
        refine lv_aload_n hx hb dX5_print_29 rfl (lv_at hl 3 rfl) ?_
        refine va_get (D := (dC, dI)) (ci := 5) (v := .ref (o 1)) (C := RX5) (T := TX5) (N := 16) hx hb hts kt_X5 hown hK hP 0 rfl rfl 6 (by decide) (kx_word hG kq_18_xrows_47 rfl) (fun _ h9 => h9) rfl dX5_print_30 ?_
        have hxi_32 : 0 ≤ zL28 1 ∧ zL28 1 ≤ ((nL28 1 : Nat) : Int) ∧ ((nL28 1 : Nat) : Int) ≤ 80 := hRLL28.1.1 1 (by decide)
        have hPc := hP.sub (ws' := (iU cI 80 (o 1) (rL28 1) (nL28 1) (zL28 1) (FL28 1))) [4, 5] rfl
        refine xk_pure (va_runV (As := []) (rest := [.int (iz k)]) ⟨hx, hb, hml, hown, hts⟩ (x_size l dC dI cI cB cE 80 (o 1) (rL28 1) (nL28 1) (zL28 1) (FL28 1)  H.size ) (cwV 0 hts (kx_gV kq_18_xrows_40 kq_15_xspan_10 kq_15_xspan_11 kq_13_xints_6 kq_15_xspan_12 rfl) rfl rfl rfl (by decide +kernel) ⟨Nat.le_of_ble_eq_true rfl, Nat.le_of_ble_eq_true rfl⟩) ⟨pPre_blind, va_recv hK hPc (ci := 1) (q0 := 0) rfl rfl, pPre_give hPc hK hG⟩ rfl rfl hl.1 rfl (lv_room (Nat.le_of_ble_eq_true rfl)) dX5_print_33 ⟨show cv + 0 ≤ 1200 from (by omega), show sv + 0 ≤ 600000 from (by omega)⟩) hS (fun z_34 locs hq_33 hS => ?_)
        refine W.eq (g2 := F0 m 36 ls [.int (iz z_34), .int (iz k)]) rfl ?_
        try dsimp only at hq_33
        have hq_33 := hq_33.symm
        subst hq_33
        refine ki_icmp_ge (tgt := 131) hx hb dX5_print_36 (by decide) (by omega) (by omega) (by omega) (by omega) (fun c_35 => ?_) (fun c_35 => ?_)
        · skip
          refine lv_aload_n hx hb dX5_print_131 rfl (lv_at hl 3 rfl) ?_
          refine va_get (D := (dC, dI)) (ci := 5) (v := .ref (o 11)) (C := RX5) (T := TX5) (N := 16) hx hb hts kt_X5 hown hK hP 0 rfl rfl 15 (by decide) (kx_word hG kq_19_xouts_60 rfl) (fun _ h9 => h9) rfl dX5_print_132 ?_
          have hxz_36 : -2147483648 ≤ zL28 23 ∧ zL28 23 < 2147483648 := hRLL28.1.2.2.2.1 23
          have hxb_37 : zL28 23 = 0 ∨ zL28 23 = 1 := hRLL28.1.2.2.2.2 23 (by decide)
          refine va_getN (D := (dC, dI)) (ci := 2) (v := .int (iz (zL28 23))) (C := RX2) (T := TX2) (N := 3) hx hb hts kt_X2 hown hK hP 27 rfl rfl 2 (by decide) (va_Nw.use rfl (kx_nf hG kq_24_xnew_8)) (fun _ h9 => h9) rfl dX5_print_135 ?_
          refine ki_if_eq (tgt := 149) hx hb dX5_print_138 (by decide) (by omega) (by omega) (fun c_38 => ?_) (fun c_38 => ?_)
          · skip
            refine lv_aload_n hx hb dX5_print_149 rfl (lv_at hl 3 rfl) ?_
            refine va_get (D := (dC, dI)) (ci := 5) (v := .ref (o 10)) (C := RX5) (T := TX5) (N := 16) hx hb hts kt_X5 hown hK hP 0 rfl rfl 14 (by decide) (kx_word hG kq_21_xcalls_57 rfl) (fun _ h9 => h9) rfl dX5_print_150 ?_
            refine lv_astore_n (lv' := [(3, .ref (o 10)), (2, .int (iz gv)), (1, .int (iz z_3)), (0, .ref (o 15))]) hx hb dX5_print_153 rfl hl (by decide) rfl (fun ls hl => ?_)
            have hxp_39 : 0 ≤ zL28 10 ∧ zL28 10 ≤ ((nL28 10 : Nat) : Int) ∧ (nL28 10 = 0 ∨ nL28 10 = 6000) := hRLL28.1.2.1 10 (by decide)
            have hxp_40 : 0 ≤ zL28 11 ∧ zL28 11 ≤ ((nL28 11 : Nat) : Int) ∧ (nL28 11 = 0 ∨ nL28 11 = 6000) := hRLL28.1.2.1 11 (by decide)
            have hxz_41 : -2147483648 ≤ zL28 22 ∧ zL28 22 < 2147483648 := hRLL28.1.2.2.2.1 22
            have hxb_42 : zL28 22 = 0 ∨ zL28 22 = 1 := hRLL28.1.2.2.2.2 22 (by decide)
            refine lv_aload_n hx hb dX5_print_154 rfl (lv_at hl 3 rfl) ?_
            refine lv_aload_n hx hb dX5_print_155 rfl (lv_at hl 3 rfl) ?_
            refine va_get (D := (dC, dI)) (ci := 5) (v := .ref (o 11)) (C := RX5) (T := TX5) (N := 16) hx hb hts kt_X5 hown hK hP 0 rfl rfl 15 (by decide) (kx_word hG kq_19_xouts_60 rfl) (fun _ h9 => h9) rfl dX5_print_156 ?_
            refine va_put (D := (dC, dI)) (ci := 5) (v := .ref (o 11)) (ty := .object RX2) (C := RX5) (T := TX5) (N := 16) hx hb hts kt_X5 tyX5 tyX5_ok nmX5 hown hK hP hD hS 0 rfl rfl 14 (by decide) (kx_word hG kq_21_xcalls_57 rfl) (fun _ h9 => h9) rfl (by decide +kernel) rfl rfl (Nat.le_of_ble_eq_true rfl) dX5_print_159 (fun H locs hP hD hS => ?_)
            refine lv_aload_n hx hb dX5_print_162 rfl (lv_at hl 3 rfl) ?_
            refine lv_aload_n hx hb dX5_print_163 rfl (lv_at hl 0 rfl) ?_
            refine va_put (D := (dC, dI)) (ci := 5) (v := .ref (o 10)) (ty := .object RX2) (C := RX5) (T := TX5) (N := 16) hx hb hts kt_X5 tyX5 tyX5_ok nmX5 hown hK hP hD hS 0 rfl rfl 15 (by decide) (kx_word hG kq_19_xouts_60 rfl) (fun _ h9 => h9) rfl (by decide +kernel) rfl rfl (Nat.le_of_ble_eq_true rfl) dX5_print_164 (fun H locs hP hD hS => ?_)
            have hP : va_P (dC, dI) kxCl ([(o 15, .inr (5, [.ref (o 16), .ref (Eo 0 0), .int (iz (zL28 12)), .int (iz (zL28 13)), .int (iz (zL28 14)), .ref (o 0), .ref (o 1), .int (iz (zL28 15)), .ref (o 13), .ref (o 14), .int (iz (zL28 16)), .ref (o 2), .ref (o 12), .ref (o 3), .ref (o 11), .ref (o 10)])), (o 16, .inl (cE, 80, .inr (.inr (.inr (.inr G))))), (o 0, .inr (1, [.int (iz 80), .ref (rL28 0), .int (iz (zL28 0))])), (rL28 0, .inl (cI, nL28 0, .inl (iA (FL28 0)))), (o 1, .inr (1, [.int (iz 80), .ref (rL28 1), .int (iz (zL28 1))])), (rL28 1, .inl (cI, nL28 1, .inl (iA (FL28 1)))), (o 2, .inr (1, [.int (iz 80), .ref (rL28 2), .int (iz (zL28 2))])), (rL28 2, .inl (cI, nL28 2, .inl (iA (FL28 2)))), (o 3, .inr (1, [.int (iz 80), .ref (rL28 3), .int (iz (zL28 3))])), (rL28 3, .inl (cI, nL28 3, .inl (iA (FL28 3)))), (o 13, .inr (3, [.ref (o 4), .ref (o 5), .ref (o 6)])), (o 4, .inr (1, [.int (iz 1600), .ref (rL28 4), .int (iz (zL28 4))])), (rL28 4, .inl (cI, nL28 4, .inl (iA (FL28 4)))), (o 5, .inr (1, [.int (iz 1600), .ref (rL28 5), .int (iz (zL28 5))])), (rL28 5, .inl (cI, nL28 5, .inl (iA (FL28 5)))), (o 6, .inr (1, [.int (iz 1600), .ref (rL28 6), .int (iz (zL28 6))])), (rL28 6, .inl (cI, nL28 6, .inl (iA (FL28 6)))), (o 14, .inr (3, [.ref (o 7), .ref (o 8), .ref (o 9)])), (o 7, .inr (1, [.int (iz 1600), .ref (rL28 7), .int (iz (zL28 7))])), (rL28 7, .inl (cI, nL28 7, .inl (iA (FL28 7)))), (o 8, .inr (1, [.int (iz 1600), .ref (rL28 8), .int (iz (zL28 8))])), (rL28 8, .inl (cI, nL28 8, .inl (iA (FL28 8)))), (o 9, .inr (1, [.int (iz 1600), .ref (rL28 9), .int (iz (zL28 9))])), (rL28 9, .inl (cI, nL28 9, .inl (iA (FL28 9)))), (o 12, .inr (4, [.int (iz (zL28 17)), .int (iz (zL28 18)), .int (iz (zL28 19)), .int (iz (zL28 20)), .int (iz (zL28 21))])), (o 10, .inr (2, [.ref (rL28 10), .int (iz (zL28 10)), .int (iz (zL28 22))])), (rL28 10, .inl (cB, nL28 10, .inl (iA (FL28 10)))), (o 11, .inr (2, [.ref (rL28 11), .int (iz (zL28 11)), .int (iz (zL28 23))])), (rL28 11, .inl (cB, nL28 11, .inl (iA (FL28 11))))] ++ (eP cI N Eo ErL28 EnL28 EzL28 EFL28)) H := hP
            have hD : va_D A ([(o 15, .inr (5, [.ref (o 16), .ref (Eo 0 0), .int (iz (zL28 12)), .int (iz (zL28 13)), .int (iz (zL28 14)), .ref (o 0), .ref (o 1), .int (iz (zL28 15)), .ref (o 13), .ref (o 14), .int (iz (zL28 16)), .ref (o 2), .ref (o 12), .ref (o 3), .ref (o 11), .ref (o 10)])), (o 16, .inl (cE, 80, .inr (.inr (.inr (.inr G))))), (o 0, .inr (1, [.int (iz 80), .ref (rL28 0), .int (iz (zL28 0))])), (rL28 0, .inl (cI, nL28 0, .inl (iA (FL28 0)))), (o 1, .inr (1, [.int (iz 80), .ref (rL28 1), .int (iz (zL28 1))])), (rL28 1, .inl (cI, nL28 1, .inl (iA (FL28 1)))), (o 2, .inr (1, [.int (iz 80), .ref (rL28 2), .int (iz (zL28 2))])), (rL28 2, .inl (cI, nL28 2, .inl (iA (FL28 2)))), (o 3, .inr (1, [.int (iz 80), .ref (rL28 3), .int (iz (zL28 3))])), (rL28 3, .inl (cI, nL28 3, .inl (iA (FL28 3)))), (o 13, .inr (3, [.ref (o 4), .ref (o 5), .ref (o 6)])), (o 4, .inr (1, [.int (iz 1600), .ref (rL28 4), .int (iz (zL28 4))])), (rL28 4, .inl (cI, nL28 4, .inl (iA (FL28 4)))), (o 5, .inr (1, [.int (iz 1600), .ref (rL28 5), .int (iz (zL28 5))])), (rL28 5, .inl (cI, nL28 5, .inl (iA (FL28 5)))), (o 6, .inr (1, [.int (iz 1600), .ref (rL28 6), .int (iz (zL28 6))])), (rL28 6, .inl (cI, nL28 6, .inl (iA (FL28 6)))), (o 14, .inr (3, [.ref (o 7), .ref (o 8), .ref (o 9)])), (o 7, .inr (1, [.int (iz 1600), .ref (rL28 7), .int (iz (zL28 7))])), (rL28 7, .inl (cI, nL28 7, .inl (iA (FL28 7)))), (o 8, .inr (1, [.int (iz 1600), .ref (rL28 8), .int (iz (zL28 8))])), (rL28 8, .inl (cI, nL28 8, .inl (iA (FL28 8)))), (o 9, .inr (1, [.int (iz 1600), .ref (rL28 9), .int (iz (zL28 9))])), (rL28 9, .inl (cI, nL28 9, .inl (iA (FL28 9)))), (o 12, .inr (4, [.int (iz (zL28 17)), .int (iz (zL28 18)), .int (iz (zL28 19)), .int (iz (zL28 20)), .int (iz (zL28 21))])), (o 10, .inr (2, [.ref (rL28 10), .int (iz (zL28 10)), .int (iz (zL28 22))])), (rL28 10, .inl (cB, nL28 10, .inl (iA (FL28 10)))), (o 11, .inr (2, [.ref (rL28 11), .int (iz (zL28 11)), .int (iz (zL28 23))])), (rL28 11, .inl (cB, nL28 11, .inl (iA (FL28 11))))] ++ (eP cI N Eo ErL28 EnL28 EzL28 EFL28)) := hD
            have hP : va_P (dC, dI) kxCl ((xU cI cB cE (va_up (va_up o 10 (o 11)) 11 (o 10)) (va_up (va_up rL28 10 (rL28 11)) 11 (rL28 10)) (va_up (va_up nL28 10 (nL28 11)) 11 (nL28 10)) (va_up (va_up (va_up (va_up zL28 10 (zL28 11)) 11 (zL28 10)) 22 (zL28 23)) 23 (zL28 22)) (va_up (va_up FL28 10 (FL28 11)) 11 (FL28 10)) G (Eo 0 0)) ++ (eP cI N Eo ErL28 EnL28 EzL28 EFL28)) H := va_P.part (cx := (xU cI cB cE (va_up (va_up o 10 (o 11)) 11 (o 10)) (va_up (va_up rL28 10 (rL28 11)) 11 (rL28 10)) (va_up (va_up nL28 10 (nL28 11)) 11 (nL28 10)) (va_up (va_up (va_up (va_up zL28 10 (zL28 11)) 11 (zL28 10)) 22 (zL28 23)) 23 (zL28 22)) (va_up (va_up FL28 10 (FL28 11)) 11 (FL28 10)) G (Eo 0 0))) hP [0, 1, 2, 3, 4, 5, 6, 7, 8, 9, 10, 11, 12, 13, 14, 15, 16, 17, 18, 19, 20, 21, 22, 23, 24, 27, 28, 25, 26] rfl
            have hD : va_D A ((xU cI cB cE (va_up (va_up o 10 (o 11)) 11 (o 10)) (va_up (va_up rL28 10 (rL28 11)) 11 (rL28 10)) (va_up (va_up nL28 10 (nL28 11)) 11 (nL28 10)) (va_up (va_up (va_up (va_up zL28 10 (zL28 11)) 11 (zL28 10)) 22 (zL28 23)) 23 (zL28 22)) (va_up (va_up FL28 10 (FL28 11)) 11 (FL28 10)) G (Eo 0 0)) ++ (eP cI N Eo ErL28 EnL28 EzL28 EFL28)) := va_D.part (cx := (xU cI cB cE (va_up (va_up o 10 (o 11)) 11 (o 10)) (va_up (va_up rL28 10 (rL28 11)) 11 (rL28 10)) (va_up (va_up nL28 10 (nL28 11)) 11 (nL28 10)) (va_up (va_up (va_up (va_up zL28 10 (zL28 11)) 11 (zL28 10)) 22 (zL28 23)) 23 (zL28 22)) (va_up (va_up FL28 10 (FL28 11)) 11 (FL28 10)) G (Eo 0 0))) hD [0, 1, 2, 3, 4, 5, 6, 7, 8, 9, 10, 11, 12, 13, 14, 15, 16, 17, 18, 19, 20, 21, 22, 23, 24, 27, 28, 25, 26] (by decide) rfl
            refine lv_aload_n hx hb dX5_print_167 rfl (lv_at hl 3 rfl) ?_
            refine va_get (D := (dC, dI)) (ci := 5) (v := .ref (o 11)) (C := RX5) (T := TX5) (N := 16) hx hb hts kt_X5 hown hK hP 0 rfl rfl 14 (by decide) (kx_word hG kq_21_xcalls_57 rfl) (fun _ h9 => h9) rfl dX5_print_168 ?_
            have hPc := hP.sub (ws' := (pU cB (o 11) (rL28 11) (nL28 11) (zL28 11) (zL28 23) (FL28 11))) [25, 26] rfl
            refine xk_pure (va_runV (As := []) (rest := []) ⟨hx, hb, hml, hown, hts⟩ (x_psize l dC dI cI cB cE (o 11) (rL28 11) (nL28 11) (zL28 11) (zL28 23) (FL28 11)  H.size ) (cwV 0 hts (kx_gV kq_21_xcalls_58 kq_21_xcalls_59 kq_21_xcalls_60 kq_15_xspan_17 kq_21_xcalls_61 rfl) rfl rfl rfl (by decide +kernel) ⟨Nat.le_of_ble_eq_true rfl, Nat.le_of_ble_eq_true rfl⟩) ⟨pPre_blind, va_recv hK hPc (ci := 2) (q0 := 0) rfl rfl, pPre_give hPc hK hG⟩ rfl rfl hl.1 rfl (lv_room (Nat.le_of_ble_eq_true rfl)) dX5_print_171 ⟨show cv + 0 ≤ 1200 from (by omega), show sv + 0 ≤ 600000 from (by omega)⟩) hS (fun z_44 locs hq_43 hS => ?_)
            refine W.eq (g2 := F0 m 174 ls [.int (iz z_44)]) rfl ?_
            try dsimp only at hq_43
            have hq_43 := hq_43.symm
            subst hq_43
            have hok45 : xOk (va_up (va_up nL28 10 (nL28 11)) 11 (nL28 10)) (va_up (va_up (va_up (va_up zL28 10 (zL28 11)) 11 (zL28 10)) 22 (zL28 23)) 23 (zL28 22)) (va_up (va_up FL28 10 (FL28 11)) 11 (FL28 10)) := ((((hRLL28.1.p 10 (by decide) (show 0 ≤ zL28 11 ∧ zL28 11 ≤ ((nL28 11 : Nat) : Int) ∧ (nL28 11 = 0 ∨ nL28 11 = 6000) by omega) (hRLL28.1.2.2.1 11)).p 11 (by decide) (show 0 ≤ zL28 10 ∧ zL28 10 ≤ ((nL28 10 : Nat) : Int) ∧ (nL28 10 = 0 ∨ nL28 10 = 6000) by omega) (hRLL28.1.2.2.1 10)).s 22 (by decide) (show -2147483648 ≤ zL28 23 ∧ zL28 23 < 2147483648 by omega) (by omega)).s 23 (by decide) (show -2147483648 ≤ zL28 22 ∧ zL28 22 < 2147483648 by omega) (by omega))
            have hfr45 : xFr [0, 1, 2, 4, 5, 6, 7, 8, 9, 10, 11, 15, 16, 22, 23] [0, 1, 2, 4, 5, 6, 7, 8, 9, 10, 11] z F (va_up (va_up (va_up (va_up zL28 10 (zL28 11)) 11 (zL28 10)) 22 (zL28 23)) 23 (zL28 22)) (va_up (va_up FL28 10 (FL28 11)) 11 (FL28 10)) := ((((((hRLL28.2.1.uz 10 (by decide) _).uz 11 (by decide) _).uz 22 (by decide) _).uz 23 (by decide) _).uf 10 (by decide) _).uf 11 (by decide) _)
            have hcg45 : (0) + xg (va_up (va_up nL28 10 (nL28 11)) 11 (nL28 10)) ≤ xg nL28 := by unfold xg; simp (decide := true) only [va_ev, ↓reduceIte]; omega
            have hcp45 : (0) + xp (va_up (va_up nL28 10 (nL28 11)) 11 (nL28 10)) ≤ xp nL28 := by unfold xp; simp (decide := true) only [va_ev, ↓reduceIte]; omega
            rw [← hQe]
            refine vx_ret ?_
            exact xk_iret (ov := (fun u : (Int) × (Nat → Nat) × (Nat → Nat) × (Nat → Nat) × (Nat → Int) × (Nat → Int → Int) × (Nat → Nat → Nat) × (Nat → Nat → Nat) × (Nat → Nat → Int) × (Nat → Nat → Int → Int) => match u with | (q, o', r', n', z', F', Er', En', Ez', EF') => some (.int (iz q)))) (post := (fun (u : (Int) × (Nat → Nat) × (Nat → Nat) × (Nat → Nat) × (Nat → Int) × (Nat → Int → Int) × (Nat → Nat → Nat) × (Nat → Nat → Nat) × (Nat → Nat → Int) × (Nat → Nat → Int → Int)) (dn dm : Nat) => match u with | (q, o', r', n', z', F', Er', En', Ez', EF') => xR [0, 1, 2, 4, 5, 6, 7, 8, 9, 10, 11, 15, 16, 22, 23] [0, 1, 2, 4, 5, 6, 7, 8, 9, 10, 11] [10] [] N z F En Ez EF n' z' F' En' Ez' EF' ∧ (dn + xg n' ≤ xg n + 0 ∧ dm + xp n' ≤ xp n + 0) ∧ ((∀ k, k ≠ 10 → k ≠ 11 → o' k = o k) ∧ rs_RK z' F' Ez' lv ab Wd cm))) (ws := (fun u : (Int) × (Nat → Nat) × (Nat → Nat) × (Nat → Nat) × (Nat → Int) × (Nat → Int → Int) × (Nat → Nat → Nat) × (Nat → Nat → Nat) × (Nat → Nat → Int) × (Nat → Nat → Int → Int) => match u with | (q, o', r', n', z', F', Er', En', Ez', EF') => (xU cI cB cE o' r' n' z' F' G (Eo 0 0) ++ eP cI N Eo Er' En' Ez' EF'))) (tys := xT cI cB cE) (z := zL28 11) (zL28 11, (va_up (va_up o 10 (o 11)) 11 (o 10)), (va_up (va_up rL28 10 (rL28 11)) 11 (rL28 10)), (va_up (va_up nL28 10 (nL28 11)) 11 (nL28 10)), (va_up (va_up (va_up (va_up zL28 10 (zL28 11)) 11 (zL28 10)) 22 (zL28 23)) 23 (zL28 22)), (va_up (va_up FL28 10 (FL28 11)) 11 (FL28 10)), ErL28, EnL28, EzL28, EFL28) hx hb hr rfl hlocks rfl hP hD hK hS dX5_print_174 (fun dn dm hdn hdm => ⟨⟨hok45, hfr45, hRLL28.2.2.1, hRLL28.2.2.2⟩, ⟨by omega, by omega⟩, ⟨fun k h1 h2 => by rw [va_ev, if_neg h2, va_ev, if_neg h1], hrkL⟩⟩) (by omega) (by omega)
          · skip
            rw [← hQe]
            exact ky_thr_UOE hx hb hlf hown hG hZ hS (hl.1.trans hml.symm) dX5_print_141 dX5_print_144 dX5_print_145 dX5_print_148 htab (Nat.le_of_ble_eq_true rfl) (Nat.le_of_ble_eq_true rfl) (show cv + 1 ≤ 1200 from (by omega)) (show sv + 6 ≤ 600000 from (by omega)) hlocks (⟨rfl, by first | trivial | omega⟩) (fun t hvm h1 h2 => ⟨(rL28, nL28, zL28, FL28, ErL28, EnL28, EzL28, EFL28), ⟨hRLL28.1, hRLL28.2.1, hRLL28.2.2.1, hRLL28.2.2.2⟩, hrkL, hP.kept (fun k q hk => h2 q.1 (hP k q hk).lt), va_K.moved hvm hK, hD⟩) hS.2.2 (by omega) (by omega) (by omega) (by omega)
        · skip
          refine lv_aload_n hx hb dX5_print_39 rfl (lv_at hl 3 rfl) ?_
          refine va_get (D := (dC, dI)) (ci := 5) (v := .ref (o 11)) (C := RX5) (T := TX5) (N := 16) hx hb hts kt_X5 hown hK hP 0 rfl rfl 15 (by decide) (kx_word hG kq_19_xouts_60 rfl) (fun _ h9 => h9) rfl dX5_print_40 ?_
          have hxz_46 : -2147483648 ≤ zL28 23 ∧ zL28 23 < 2147483648 := hRLL28.1.2.2.2.1 23
          have hxb_47 : zL28 23 = 0 ∨ zL28 23 = 1 := hRLL28.1.2.2.2.2 23 (by decide)
          refine va_getN (D := (dC, dI)) (ci := 2) (v := .int (iz (zL28 23))) (C := RX2) (T := TX2) (N := 3) hx hb hts kt_X2 hown hK hP 27 rfl rfl 2 (by decide) (va_Nw.use rfl (kx_nf hG kq_24_xnew_8)) (fun _ h9 => h9) rfl dX5_print_43 ?_
          refine ki_if_ne (tgt := 131) hx hb dX5_print_46 (by decide) (by omega) (by omega) (fun c_48 => ?_) (fun c_48 => ?_)
          · skip
            refine lv_aload_n hx hb dX5_print_131 rfl (lv_at hl 3 rfl) ?_
            refine va_get (D := (dC, dI)) (ci := 5) (v := .ref (o 11)) (C := RX5) (T := TX5) (N := 16) hx hb hts kt_X5 hown hK hP 0 rfl rfl 15 (by decide) (kx_word hG kq_19_xouts_60 rfl) (fun _ h9 => h9) rfl dX5_print_132 ?_
            refine va_getN (D := (dC, dI)) (ci := 2) (v := .int (iz (zL28 23))) (C := RX2) (T := TX2) (N := 3) hx hb hts kt_X2 hown hK hP 27 rfl rfl 2 (by decide) (va_Nw.use rfl (kx_nf hG kq_24_xnew_8)) (fun _ h9 => h9) rfl dX5_print_135 ?_
            refine ki_if_eq (tgt := 149) hx hb dX5_print_138 (by decide) (by omega) (by omega) (fun c_49 => ?_) (fun c_49 => ?_)
            · omega
            · skip
              rw [← hQe]
              exact ky_thr_UOE hx hb hlf hown hG hZ hS (hl.1.trans hml.symm) dX5_print_141 dX5_print_144 dX5_print_145 dX5_print_148 htab (Nat.le_of_ble_eq_true rfl) (Nat.le_of_ble_eq_true rfl) (show cv + 1 ≤ 1200 from (by omega)) (show sv + 6 ≤ 600000 from (by omega)) hlocks (⟨rfl, by first | trivial | omega⟩) (fun t hvm h1 h2 => ⟨(rL28, nL28, zL28, FL28, ErL28, EnL28, EzL28, EFL28), ⟨hRLL28.1, hRLL28.2.1, hRLL28.2.2.1, hRLL28.2.2.2⟩, hrkL, hP.kept (fun k q hk => h2 q.1 (hP k q hk).lt), va_K.moved hvm hK, hD⟩) hS.2.2 (by omega) (by omega) (by omega) (by omega)
          · skip
            refine lv_aload_n hx hb dX5_print_49 rfl (lv_at hl 3 rfl) ?_
            refine va_get (D := (dC, dI)) (ci := 5) (v := .ref (o 1)) (C := RX5) (T := TX5) (N := 16) hx hb hts kt_X5 hown hK hP 0 rfl rfl 6 (by decide) (kx_word hG kq_18_xrows_47 rfl) (fun _ h9 => h9) rfl dX5_print_50 ?_
            refine lv_iload_n hx hb dX5_print_53 rfl (lv_at hl 0 rfl) ?_
            have hPc := hP.sub (ws' := (iU cI 80 (o 1) (rL28 1) (nL28 1) (zL28 1) (FL28 1))) [4, 5] rfl
            refine xk_pure (va_runV (As := [.int (iz k)]) (rest := []) ⟨hx, hb, hml, hown, hts⟩ (x_get l dC dI cI cB cE 80 (o 1) (rL28 1) (nL28 1) (zL28 1) (FL28 1) k H.size (by omega) (hRLL28.1.2.2.1 1) (by omega) (by omega)) (cwV 1 hts (kx_gV kq_18_xrows_41 kq_13_xints_4 kq_13_xints_5 kq_13_xints_6 kq_13_xints_7 rfl) rfl rfl rfl (by decide +kernel) ⟨Nat.le_of_ble_eq_true rfl, Nat.le_of_ble_eq_true rfl⟩) ⟨pPre_blind, va_recv hK hPc (ci := 1) (q0 := 0) rfl rfl, pPre_give hPc hK hG⟩ rfl rfl hl.1 rfl (lv_room (Nat.le_of_ble_eq_true rfl)) dX5_print_54 ⟨show cv + 0 ≤ 1200 from (by omega), show sv + 0 ≤ 600000 from (by omega)⟩) hS (fun z_51 locs hq_50 hS => ?_)
            refine W.eq (g2 := F0 m 57 ls [.int (iz z_51)]) rfl ?_
            try dsimp only at hq_50
            refine lv_istore (lv' := [(4, .int (iz z_51)), (3, .int (iz k)), (2, .int (iz gv)), (1, .int (iz z_3)), (0, .ref (o 15))]) hx hb dX5_print_57 hl (by decide) rfl (fun ls hl => ?_)
            refine lv_aload_n hx hb dX5_print_59 rfl (lv_at hl 4 rfl) ?_
            refine lv_iload hx hb dX5_print_60 (lv_at hl 0 rfl) ?_
            have hxz_52 : -2147483648 ≤ zL28 12 ∧ zL28 12 < 2147483648 := hRLL28.1.2.2.2.1 12
            have hxG9 : xG N (zL28 12) G Eo := ⟨by omega, by omega, by omega, fun e9 h9 => hN4 e9 (by omega)⟩
            have hP : va_P (dC, dI) kxCl (xU cI cB cE o rL28 nL28 zL28 FL28 G (Eo 0 0) ++ eP cI N Eo ErL28 EnL28 EzL28 EFL28) H := hP
            refine xk_pure (va_runV (As := [.int (iz z_51)]) (rest := []) ⟨hx, hb, hml, hown, hts⟩ (y_known l dC dI cI cB cE o rL28 nL28 zL28 FL28 G N Eo ErL28 EnL28 EzL28 EFL28 z_51 H.size hRLL28.1 hxG9 hRLL28.2.2.1 (by omega) (by omega)) (cwV 1 hts (kx_gV kq_18_xrows_8 kq_18_xrows_9 kq_18_xrows_10 kq_18_xrows_4 kq_18_xrows_11 rfl) rfl rfl rfl (by decide +kernel) ⟨Nat.le_of_ble_eq_true rfl, Nat.le_of_ble_eq_true rfl⟩) ⟨pPre_blind, va_recv hK hP (ci := 5) (q0 := 0) rfl rfl, pPre_give hP hK hG⟩ rfl rfl hl.1 rfl (lv_room (Nat.le_of_ble_eq_true rfl)) dX5_print_62 ⟨show cv + 0 ≤ 1200 from (by omega), show sv + 0 ≤ 600000 from (by omega)⟩) hS (fun z_54 locs hq_53 hS => ?_)
            refine W.eq (g2 := F0 m 65 ls [.ref z_54.toNat]) rfl ?_
            try dsimp only at hq_53
            obtain ⟨j55, hj55, ez55, hje55⟩ := hq_53
            subst ez55
            refine W.eq (g2 := F0 m 65 ls [.ref (Eo j55 0)]) rfl ?_
            have hP := eP_foc hj55 hP
            have hD := eD_foc hj55 hD
            have hez_56 : -2147483648 ≤ EzL28 j55 7 ∧ EzL28 j55 7 < 2147483648 := (hRLL28.2.2.1 j55 hj55).2.2 7
            refine va_getN (D := (dC, dI)) (ci := 0) (v := .int (iz (EzL28 j55 7))) (C := RX0) (T := TX0) (N := 12) hx hb hts kt_X0 hown hK hP 29 rfl rfl 0 (by decide) (va_Nw.use rfl (kx_nf hG kq_18_xrows_12)) (fun _ h9 => h9) rfl dX5_print_65 ?_
            refine lv_istore (lv' := [(5, .int (iz (EzL28 j55 7))), (4, .int (iz z_51)), (3, .int (iz k)), (2, .int (iz gv)), (1, .int (iz z_3)), (0, .ref (o 15))]) hx hb dX5_print_68 hl (by decide) rfl (fun ls hl => ?_)
            refine lv_aload_n hx hb dX5_print_70 rfl (lv_at hl 5 rfl) ?_
            refine lv_iload hx hb dX5_print_71 (lv_at hl 1 rfl) ?_
            have hP := eP_un0 hj55 hP
            have hD := eD_un0 hj55 hD
            have hxG9 : xG N (zL28 12) G Eo := ⟨by omega, by omega, by omega, fun e9 h9 => hN4 e9 (by omega)⟩
            have hP : va_P (dC, dI) kxCl (xU cI cB cE o rL28 nL28 zL28 FL28 G (Eo 0 0) ++ eP cI N Eo ErL28 EnL28 EzL28 EFL28) H := hP
            refine xk_pure (va_runV (As := [.int (iz z_51)]) (rest := []) ⟨hx, hb, hml, hown, hts⟩ (y_groupOf l dC dI cI cB cE o rL28 nL28 zL28 FL28 G N Eo ErL28 EnL28 EzL28 EFL28 z_51 H.size hRLL28.1 hxG9 hRLL28.2.2.1 (by omega) (by omega)) (cwV 1 hts (kx_gV kq_21_xcalls_37 kq_21_xcalls_38 kq_21_xcalls_39 kq_18_xrows_4 kq_21_xcalls_40 rfl) rfl rfl rfl (by decide +kernel) ⟨Nat.le_of_ble_eq_true rfl, Nat.le_of_ble_eq_true rfl⟩) ⟨pPre_blind, va_recv hK hP (ci := 5) (q0 := 0) rfl rfl, pPre_give hP hK hG⟩ rfl rfl hl.1 rfl (lv_room (Nat.le_of_ble_eq_true rfl)) dX5_print_73 ⟨show cv + 0 ≤ 1200 from (by omega), show sv + 0 ≤ 600000 from (by omega)⟩) hS (fun z_58 locs hq_57 hS => ?_)
            refine W.eq (g2 := F0 m 76 ls [.int (iz z_58)]) rfl ?_
            try dsimp only at hq_57
            refine lv_istore (lv' := [(6, .int (iz z_58)), (5, .int (iz (EzL28 j55 7))), (4, .int (iz z_51)), (3, .int (iz k)), (2, .int (iz gv)), (1, .int (iz z_3)), (0, .ref (o 15))]) hx hb dX5_print_76 hl (by decide) rfl (fun ls hl => ?_)
            refine lv_aload_n hx hb dX5_print_78 rfl (lv_at hl 6 rfl) ?_
            refine lv_iload hx hb dX5_print_79 (lv_at hl 2 rfl) ?_
            have hxG9 : xG N (zL28 12) G Eo := ⟨by omega, by omega, by omega, fun e9 h9 => hN4 e9 (by omega)⟩
            have hP : va_P (dC, dI) kxCl (xU cI cB cE o rL28 nL28 zL28 FL28 G (Eo 0 0) ++ eP cI N Eo ErL28 EnL28 EzL28 EFL28) H := hP
            have hD : va_D A (xU cI cB cE o rL28 nL28 zL28 FL28 G (Eo 0 0) ++ eP cI N Eo ErL28 EnL28 EzL28 EFL28) := hD
            have hFc := xw_free hD hS hA
            refine xk_call (va_runV (As := [.int (iz z_51)]) (rest := []) ⟨hx, hb, hml, hown, hts⟩ (y_findLocators l dC dI cI cB cE o rL28 nL28 zL28 FL28 G N Eo ErL28 EnL28 EzL28 EFL28 z_51 H.size hRLL28.1 hxG9 hRLL28.2.2.1 (by omega) (by omega)) (cwV 1 hts (kx_gV kq_21_xcalls_29 kq_21_xcalls_30 kq_21_xcalls_31 kq_18_xrows_4 kq_21_xcalls_32 rfl) rfl rfl rfl (by decide +kernel) ⟨Nat.le_of_ble_eq_true rfl, Nat.le_of_ble_eq_true rfl⟩) ⟨kx_blind, va_recv hK hP (ci := 5) (q0 := 0) rfl rfl, kx_give (ws := []) (tys := []) hP hD hK hG hZ hS hFc⟩ rfl rfl hl.1 rfl (lv_room (Nat.le_of_ble_eq_true rfl)) dX5_print_81 ⟨show cv + 400 ≤ 1200 from (by omega), show sv + 170000 ≤ 600000 from (by omega)⟩) hS (fun q _ h => hFc q h) hFc (fun u dn_61 dm_62 t H locs ht hvm hq_59 hB hk1 hS => ?_)
            obtain ⟨r_63, n_64, z_65, F_66, Er_67, En_68, Ez_69, EF_70⟩ := u
            obtain ⟨hP, hK1, hD1⟩ := hB
            rw [ht] at hP
            have hD := hD1.weaken (fun _ q _ h => hFc _ h)
            obtain ⟨hR71, hC71, hq_59⟩ := hq_59
            have hok71 := hR71.1
            have hfr71 := hRLL28.2.1.tr (hR71.2.1.mono (S' := [0, 1, 2, 4, 5, 6, 7, 8, 9, 10, 11, 15, 16, 22, 23]) (T' := [0, 1, 2, 4, 5, 6, 7, 8, 9, 10, 11]) (by decide) (by decide))
            have hPE71 := hR71.2.2.1
            have hef71 := hRLL28.2.2.2.tr (hR71.2.2.2.mono (S' := [10]) (T' := []) (by decide) (by decide))
            have hz71 : z_65 12 = (zL28 12) := hR71.2.1.1 12 (by decide)
            have hkr71_1 : z_65 1 = zL28 1 := hR71.2.1.1 1 (by decide)
            refine W.eq (g2 := F0 m 84 ls []) rfl ?_
            try dsimp only at hq_59
            have hrk72 : rs_RK z_65 F_66 Ez_69 lv ab Wd cm := rs_RK.fr hrkL (hR71.2.1.1 15 (by decide)) (hR71.2.1.1 12 (by decide)) (hR71.2.1.1 1 (by decide)) (hR71.2.1.2 1 (by decide)) (fun j => hR71.2.2.2.1 j 10 (by decide))
            refine lv_aload_n hx hb dX5_print_84 rfl (lv_at hl 6 rfl) ?_
            refine lv_iload hx hb dX5_print_85 (lv_at hl 2 rfl) ?_
            have hxz_73 : -2147483648 ≤ z_65 12 ∧ z_65 12 < 2147483648 := hok71.2.2.2.1 12
            have hxG9 : xG N (z_65 12) G Eo := ⟨by omega, by omega, by omega, fun e9 h9 => hN4 e9 (by omega)⟩
            have hP : va_P (dC, dI) kxCl (xU cI cB cE o r_63 n_64 z_65 F_66 G (Eo 0 0) ++ eP cI N Eo Er_67 En_68 Ez_69 EF_70) H := hP
            have hD : va_D A (xU cI cB cE o r_63 n_64 z_65 F_66 G (Eo 0 0) ++ eP cI N Eo Er_67 En_68 Ez_69 EF_70) := hD
            have hFc := xw_free hD hS hA
            refine xk_call (va_runV (As := [.int (iz z_51)]) (rest := []) ⟨hx, hb, hml, hown, hts⟩ (y_findSeen l dC dI cI cB cE o r_63 n_64 z_65 F_66 G N Eo Er_67 En_68 Ez_69 EF_70 z_51 H.size hok71 hxG9 hPE71 (by omega) (by omega)) (cwV 1 hts (kx_gV kq_21_xcalls_33 kq_21_xcalls_34 kq_21_xcalls_35 kq_18_xrows_4 kq_21_xcalls_36 rfl) rfl rfl rfl (by decide +kernel) ⟨Nat.le_of_ble_eq_true rfl, Nat.le_of_ble_eq_true rfl⟩) ⟨kx_blind, va_recv hK hP (ci := 5) (q0 := 0) rfl rfl, kx_give (ws := []) (tys := []) hP hD hK hG hZ hS hFc⟩ rfl rfl hl.1 rfl (lv_room (Nat.le_of_ble_eq_true rfl)) dX5_print_87 ⟨show (cv + dn_61) + 260 ≤ 1200 from (by omega), show (sv + dm_62) + 110000 ≤ 600000 from (by omega)⟩) hS (fun q _ h => hFc q h) hFc (fun u dn_76 dm_77 t H locs ht hvm hq_74 hB hk1 hS => ?_)
            obtain ⟨r_78, n_79, z_80, F_81, Er_82, En_83, Ez_84, EF_85⟩ := u
            obtain ⟨hP, hK1, hD1⟩ := hB
            rw [ht] at hP
            have hD := hD1.weaken (fun _ q _ h => hFc _ h)
            obtain ⟨hR86, hC86, hq_74⟩ := hq_74
            have hok86 := hR86.1
            have hfr86 := hfr71.tr (hR86.2.1.mono (S' := [0, 1, 2, 4, 5, 6, 7, 8, 9, 10, 11, 15, 16, 22, 23]) (T' := [0, 1, 2, 4, 5, 6, 7, 8, 9, 10, 11]) (by decide) (by decide))
            have hPE86 := hR86.2.2.1
            have hef86 := hef71.tr (hR86.2.2.2.mono (S' := [10]) (T' := []) (by decide) (by decide))
            have hz86 : z_80 12 = (z_65 12) := hR86.2.1.1 12 (by decide)
            have hkr86_1 : z_80 1 = z_65 1 := hR86.2.1.1 1 (by decide)
            refine W.eq (g2 := F0 m 90 ls []) rfl ?_
            try dsimp only at hq_74
            have hrk87 : rs_RK z_80 F_81 Ez_84 lv ab Wd cm := rs_RK.fr hrk72 (hR86.2.1.1 15 (by decide)) (hR86.2.1.1 12 (by decide)) (hR86.2.1.1 1 (by decide)) (hR86.2.1.2 1 (by decide)) (fun j => hR86.2.2.2.1 j 10 (by decide))
            refine lv_iload hx hb dX5_print_90 (lv_at hl 1 rfl) ?_
            refine ki_if_ne (tgt := 113) hx hb dX5_print_92 (by decide) (by omega) (by omega) (fun c_88 => ?_) (fun c_88 => ?_)
            · skip
              refine lv_aload_n hx hb dX5_print_113 rfl (lv_at hl 6 rfl) ?_
              refine lv_iconst (v := iz 1) hx hb dX5_print_114 (by decide) ?_
              refine lv_iload hx hb dX5_print_115 (lv_at hl 1 rfl) ?_
              refine ki_iadd hx hb dX5_print_117 ?_
              refine ki_any (fun z_89 hz_89a hz_89b => ?_)
              refine lv_iload hx hb dX5_print_118 (lv_at hl 2 rfl) ?_
              refine lv_iload hx hb dX5_print_120 (lv_at hl 0 rfl) ?_
              have hxz_90 : -2147483648 ≤ z_80 12 ∧ z_80 12 < 2147483648 := hok86.2.2.2.1 12
              have hxG9 : xG N (z_80 12) G Eo := ⟨by omega, by omega, by omega, fun e9 h9 => hN4 e9 (by omega)⟩
              have hP : va_P (dC, dI) kxCl (xU cI cB cE o r_78 n_79 z_80 F_81 G (Eo 0 0) ++ eP cI N Eo Er_82 En_83 Ez_84 EF_85) H := hP
              have hD : va_D A (xU cI cB cE o r_78 n_79 z_80 F_81 G (Eo 0 0) ++ eP cI N Eo Er_82 En_83 Ez_84 EF_85) := hD
              have hFc := xw_free hD hS hA
              refine xk_call (va_runV (As := [.int (iz z_89), .int (iz z_51), .int (iz z_58)]) (rest := []) ⟨hx, hb, hml, hown, hts⟩ (y_writePart l dC dI cI cB cE o r_78 n_79 z_80 F_81 G N Eo Er_82 En_83 Ez_84 EF_85 z_89 z_51 z_58 H.size hok86 hxG9 hPE86 (by omega) (by omega) (by omega) (by omega) (by omega) (by omega)) (cwV 3 hts (kx_gV kq_24_xnew_9 kq_24_xnew_10 kq_24_xnew_11 kq_18_xrows_4 kq_24_xnew_12 rfl) rfl rfl rfl (by decide +kernel) ⟨Nat.le_of_ble_eq_true rfl, Nat.le_of_ble_eq_true rfl⟩) ⟨kx_blind, va_recv hK hP (ci := 5) (q0 := 0) rfl rfl, kx_give (ws := []) (tys := []) hP hD hK hG hZ hS hFc⟩ rfl rfl hl.1 rfl (lv_room (Nat.le_of_ble_eq_true rfl)) dX5_print_122 ⟨show ((cv + dn_61) + dn_76) + 200 ≤ 1200 from (by omega), show ((sv + dm_62) + dm_77) + 85000 ≤ 600000 from (by omega)⟩) hS (fun q _ h => hFc q h) hFc (fun u dn_93 dm_94 t H locs ht hvm hq_91 hB hk1 hS => ?_)
              obtain ⟨r_95, n_96, z_97, F_98, Er_99, En_100, Ez_101, EF_102⟩ := u
              obtain ⟨hP, hK1, hD1⟩ := hB
              rw [ht] at hP
              have hD := hD1.weaken (fun _ q _ h => hFc _ h)
              obtain ⟨hR103, hC103, hq_91⟩ := hq_91
              have hok103 := hR103.1
              have hfr103 := hfr86.tr (hR103.2.1.mono (S' := [0, 1, 2, 4, 5, 6, 7, 8, 9, 10, 11, 15, 16, 22, 23]) (T' := [0, 1, 2, 4, 5, 6, 7, 8, 9, 10, 11]) (by decide) (by decide))
              have hPE103 := hR103.2.2.1
              have hef103 := hef86.tr (hR103.2.2.2.mono (S' := [10]) (T' := []) (by decide) (by decide))
              have hz103 : z_97 12 = (z_80 12) := hR103.2.1.1 12 (by decide)
              have hkr103_1 : z_97 1 = z_80 1 := hR103.2.1.1 1 (by decide)
              refine W.eq (g2 := F0 m 125 ls []) rfl ?_
              try dsimp only at hq_91
              have hrk104 : rs_RK z_97 F_98 Ez_101 lv ab Wd cm := rs_RK.fr hrk87 (hR103.2.1.1 15 (by decide)) (hR103.2.1.1 12 (by decide)) (hR103.2.1.1 1 (by decide)) (hR103.2.1.2 1 (by decide)) (fun j => hR103.2.2.2.1 j 10 (by decide))
              refine lv_iinc (v := iz (k + 1)) (lv' := [(3, .int (iz (k + 1))), (6, .int (iz z_58)), (5, .int (iz (EzL28 j55 7))), (4, .int (iz z_51)), (2, .int (iz gv)), (1, .int (iz z_3)), (0, .ref (o 15))]) hx hb dX5_print_125 hl (k := 3) rfl (iz_add k 1) (by decide) rfl (fun ls hl => ?_)
              refine lv_goto (tgt := 28) hx hb dX5_print_128 (by decide) ?_
              exact ih28 gv (k + 1) r_95 n_96 z_97 F_98 Er_99 En_100 Ez_101 EF_102 (((cv + dn_61) + dn_76) + dn_93) (((sv + dm_62) + dm_77) + dm_94) ⟨⟨hok103, hfr103, hPE103, hef103⟩, ⟨by omega, by omega⟩, (show z_97 12 = z 12 by omega), by omega, by omega, hrk104⟩ (by omega) _ _ hP hD hS ls (lv_sub hl [0, 4, 5, 6] rfl)
            · skip
              refine lv_iload hx hb dX5_print_95 (lv_at hl 0 rfl) ?_
              refine lv_iload_n hx hb dX5_print_97 rfl (lv_at hl 4 rfl) ?_
              refine ki_icmp_eq (tgt := 113) hx hb dX5_print_98 (by decide) (by omega) (by omega) (by omega) (by omega) (fun c_105 => ?_) (fun c_105 => ?_)
              · skip
                refine lv_aload_n hx hb dX5_print_113 rfl (lv_at hl 6 rfl) ?_
                refine lv_iconst (v := iz 1) hx hb dX5_print_114 (by decide) ?_
                refine lv_iload hx hb dX5_print_115 (lv_at hl 1 rfl) ?_
                refine ki_iadd hx hb dX5_print_117 ?_
                refine ki_any (fun z_106 hz_106a hz_106b => ?_)
                refine lv_iload hx hb dX5_print_118 (lv_at hl 2 rfl) ?_
                refine lv_iload hx hb dX5_print_120 (lv_at hl 0 rfl) ?_
                have hxz_107 : -2147483648 ≤ z_80 12 ∧ z_80 12 < 2147483648 := hok86.2.2.2.1 12
                have hxG9 : xG N (z_80 12) G Eo := ⟨by omega, by omega, by omega, fun e9 h9 => hN4 e9 (by omega)⟩
                have hP : va_P (dC, dI) kxCl (xU cI cB cE o r_78 n_79 z_80 F_81 G (Eo 0 0) ++ eP cI N Eo Er_82 En_83 Ez_84 EF_85) H := hP
                have hD : va_D A (xU cI cB cE o r_78 n_79 z_80 F_81 G (Eo 0 0) ++ eP cI N Eo Er_82 En_83 Ez_84 EF_85) := hD
                have hFc := xw_free hD hS hA
                refine xk_call (va_runV (As := [.int (iz z_106), .int (iz z_51), .int (iz z_58)]) (rest := []) ⟨hx, hb, hml, hown, hts⟩ (y_writePart l dC dI cI cB cE o r_78 n_79 z_80 F_81 G N Eo Er_82 En_83 Ez_84 EF_85 z_106 z_51 z_58 H.size hok86 hxG9 hPE86 (by omega) (by omega) (by omega) (by omega) (by omega) (by omega)) (cwV 3 hts (kx_gV kq_24_xnew_9 kq_24_xnew_10 kq_24_xnew_11 kq_18_xrows_4 kq_24_xnew_12 rfl) rfl rfl rfl (by decide +kernel) ⟨Nat.le_of_ble_eq_true rfl, Nat.le_of_ble_eq_true rfl⟩) ⟨kx_blind, va_recv hK hP (ci := 5) (q0 := 0) rfl rfl, kx_give (ws := []) (tys := []) hP hD hK hG hZ hS hFc⟩ rfl rfl hl.1 rfl (lv_room (Nat.le_of_ble_eq_true rfl)) dX5_print_122 ⟨show ((cv + dn_61) + dn_76) + 200 ≤ 1200 from (by omega), show ((sv + dm_62) + dm_77) + 85000 ≤ 600000 from (by omega)⟩) hS (fun q _ h => hFc q h) hFc (fun u dn_110 dm_111 t H locs ht hvm hq_108 hB hk1 hS => ?_)
                obtain ⟨r_112, n_113, z_114, F_115, Er_116, En_117, Ez_118, EF_119⟩ := u
                obtain ⟨hP, hK1, hD1⟩ := hB
                rw [ht] at hP
                have hD := hD1.weaken (fun _ q _ h => hFc _ h)
                obtain ⟨hR120, hC120, hq_108⟩ := hq_108
                have hok120 := hR120.1
                have hfr120 := hfr86.tr (hR120.2.1.mono (S' := [0, 1, 2, 4, 5, 6, 7, 8, 9, 10, 11, 15, 16, 22, 23]) (T' := [0, 1, 2, 4, 5, 6, 7, 8, 9, 10, 11]) (by decide) (by decide))
                have hPE120 := hR120.2.2.1
                have hef120 := hef86.tr (hR120.2.2.2.mono (S' := [10]) (T' := []) (by decide) (by decide))
                have hz120 : z_114 12 = (z_80 12) := hR120.2.1.1 12 (by decide)
                have hkr120_1 : z_114 1 = z_80 1 := hR120.2.1.1 1 (by decide)
                refine W.eq (g2 := F0 m 125 ls []) rfl ?_
                try dsimp only at hq_108
                have hrk121 : rs_RK z_114 F_115 Ez_118 lv ab Wd cm := rs_RK.fr hrk87 (hR120.2.1.1 15 (by decide)) (hR120.2.1.1 12 (by decide)) (hR120.2.1.1 1 (by decide)) (hR120.2.1.2 1 (by decide)) (fun j => hR120.2.2.2.1 j 10 (by decide))
                refine lv_iinc (v := iz (k + 1)) (lv' := [(3, .int (iz (k + 1))), (6, .int (iz z_58)), (5, .int (iz (EzL28 j55 7))), (4, .int (iz z_51)), (2, .int (iz gv)), (1, .int (iz z_3)), (0, .ref (o 15))]) hx hb dX5_print_125 hl (k := 3) rfl (iz_add k 1) (by decide) rfl (fun ls hl => ?_)
                refine lv_goto (tgt := 28) hx hb dX5_print_128 (by decide) ?_
                exact ih28 gv (k + 1) r_112 n_113 z_114 F_115 Er_116 En_117 Ez_118 EF_119 (((cv + dn_61) + dn_76) + dn_110) (((sv + dm_62) + dm_77) + dm_111) ⟨⟨hok120, hfr120, hPE120, hef120⟩, ⟨by omega, by omega⟩, (show z_114 12 = z 12 by omega), by omega, by omega, hrk121⟩ (by omega) _ _ hP hD hS ls (lv_sub hl [0, 4, 5, 6] rfl)
              · skip
                refine lv_aload_n hx hb dX5_print_101 rfl (lv_at hl 6 rfl) ?_
                refine lv_iconst (v := iz 0) hx hb dX5_print_102 (by decide) ?_
                refine lv_iload hx hb dX5_print_103 (lv_at hl 2 rfl) ?_
                refine lv_iload hx hb dX5_print_105 (lv_at hl 0 rfl) ?_
                have hxz_122 : -2147483648 ≤ z_80 12 ∧ z_80 12 < 2147483648 := hok86.2.2.2.1 12
                have hxG9 : xG N (z_80 12) G Eo := ⟨by omega, by omega, by omega, fun e9 h9 => hN4 e9 (by omega)⟩
                have hP : va_P (dC, dI) kxCl (xU cI cB cE o r_78 n_79 z_80 F_81 G (Eo 0 0) ++ eP cI N Eo Er_82 En_83 Ez_84 EF_85) H := hP
                have hD : va_D A (xU cI cB cE o r_78 n_79 z_80 F_81 G (Eo 0 0) ++ eP cI N Eo Er_82 En_83 Ez_84 EF_85) := hD
                have hFc := xw_free hD hS hA
                refine xk_call (va_runV (As := [.int (iz 0), .int (iz z_51), .int (iz z_58)]) (rest := []) ⟨hx, hb, hml, hown, hts⟩ (y_writePart l dC dI cI cB cE o r_78 n_79 z_80 F_81 G N Eo Er_82 En_83 Ez_84 EF_85 0 z_51 z_58 H.size hok86 hxG9 hPE86 (by omega) (by omega) (by omega) (by omega) (by omega) (by omega)) (cwV 3 hts (kx_gV kq_24_xnew_9 kq_24_xnew_10 kq_24_xnew_11 kq_18_xrows_4 kq_24_xnew_12 rfl) rfl rfl rfl (by decide +kernel) ⟨Nat.le_of_ble_eq_true rfl, Nat.le_of_ble_eq_true rfl⟩) ⟨kx_blind, va_recv hK hP (ci := 5) (q0 := 0) rfl rfl, kx_give (ws := []) (tys := []) hP hD hK hG hZ hS hFc⟩ rfl rfl hl.1 rfl (lv_room (Nat.le_of_ble_eq_true rfl)) dX5_print_107 ⟨show ((cv + dn_61) + dn_76) + 200 ≤ 1200 from (by omega), show ((sv + dm_62) + dm_77) + 85000 ≤ 600000 from (by omega)⟩) hS (fun q _ h => hFc q h) hFc (fun u dn_125 dm_126 t H locs ht hvm hq_123 hB hk1 hS => ?_)
                obtain ⟨r_127, n_128, z_129, F_130, Er_131, En_132, Ez_133, EF_134⟩ := u
                obtain ⟨hP, hK1, hD1⟩ := hB
                rw [ht] at hP
                have hD := hD1.weaken (fun _ q _ h => hFc _ h)
                obtain ⟨hR135, hC135, hq_123⟩ := hq_123
                have hok135 := hR135.1
                have hfr135 := hfr86.tr (hR135.2.1.mono (S' := [0, 1, 2, 4, 5, 6, 7, 8, 9, 10, 11, 15, 16, 22, 23]) (T' := [0, 1, 2, 4, 5, 6, 7, 8, 9, 10, 11]) (by decide) (by decide))
                have hPE135 := hR135.2.2.1
                have hef135 := hef86.tr (hR135.2.2.2.mono (S' := [10]) (T' := []) (by decide) (by decide))
                have hz135 : z_129 12 = (z_80 12) := hR135.2.1.1 12 (by decide)
                have hkr135_1 : z_129 1 = z_80 1 := hR135.2.1.1 1 (by decide)
                refine W.eq (g2 := F0 m 110 ls []) rfl ?_
                try dsimp only at hq_123
                have hrk136 : rs_RK z_129 F_130 Ez_133 lv ab Wd cm := rs_RK.fr hrk87 (hR135.2.1.1 15 (by decide)) (hR135.2.1.1 12 (by decide)) (hR135.2.1.1 1 (by decide)) (hR135.2.1.2 1 (by decide)) (fun j => hR135.2.2.2.1 j 10 (by decide))
                refine lv_iload hx hb dX5_print_110 (lv_at hl 0 rfl) ?_
                refine lv_istore_n (lv' := [(2, .int (iz z_58)), (6, .int (iz z_58)), (5, .int (iz (EzL28 j55 7))), (4, .int (iz z_51)), (3, .int (iz k)), (1, .int (iz z_3)), (0, .ref (o 15))]) hx hb dX5_print_112 rfl hl (by decide) rfl (fun ls hl => ?_)
                refine lv_aload_n hx hb dX5_print_113 rfl (lv_at hl 6 rfl) ?_
                refine lv_iconst (v := iz 1) hx hb dX5_print_114 (by decide) ?_
                refine lv_iload hx hb dX5_print_115 (lv_at hl 2 rfl) ?_
                refine ki_iadd hx hb dX5_print_117 ?_
                refine ki_any (fun z_137 hz_137a hz_137b => ?_)
                refine lv_iload hx hb dX5_print_118 (lv_at hl 3 rfl) ?_
                refine lv_iload hx hb dX5_print_120 (lv_at hl 1 rfl) ?_
                have hxz_138 : -2147483648 ≤ z_129 12 ∧ z_129 12 < 2147483648 := hok135.2.2.2.1 12
                have hxG9 : xG N (z_129 12) G Eo := ⟨by omega, by omega, by omega, fun e9 h9 => hN4 e9 (by omega)⟩
                have hP : va_P (dC, dI) kxCl (xU cI cB cE o r_127 n_128 z_129 F_130 G (Eo 0 0) ++ eP cI N Eo Er_131 En_132 Ez_133 EF_134) H := hP
                have hD : va_D A (xU cI cB cE o r_127 n_128 z_129 F_130 G (Eo 0 0) ++ eP cI N Eo Er_131 En_132 Ez_133 EF_134) := hD
                have hFc := xw_free hD hS hA
                refine xk_call (va_runV (As := [.int (iz z_137), .int (iz z_51), .int (iz z_58)]) (rest := []) ⟨hx, hb, hml, hown, hts⟩ (y_writePart l dC dI cI cB cE o r_127 n_128 z_129 F_130 G N Eo Er_131 En_132 Ez_133 EF_134 z_137 z_51 z_58 H.size hok135 hxG9 hPE135 (by omega) (by omega) (by omega) (by omega) (by omega) (by omega)) (cwV 3 hts (kx_gV kq_24_xnew_9 kq_24_xnew_10 kq_24_xnew_11 kq_18_xrows_4 kq_24_xnew_12 rfl) rfl rfl rfl (by decide +kernel) ⟨Nat.le_of_ble_eq_true rfl, Nat.le_of_ble_eq_true rfl⟩) ⟨kx_blind, va_recv hK hP (ci := 5) (q0 := 0) rfl rfl, kx_give (ws := []) (tys := []) hP hD hK hG hZ hS hFc⟩ rfl rfl hl.1 rfl (lv_room (Nat.le_of_ble_eq_true rfl)) dX5_print_122 ⟨show (((cv + dn_61) + dn_76) + dn_125) + 200 ≤ 1200 from (by omega), show (((sv + dm_62) + dm_77) + dm_126) + 85000 ≤ 600000 from (by omega)⟩) hS (fun q _ h => hFc q h) hFc (fun u dn_141 dm_142 t H locs ht hvm hq_139 hB hk1 hS => ?_)
                obtain ⟨r_143, n_144, z_145, F_146, Er_147, En_148, Ez_149, EF_150⟩ := u
                obtain ⟨hP, hK1, hD1⟩ := hB
                rw [ht] at hP
                have hD := hD1.weaken (fun _ q _ h => hFc _ h)
                obtain ⟨hR151, hC151, hq_139⟩ := hq_139
                have hok151 := hR151.1
                have hfr151 := hfr135.tr (hR151.2.1.mono (S' := [0, 1, 2, 4, 5, 6, 7, 8, 9, 10, 11, 15, 16, 22, 23]) (T' := [0, 1, 2, 4, 5, 6, 7, 8, 9, 10, 11]) (by decide) (by decide))
                have hPE151 := hR151.2.2.1
                have hef151 := hef135.tr (hR151.2.2.2.mono (S' := [10]) (T' := []) (by decide) (by decide))
                have hz151 : z_145 12 = (z_129 12) := hR151.2.1.1 12 (by decide)
                have hkr151_1 : z_145 1 = z_129 1 := hR151.2.1.1 1 (by decide)
                refine W.eq (g2 := F0 m 125 ls []) rfl ?_
                try dsimp only at hq_139
                have hrk152 : rs_RK z_145 F_146 Ez_149 lv ab Wd cm := rs_RK.fr hrk136 (hR151.2.1.1 15 (by decide)) (hR151.2.1.1 12 (by decide)) (hR151.2.1.1 1 (by decide)) (hR151.2.1.2 1 (by decide)) (fun j => hR151.2.2.2.1 j 10 (by decide))
                refine lv_iinc (v := iz (k + 1)) (lv' := [(3, .int (iz (k + 1))), (2, .int (iz z_58)), (6, .int (iz z_58)), (5, .int (iz (EzL28 j55 7))), (4, .int (iz z_51)), (1, .int (iz z_3)), (0, .ref (o 15))]) hx hb dX5_print_125 hl (k := 4) rfl (iz_add k 1) (by decide) rfl (fun ls hl => ?_)
                refine lv_goto (tgt := 28) hx hb dX5_print_128 (by decide) ?_
                exact ih28 z_58 (k + 1) r_143 n_144 z_145 F_146 Er_147 En_148 Ez_149 EF_150 ((((cv + dn_61) + dn_76) + dn_125) + dn_141) ((((sv + dm_62) + dm_77) + dm_126) + dm_142) ⟨⟨hok151, hfr151, hPE151, hef151⟩, ⟨by omega, by omega⟩, (show z_145 12 = z 12 by omega), by omega, by omega, hrk152⟩ (by omega) _ _ hP hD hS ls (lv_sub hl [0, 1, 5, 6] rfl)
    exact lp28 _ (-1) 0 (va_up r_9 11 r_25) (va_up n_10 11 n_26) (va_up (va_up z_11 11 z_27) 23 tl_28) (va_up F_12 11 F_29) Er_13 En_14 Ez_15 EF_16 ((0 + dn_7) + dn_23) ((0 + dm_8) + dm_24) ⟨⟨hok31, hfr31, hPE17, hef17⟩, ⟨by omega, by omega⟩, (show z_11 12 = z 12 by omega), by omega, by omega, hrk18⟩ (Nat.lt_succ_self _) _ _ hP hD hS ls (lv_sub hl [0, 1, 2, 3] rfl)
  · skip
    refine lv_iconst (v := iz (-1)) hx hb dX5_print_9 (by decide) ?_
    refine lv_iload_n hx hb dX5_print_10 rfl (lv_at hl 0 rfl) ?_
    refine ki_isub hx hb dX5_print_11 ?_
    rw [← hQe]
    refine vx_ret ?_
    exact xk_iret (ov := (fun u : (Int) × (Nat → Nat) × (Nat → Nat) × (Nat → Nat) × (Nat → Int) × (Nat → Int → Int) × (Nat → Nat → Nat) × (Nat → Nat → Nat) × (Nat → Nat → Int) × (Nat → Nat → Int → Int) => match u with | (q, o', r', n', z', F', Er', En', Ez', EF') => some (.int (iz q)))) (post := (fun (u : (Int) × (Nat → Nat) × (Nat → Nat) × (Nat → Nat) × (Nat → Int) × (Nat → Int → Int) × (Nat → Nat → Nat) × (Nat → Nat → Nat) × (Nat → Nat → Int) × (Nat → Nat → Int → Int)) (dn dm : Nat) => match u with | (q, o', r', n', z', F', Er', En', Ez', EF') => xR [0, 1, 2, 4, 5, 6, 7, 8, 9, 10, 11, 15, 16, 22, 23] [0, 1, 2, 4, 5, 6, 7, 8, 9, 10, 11] [10] [] N z F En Ez EF n' z' F' En' Ez' EF' ∧ (dn + xg n' ≤ xg n + 0 ∧ dm + xp n' ≤ xp n + 0) ∧ ((∀ k, k ≠ 10 → k ≠ 11 → o' k = o k) ∧ rs_RK z' F' Ez' lv ab Wd cm))) (ws := (fun u : (Int) × (Nat → Nat) × (Nat → Nat) × (Nat → Nat) × (Nat → Int) × (Nat → Int → Int) × (Nat → Nat → Nat) × (Nat → Nat → Nat) × (Nat → Nat → Int) × (Nat → Nat → Int → Int) => match u with | (q, o', r', n', z', F', Er', En', Ez', EF') => (xU cI cB cE o' r' n' z' F' G (Eo 0 0) ++ eP cI N Eo Er' En' Ez' EF'))) (tys := xT cI cB cE) (z := (-1) - z_3) ((-1) - z_3, o, r, n, z, F, Er, En, Ez, EF) hx hb hr rfl hlocks rfl hP hD hK hS dX5_print_12 (fun dn dm hdn hdm => ⟨⟨hok, hfr, hPE, hef⟩, ⟨by omega, by omega⟩, ⟨fun k _ _ => rfl, hkn⟩⟩) (by omega) (by omega)
set_option maxHeartbeats 4000000 in
set_option maxRecDepth 100000 in
theorem y_sign3 (l : Launch) (hlf : l.stackTraces = false) (dC : Nat → ClassId) (dI : Nat → Nat → Nat) (cI cB cE : ClassId) (o r n : Nat → Nat) (z : Nat → Int) (F : Nat → Int → Int) (G : Nat → Option Nat) (N : Nat) (Eo Er En : Nat → Nat → Nat) (Ez : Nat → Nat → Int) (EF : Nat → Nat → Int → Int) (p0 : Int) (p1 : Int) (sz : Nat) (hok : xOk n z F) (hxG : xG N (z 12) G Eo) (hPE : eA N En Ez EF) (hp01 : -2147483648 ≤ p0) (hp02 : p0 < 2147483648) (hp11 : -2147483648 ≤ p1) (hp12 : p1 < 2147483648) (hsgE : (0 ≤ p0 ∧ p0 < z 12) → ∀ i, 0 ≤ i → i < Ez ((p0 + 1).toNat) 0 → 0 ≤ EF ((p0 + 1).toNat) 0 i ∧ EF ((p0 + 1).toNat) 0 i ≤ 255) : vx_Met l yX5_sign [.code yX5_sign cX5_sign 4 (some .int)] ({ frames := 8, cells := 200, slots := 60000, locals := 152 }) (va_Pc [.ref (o 15), .int (iz p0), .int (iz p1)] (kx_Pre dC dI (xU cI cB cE o r n z F G (Eo 0 0) ++ eP cI N Eo Er En Ez EF) (xT cI cB cE) sz)) (xQ (fun u : (Int) × (Nat → Nat) × (Nat → Nat) × (Nat → Int) × (Nat → Int → Int) × (Nat → Nat → Nat) × (Nat → Nat → Nat) × (Nat → Nat → Int) × (Nat → Nat → Int → Int) => match u with | (q, r', n', z', F', Er', En', Ez', EF') => some (.int (iz q))) (fun (u : (Int) × (Nat → Nat) × (Nat → Nat) × (Nat → Int) × (Nat → Int → Int) × (Nat → Nat → Nat) × (Nat → Nat → Nat) × (Nat → Nat → Int) × (Nat → Nat → Int → Int)) (dn dm : Nat) => match u with | (q, r', n', z', F', Er', En', Ez', EF') => xR [15, 16] [] [0, 1, 2] [0, 1, 2] N z F En Ez EF n' z' F' En' Ez' EF' ∧ (dn + xg n' ≤ xg n + 50 ∧ dm + xp n' ≤ xp n + 400) ∧ ((((0 ≤ p0 ∧ p0 < z 12) ∧ (0 ≤ p1 ∧ p1 ≤ 255) ∧ Ez ((p0 + 1).toNat) 0 < 20 ∧ q = Ez ((p0 + 1).toNat) 0 + 1 ∧ Ez' ((p0 + 1).toNat) 0 = Ez ((p0 + 1).toNat) 0 + 1 ∧ (∀ j, j ≠ ((p0 + 1).toNat) → Ez' j = Ez j ∧ EF' j = EF j)) ∧ (iAdd 20 (Ez ((p0 + 1).toNat) 0) (EF ((p0 + 1).toNat) 0) (Ez' ((p0 + 1).toNat) 0) (EF' ((p0 + 1).toNat) 0) p1 ∧ iAdd 20 (Ez ((p0 + 1).toNat) 1) (EF ((p0 + 1).toNat) 1) (Ez' ((p0 + 1).toNat) 1) (EF' ((p0 + 1).toNat) 1) (kf_rk p1) ∧ kf_ls (EF' ((p0 + 1).toNat) 2) 0 (Ez' ((p0 + 1).toNat) 2).toNat = kf_kI (EF' ((p0 + 1).toNat) 0) (Ez' ((p0 + 1).toNat) 0) (z 13) (z 14) 0 0 0)) ∧ z' 15 = 0)) (fun u t => kx_At dC dI (va_A (xU cI cB cE o r n z F G (Eo 0 0) ++ eP cI N Eo Er En Ez EF) sz) ((fun u : (Int) × (Nat → Nat) × (Nat → Nat) × (Nat → Int) × (Nat → Int → Int) × (Nat → Nat → Nat) × (Nat → Nat → Nat) × (Nat → Nat → Int) × (Nat → Nat → Int → Int) => match u with | (q, r', n', z', F', Er', En', Ez', EF') => (xU cI cB cE o r' n' z' F' G (Eo 0 0) ++ eP cI N Eo Er' En' Ez' EF')) u) (xT cI cB cE) t) (va_A (xU cI cB cE o r n z F G (Eo 0 0) ++ eP cI N Eo Er En Ez EF) sz)) (yX (fun E => (E = "java/util/NoSuchElementException" ∧ (¬ (0 ≤ p0 ∧ p0 < z 12))) ∨ (E = "java/lang/IllegalArgumentException" ∧ ((0 ≤ p0 ∧ p0 < z 12) ∧ (p1 < 0 ∨ 255 < p1))) ∨ (E = "java/lang/UnsupportedOperationException" ∧ ((0 ≤ p0 ∧ p0 < z 12) ∧ (0 ≤ p1 ∧ p1 ≤ 255) ∧ 20 ≤ Ez ((p0 + 1).toNat) 0))) 2 12 (fun t => ∃ u : (Nat → Nat) × (Nat → Nat) × (Nat → Int) × (Nat → Int → Int) × (Nat → Nat → Nat) × (Nat → Nat → Nat) × (Nat → Nat → Int) × (Nat → Nat → Int → Int), match u with | (r', n', z', F', Er', En', Ez', EF') => xR [] [] [] [] N z F En Ez EF n' z' F' En' Ez' EF' ∧ kx_At dC dI (va_A (xU cI cB cE o r n z F G (Eo 0 0) ++ eP cI N Eo Er En Ez EF) sz) (xU cI cB cE o r' n' z' F' G (Eo 0 0) ++ eP cI N Eo Er' En' Ez' EF') (xT cI cB cE) t) (va_A (xU cI cB cE o r n z F G (Eo 0 0) ++ eP cI N Eo Er En Ez EF) sz)) 200 60000 (va_A (xU cI cB cE o r n z F G (Eo 0 0) ++ eP cI N Eo Er En Ez EF) sz) := by
  refine vx_ofW (cc := cX5_sign) (maxL := 4) (ret := (some .int)) (by decide) rfl ?_
  intro p e s m args below meth c s₁ B hml htab hv
  obtain ⟨rfl, hsz, hP, hK, hD0, hG, hZ⟩ := hv
  have hx := B.exec
  have hb := B.bytes
  have hr := B.returns
  have hts := kx_hts (a := ([.ref (o 15), .int (iz p0), .int (iz p1)] : List Value).toArray) hG
  have hown : s.vm.findClass RX5 = some m.cls := findClass_of_methodNamed B.named
  have hlocks := B.notSynchronized
  subst hsz
  have hD := hD0.self (sz := s.heap.size)
  generalize hAe : va_A (xU cI cB cE o r n z F G (Eo 0 0) ++ eP cI N Eo Er En Ez EF) s.heap.size = A at hD hZ ⊢
  have hA : ∀ q : Nat, s.heap.size ≤ q → A q := fun q h => by rw [← hAe]; exact Or.inr h
  have hS : va_S A s.heap s.heap [] := va_S.rf
  have hl := lv_entry ([.ref (o 15), .int (iz p0), .int (iz p1)]) (n := 4) (Nat.le_of_ble_eq_true rfl)
  rw [lg_entry_eq]
  generalize (lg_sl ([.ref (o 15), .int (iz p0), .int (iz p1)]) ++ List.replicate (4 - (lg_sl ([.ref (o 15), .int (iz p0), .int (iz p1)])).length) Slot.unset).toArray = ls at hl ⊢
  obtain ⟨hN1, hN2, hN3, hN4⟩ := hxG
  have hef : eFr [0, 1, 2] [0, 1, 2] En Ez EF En Ez EF := eFr.rf
  have hfr : xFr [15, 16] [] z F z F := xFr.rf
  have hxgl := xg_le n
  have hxpl := xp_le n
  have hl : lv_has ls 4 [(0, .ref (o 15)), (1, .int (iz p0)), (2, .int (iz p1))] := hl
  refine lv_aload_n hx hb dX5_sign_0 rfl (lv_at hl 0 rfl) ?_
  refine lv_iload_n hx hb dX5_sign_1 rfl (lv_at hl 1 rfl) ?_
  have hxz_1 : -2147483648 ≤ z 12 ∧ z 12 < 2147483648 := hok.2.2.2.1 12
  have hxG9 : xG N (z 12) G Eo := ⟨by omega, by omega, by omega, fun e9 h9 => hN4 e9 (by omega)⟩
  have hP : va_P (dC, dI) kxCl (xU cI cB cE o r n z F G (Eo 0 0) ++ eP cI N Eo Er En Ez EF) s.heap := hP
  have hD : va_D A (xU cI cB cE o r n z F G (Eo 0 0) ++ eP cI N Eo Er En Ez EF) := hD
  have hFc := xw_free hD hS hA
  refine yk_call (vx_runV (As := [.int (iz p0)]) (rest := []) ⟨hx, hb, hml, hown, hts⟩ (y_needEntry l hlf dC dI cI cB cE o r n z F G N Eo Er En Ez EF p0 s.heap.size hok hxG9 hPE (by omega) (by omega)) (cwV 1 hts (kx_gV kq_21_xcalls_10 kq_21_xcalls_11 kq_21_xcalls_12 kq_18_xrows_4 kq_21_xcalls_13 rfl) rfl rfl rfl (by decide +kernel) ⟨Nat.le_of_ble_eq_true rfl, Nat.le_of_ble_eq_true rfl⟩) ⟨kx_blind, va_recv hK hP (ci := 5) (q0 := 0) rfl rfl, kx_give (ws := []) (tys := []) hP hD hK hG hZ hS hFc⟩ rfl rfl hl.1 rfl (lv_room (Nat.le_of_ble_eq_true rfl)) dX5_sign_2 ⟨show 0 + 1 ≤ 200 from (by omega), show 0 + 6 ≤ 60000 from (by omega)⟩) hS (fun q _ h => hFc q h) hFc (fun E ce q9 t H1 locs ht hvm hEx hBx hk1 hS hcell hcv hcl => ?_) (fun u dn_4 dm_5 t H locs ht hvm hq_2 hB hk1 hS => ?_)
  · skip
    exact ky_out (fun x hx => (htab x hx).elim) hlocks hcell hcv hcl (by obtain ⟨rfl, h9⟩ := hEx; exact Or.inl ⟨rfl, by first | trivial | omega⟩) (fun t9 ht9 hvm9 => by obtain ⟨⟨r8, n8, z8, F8, Er8, En8, Ez8, EF8⟩, hR8, hP8, hK8, hD8⟩ := hBx; exact ⟨(r8, n8, z8, F8, Er8, En8, Ez8, EF8), hR8, (by rw [ht9, ← ht]; exact hP8), va_K.moved hvm9 hK, hD8.weaken (fun _ q _ h => hFc _ h)⟩) hS hS.2.2 (by omega) (by omega) (by omega) (by omega)
  · skip
    obtain ⟨r_6, n_7, z_8, F_9, Er_10, En_11, Ez_12, EF_13⟩ := u
    obtain ⟨hP, hK1, hD1⟩ := hB
    rw [ht] at hP
    have hD := hD1.weaken (fun _ q _ h => hFc _ h)
    obtain ⟨hR14, hC14, hq_2⟩ := hq_2
    obtain ⟨rfl, rfl, rfl, rfl, rfl, rfl, rfl, hq_2⟩ := hq_2
    obtain ⟨rfl, hq_2⟩ := hq_2
    refine W.eq (g2 := F0 m 5 ls []) rfl ?_
    refine lv_iload_n hx hb dX5_sign_5 rfl (lv_at hl 2 rfl) ?_
    refine ki_if_lt (tgt := 16) hx hb dX5_sign_6 (by decide) (by omega) (by omega) (fun c_15 => ?_) (fun c_15 => ?_)
    · skip
      exact ky_thr_IAE hx hb hlf hown hG hZ hS (hl.1.trans hml.symm) dX5_sign_16 dX5_sign_19 dX5_sign_20 dX5_sign_23 htab (Nat.le_of_ble_eq_true rfl) (Nat.le_of_ble_eq_true rfl) (show (0 + dn_4) + 1 ≤ 200 from (by omega)) (show (0 + dm_5) + 6 ≤ 60000 from (by omega)) hlocks (Or.inr (Or.inl ⟨rfl, by first | trivial | omega⟩)) (fun t hvm h1 h2 => ⟨(r, n, z, F, Er, En, Ez, EF), ⟨hok, xFr.rf, hPE, eFr.rf⟩, hP.kept (fun k q hk => h2 q.1 (hP k q hk).lt), va_K.moved hvm hK, hD⟩) hS.2.2 (by omega) (by omega) (by omega) (by omega)
    · skip
      refine lv_iload_n hx hb dX5_sign_9 rfl (lv_at hl 2 rfl) ?_
      refine lv_sipush (v := iz 255) hx hb dX5_sign_10 (by decide) ?_
      refine ki_icmp_le (tgt := 24) hx hb dX5_sign_13 (by decide) (by omega) (by omega) (by omega) (by omega) (fun c_16 => ?_) (fun c_16 => ?_)
      · skip
        refine lv_aload_n hx hb dX5_sign_24 rfl (lv_at hl 0 rfl) ?_
        refine lv_iload_n hx hb dX5_sign_25 rfl (lv_at hl 1 rfl) ?_
        have hxG9 : xG N (z 12) G Eo := ⟨by omega, by omega, by omega, fun e9 h9 => hN4 e9 (by omega)⟩
        have hP : va_P (dC, dI) kxCl (xU cI cB cE o r n z F G (Eo 0 0) ++ eP cI N Eo Er En Ez EF) H := hP
        refine xk_pure (va_runV (As := [.int (iz p0)]) (rest := []) ⟨hx, hb, hml, hown, hts⟩ (y_known l dC dI cI cB cE o r n z F G N Eo Er En Ez EF p0 H.size hok hxG9 hPE (by omega) (by omega)) (cwV 1 hts (kx_gV kq_18_xrows_8 kq_18_xrows_9 kq_18_xrows_10 kq_18_xrows_4 kq_18_xrows_11 rfl) rfl rfl rfl (by decide +kernel) ⟨Nat.le_of_ble_eq_true rfl, Nat.le_of_ble_eq_true rfl⟩) ⟨pPre_blind, va_recv hK hP (ci := 5) (q0 := 0) rfl rfl, pPre_give hP hK hG⟩ rfl rfl hl.1 rfl (lv_room (Nat.le_of_ble_eq_true rfl)) dX5_sign_26 ⟨show (0 + dn_4) + 0 ≤ 200 from (by omega), show (0 + dm_5) + 0 ≤ 60000 from (by omega)⟩) hS (fun z_18 locs hq_17 hS => ?_)
        refine W.eq (g2 := F0 m 29 ls [.ref z_18.toNat]) rfl ?_
        try dsimp only at hq_17
        obtain ⟨j19, hj19, ez19, hje19⟩ := hq_17
        subst ez19
        refine W.eq (g2 := F0 m 29 ls [.ref (Eo j19 0)]) rfl ?_
        have ej19 : j19 = (p0 + 1).toNat := by omega
        subst ej19
        refine lv_astore_n (lv' := [(3, .ref (Eo ((p0 + 1).toNat) 0)), (0, .ref (o 15)), (1, .int (iz p0)), (2, .int (iz p1))]) hx hb dX5_sign_29 rfl hl (by decide) rfl (fun ls hl => ?_)
        refine lv_aload_n hx hb dX5_sign_30 rfl (lv_at hl 0 rfl) ?_
        have hP := eP_foc hj19 hP
        have hD := eD_foc hj19 hD
        refine va_getN (D := (dC, dI)) (ci := 0) (v := .ref (Eo ((p0 + 1).toNat) 1)) (C := RX0) (T := TX0) (N := 12) hx hb hts kt_X0 hown hK hP 29 rfl rfl 2 (by decide) (va_Nw.use rfl (kx_nf hG kq_19_xouts_70)) (fun _ h9 => h9) rfl dX5_sign_31 ?_
        have he_20 : 0 ≤ Ez ((p0 + 1).toNat) 0 ∧ Ez ((p0 + 1).toNat) 0 ≤ ((En ((p0 + 1).toNat) 0 : Nat) : Int) ∧ ((En ((p0 + 1).toNat) 0 : Nat) : Int) ≤ 20 := (hPE ((p0 + 1).toNat) hj19).1 0 (by decide)
        have hPc := hP.sub (ws' := (iU cI 20 (Eo ((p0 + 1).toNat) 1) (Er ((p0 + 1).toNat) 0) (En ((p0 + 1).toNat) 0) (Ez ((p0 + 1).toNat) 0) (EF ((p0 + 1).toNat) 0))) [30, 31] rfl
        refine xk_pure (va_runV (As := []) (rest := []) ⟨hx, hb, hml, hown, hts⟩ (x_isFull l dC dI cI cB cE 20 (Eo ((p0 + 1).toNat) 1) (Er ((p0 + 1).toNat) 0) (En ((p0 + 1).toNat) 0) (Ez ((p0 + 1).toNat) 0) (EF ((p0 + 1).toNat) 0)  H.size (by omega)) (cwV 0 hts (kx_gV kq_21_xcalls_1 kq_15_xspan_35 kq_15_xspan_36 kq_13_xints_6 kq_15_xspan_37 rfl) rfl rfl rfl (by decide +kernel) ⟨Nat.le_of_ble_eq_true rfl, Nat.le_of_ble_eq_true rfl⟩) ⟨pPre_blind, va_recv hK hPc (ci := 1) (q0 := 0) rfl rfl, pPre_give hPc hK hG⟩ rfl rfl hl.1 rfl (lv_room (Nat.le_of_ble_eq_true rfl)) dX5_sign_34 ⟨show (0 + dn_4) + 0 ≤ 200 from (by omega), show (0 + dm_5) + 0 ≤ 60000 from (by omega)⟩) hS (fun z_22 locs hq_21 hS => ?_)
        refine W.eq (g2 := F0 m 37 ls [.int (iz z_22)]) rfl ?_
        try dsimp only at hq_21
        rcases hq_21 with ⟨rfl, hq_21⟩ | ⟨rfl, hq_21⟩
        · skip
          refine ki_if_eq (tgt := 48) hx hb dX5_sign_37 (by decide) (by omega) (by omega) (fun c_23 => ?_) (fun c_23 => ?_)
          · omega
          · skip
            have hP := eP_un0 hj19 hP
            have hD := eD_un0 hj19 hD
            exact ky_thr_UOE hx hb hlf hown hG hZ hS (hl.1.trans hml.symm) dX5_sign_40 dX5_sign_43 dX5_sign_44 dX5_sign_47 htab (Nat.le_of_ble_eq_true rfl) (Nat.le_of_ble_eq_true rfl) (show (0 + dn_4) + 1 ≤ 200 from (by omega)) (show (0 + dm_5) + 6 ≤ 60000 from (by omega)) hlocks (Or.inr (Or.inr (⟨rfl, by first | trivial | omega⟩))) (fun t hvm h1 h2 => ⟨(r, n, z, F, Er, En, Ez, EF), ⟨hok, xFr.rf, hPE, eFr.rf⟩, hP.kept (fun k q hk => h2 q.1 (hP k q hk).lt), va_K.moved hvm hK, hD⟩) hS.2.2 (by omega) (by omega) (by omega) (by omega)
        · skip
          refine ki_if_eq (tgt := 48) hx hb dX5_sign_37 (by decide) (by omega) (by omega) (fun c_24 => ?_) (fun c_24 => ?_)
          · skip
            refine lv_aload_n hx hb dX5_sign_48 rfl (lv_at hl 0 rfl) ?_
            refine lv_iload_n hx hb dX5_sign_49 rfl (lv_at hl 3 rfl) ?_
            have hPc := hP.sub (ws' := (eU cI (Eo ((p0 + 1).toNat)) (Er ((p0 + 1).toNat)) (En ((p0 + 1).toNat)) (Ez ((p0 + 1).toNat)) (EF ((p0 + 1).toNat)))) [29, 30, 31, 32, 33, 34, 35, 36, 37, 38, 39, 40, 41, 42, 43, 44] rfl
            have hDc := hD.sub (ws' := (eU cI (Eo ((p0 + 1).toNat)) (Er ((p0 + 1).toNat)) (En ((p0 + 1).toNat)) (Ez ((p0 + 1).toNat)) (EF ((p0 + 1).toNat)))) [29, 30, 31, 32, 33, 34, 35, 36, 37, 38, 39, 40, 41, 42, 43, 44] (by decide) rfl
            have hFc := va_free (wc := (eU cI (Eo ((p0 + 1).toNat)) (Er ((p0 + 1).toNat)) (En ((p0 + 1).toNat)) (Ez ((p0 + 1).toNat)) (EF ((p0 + 1).toNat)))) hD hS hA [29, 30, 31, 32, 33, 34, 35, 36, 37, 38, 39, 40, 41, 42, 43, 44] rfl
            refine xk_call (va_runV (As := [.int (iz p1)]) (rest := []) ⟨hx, hb, hml, hown, hts⟩ (x_addSign2 l dC dI cI cB cE (Eo ((p0 + 1).toNat)) (Er ((p0 + 1).toNat)) (En ((p0 + 1).toNat)) (Ez ((p0 + 1).toNat)) (EF ((p0 + 1).toNat)) p1 H.size (hPE ((p0 + 1).toNat) hj19) (by omega) (by omega) (by omega)) (cwV 1 hts (kx_gV kq_21_xcalls_14 kq_21_xcalls_15 kq_21_xcalls_16 kq_16_xentry_2 kq_21_xcalls_17 rfl) rfl rfl rfl (by decide +kernel) ⟨Nat.le_of_ble_eq_true rfl, Nat.le_of_ble_eq_true rfl⟩) ⟨kx_blind, va_recv hK hPc (ci := 0) (q0 := 0) rfl rfl, kx_give (ws := []) (tys := []) hPc hDc hK hG hZ hS hFc⟩ rfl rfl hl.1 rfl (lv_room (Nat.le_of_ble_eq_true rfl)) dX5_sign_50 ⟨show (0 + dn_4) + 20 ≤ 200 from (by omega), show (0 + dm_5) + 4800 ≤ 60000 from (by omega)⟩) hS (fun q _ h => hFc q h) hFc (fun u dn_26 dm_27 t H locs ht hvm hq_25 hB hk1 hS => ?_)
            obtain ⟨r0_28, n0_29, z0_30, F0_31, r1_32, n1_33, z1_34, F1_35⟩ := u
            obtain ⟨hP1, hK1, hD1⟩ := hB
            rw [ht] at hP1
            obtain ⟨hP, hD⟩ := xj_pool (wr := [(o 15, .inr (5, [.ref (o 16), .ref (Eo 0 0), .int (iz (z 12)), .int (iz (z 13)), .int (iz (z 14)), .ref (o 0), .ref (o 1), .int (iz (z 15)), .ref (o 13), .ref (o 14), .int (iz (z 16)), .ref (o 2), .ref (o 12), .ref (o 3), .ref (o 10), .ref (o 11)])), (o 16, .inl (cE, 80, .inr (.inr (.inr (.inr G))))), (o 0, .inr (1, [.int (iz 80), .ref (r 0), .int (iz (z 0))])), (r 0, .inl (cI, n 0, .inl (iA (F 0)))), (o 1, .inr (1, [.int (iz 80), .ref (r 1), .int (iz (z 1))])), (r 1, .inl (cI, n 1, .inl (iA (F 1)))), (o 2, .inr (1, [.int (iz 80), .ref (r 2), .int (iz (z 2))])), (r 2, .inl (cI, n 2, .inl (iA (F 2)))), (o 3, .inr (1, [.int (iz 80), .ref (r 3), .int (iz (z 3))])), (r 3, .inl (cI, n 3, .inl (iA (F 3)))), (o 13, .inr (3, [.ref (o 4), .ref (o 5), .ref (o 6)])), (o 4, .inr (1, [.int (iz 1600), .ref (r 4), .int (iz (z 4))])), (r 4, .inl (cI, n 4, .inl (iA (F 4)))), (o 5, .inr (1, [.int (iz 1600), .ref (r 5), .int (iz (z 5))])), (r 5, .inl (cI, n 5, .inl (iA (F 5)))), (o 6, .inr (1, [.int (iz 1600), .ref (r 6), .int (iz (z 6))])), (r 6, .inl (cI, n 6, .inl (iA (F 6)))), (o 14, .inr (3, [.ref (o 7), .ref (o 8), .ref (o 9)])), (o 7, .inr (1, [.int (iz 1600), .ref (r 7), .int (iz (z 7))])), (r 7, .inl (cI, n 7, .inl (iA (F 7)))), (o 8, .inr (1, [.int (iz 1600), .ref (r 8), .int (iz (z 8))])), (r 8, .inl (cI, n 8, .inl (iA (F 8)))), (o 9, .inr (1, [.int (iz 1600), .ref (r 9), .int (iz (z 9))])), (r 9, .inl (cI, n 9, .inl (iA (F 9)))), (o 12, .inr (4, [.int (iz (z 17)), .int (iz (z 18)), .int (iz (z 19)), .int (iz (z 20)), .int (iz (z 21))])), (o 10, .inr (2, [.ref (r 10), .int (iz (z 10)), .int (iz (z 22))])), (r 10, .inl (cB, n 10, .inl (iA (F 10)))), (o 11, .inr (2, [.ref (r 11), .int (iz (z 11)), .int (iz (z 23))])), (r 11, .inl (cB, n 11, .inl (iA (F 11))))]) (w1 := (eU cI (Eo ((p0 + 1).toNat)) (va_up (va_up (Er ((p0 + 1).toNat)) 0 r0_28) 1 r1_32) (va_up (va_up (En ((p0 + 1).toNat)) 0 n0_29) 1 n1_33) (va_up (va_up (Ez ((p0 + 1).toNat)) 0 z0_30) 1 z1_34) (va_up (va_up (EF ((p0 + 1).toNat)) 0 F0_31) 1 F1_35))) (ws' := ((xU cI cB cE o r n z F G (Eo 0 0)) ++ (eU cI (Eo ((p0 + 1).toNat)) (va_up (va_up (Er ((p0 + 1).toNat)) 0 r0_28) 1 r1_32) (va_up (va_up (En ((p0 + 1).toNat)) 0 n0_29) 1 n1_33) (va_up (va_up (Ez ((p0 + 1).toNat)) 0 z0_30) 1 z1_34) (va_up (va_up (EF ((p0 + 1).toNat)) 0 F0_31) 1 F1_35)))) hP hD [29, 30, 31, 32, 33, 34, 35, 36, 37, 38, 39, 40, 41, 42, 43, 44] [0, 1, 2, 3, 4, 5, 6, 7, 8, 9, 10, 11, 12, 13, 14, 15, 16, 17, 18, 19, 20, 21, 22, 23, 24, 25, 26, 27, 28] [0, 1, 2, 3, 4, 5, 6, 7, 8, 9, 10, 11, 12, 13, 14, 15, 16, 17, 18, 19, 20, 21, 22, 23, 24, 25, 26, 27, 28, 29, 30, 31, 32, 33, 34, 35, 36, 37, 38, 39, 40, 41, 42, 43, 44] rfl rfl (by decide) (by decide) hk1 hFc hP1 hD1 rfl (by decide)
            refine W.eq (g2 := F0 m 53 ls []) rfl ?_
            try dsimp only at hq_25
            obtain ⟨⟨ha36, hb036⟩, ⟨hb36, hb136⟩, hc36, hd36, hdr36⟩ := hq_25
            have hax36 := hd36.1
            refine lv_aload_n hx hb dX5_sign_53 rfl (lv_at hl 0 rfl) ?_
            refine lv_aload_n hx hb dX5_sign_54 rfl (lv_at hl 1 rfl) ?_
            have hxz_37 : -2147483648 ≤ z 13 ∧ z 13 < 2147483648 := hok.2.2.2.1 13
            have hxb_38 : z 13 = 0 ∨ z 13 = 1 := hok.2.2.2.2 13 (by decide)
            refine va_get (D := (dC, dI)) (ci := 5) (v := .int (iz (z 13))) (C := RX5) (T := TX5) (N := 16) hx hb hts kt_X5 hown hK hP 0 rfl rfl 3 (by decide) (kx_word hG kq_18_xrows_31 rfl) (fun _ h9 => h9) rfl dX5_sign_55 ?_
            refine lv_aload_n hx hb dX5_sign_58 rfl (lv_at hl 1 rfl) ?_
            have hxz_39 : -2147483648 ≤ z 14 ∧ z 14 < 2147483648 := hok.2.2.2.1 14
            have hxb_40 : z 14 = 0 ∨ z 14 = 1 := hok.2.2.2.2 14 (by decide)
            refine va_get (D := (dC, dI)) (ci := 5) (v := .int (iz (z 14))) (C := RX5) (T := TX5) (N := 16) hx hb hts kt_X5 hown hK hP 0 rfl rfl 4 (by decide) (kx_word hG kq_18_xrows_32 rfl) (fun _ h9 => h9) rfl dX5_sign_59 ?_
            have he_41 : 0 ≤ Ez ((p0 + 1).toNat) 1 ∧ Ez ((p0 + 1).toNat) 1 ≤ ((En ((p0 + 1).toNat) 1 : Nat) : Int) ∧ ((En ((p0 + 1).toNat) 1 : Nat) : Int) ≤ 20 := (hPE ((p0 + 1).toNat) hj19).1 1 (by decide)
            have hPc := hP.sub (ws' := (eU cI (Eo ((p0 + 1).toNat)) (va_up (va_up (Er ((p0 + 1).toNat)) 0 r0_28) 1 r1_32) (va_up (va_up (En ((p0 + 1).toNat)) 0 n0_29) 1 n1_33) (va_up (va_up (Ez ((p0 + 1).toNat)) 0 z0_30) 1 z1_34) (va_up (va_up (EF ((p0 + 1).toNat)) 0 F0_31) 1 F1_35))) [29, 30, 31, 32, 33, 34, 35, 36, 37, 38, 39, 40, 41, 42, 43, 44] rfl
            have hDc := hD.sub (ws' := (eU cI (Eo ((p0 + 1).toNat)) (va_up (va_up (Er ((p0 + 1).toNat)) 0 r0_28) 1 r1_32) (va_up (va_up (En ((p0 + 1).toNat)) 0 n0_29) 1 n1_33) (va_up (va_up (Ez ((p0 + 1).toNat)) 0 z0_30) 1 z1_34) (va_up (va_up (EF ((p0 + 1).toNat)) 0 F0_31) 1 F1_35))) [29, 30, 31, 32, 33, 34, 35, 36, 37, 38, 39, 40, 41, 42, 43, 44] (by decide) rfl
            have hFc := va_free (wc := (eU cI (Eo ((p0 + 1).toNat)) (va_up (va_up (Er ((p0 + 1).toNat)) 0 r0_28) 1 r1_32) (va_up (va_up (En ((p0 + 1).toNat)) 0 n0_29) 1 n1_33) (va_up (va_up (Ez ((p0 + 1).toNat)) 0 z0_30) 1 z1_34) (va_up (va_up (EF ((p0 + 1).toNat)) 0 F0_31) 1 F1_35))) hD hS hA [29, 30, 31, 32, 33, 34, 35, 36, 37, 38, 39, 40, 41, 42, 43, 44] rfl
            refine xk_call (va_runV (As := [.int (iz (z 13)), .int (iz (z 14))]) (rest := []) ⟨hx, hb, hml, hown, hts⟩ (x_makeKey2 l dC dI cI cB cE (Eo ((p0 + 1).toNat)) (va_up (va_up (Er ((p0 + 1).toNat)) 0 r0_28) 1 r1_32) (va_up (va_up (En ((p0 + 1).toNat)) 0 n0_29) 1 n1_33) (va_up (va_up (Ez ((p0 + 1).toNat)) 0 z0_30) 1 z1_34) (va_up (va_up (EF ((p0 + 1).toNat)) 0 F0_31) 1 F1_35) (z 13) (z 14) H.size (((hPE ((p0 + 1).toNat) hj19).i 0 (by decide) (show 0 ≤ z0_30 ∧ z0_30 ≤ ((n0_29 : Nat) : Int) ∧ ((n0_29 : Nat) : Int) ≤ 20 by omega) hb036 (by omega)).i 1 (by decide) (show 0 ≤ z1_34 ∧ z1_34 ≤ ((n1_33 : Nat) : Int) ∧ ((n1_33 : Nat) : Int) ≤ 20 by omega) hb136 (by omega)) (kf_sg_rng hd36 (hsgE (by omega)) (by omega)) (by omega) (by omega) (by omega) (by omega) (by omega) (by omega)) (cwV 2 hts (kx_gV kq_18_xrows_33 kq_18_xrows_34 kq_18_xrows_35 kq_16_xentry_2 kq_18_xrows_36 rfl) rfl rfl rfl (by decide +kernel) ⟨Nat.le_of_ble_eq_true rfl, Nat.le_of_ble_eq_true rfl⟩) ⟨kx_blind, va_recv hK hPc (ci := 0) (q0 := 0) rfl rfl, kx_give (ws := []) (tys := []) hPc hDc hK hG hZ hS hFc⟩ rfl rfl hl.1 rfl (lv_room (Nat.le_of_ble_eq_true rfl)) dX5_sign_62 ⟨show ((0 + dn_4) + dn_26) + 20 ≤ 200 from (by omega), show ((0 + dm_5) + dm_27) + 3500 ≤ 60000 from (by omega)⟩) hS (fun q _ h => hFc q h) hFc (fun u dn_43 dm_44 t H locs ht hvm hq_42 hB hk1 hS => ?_)
            obtain ⟨r2_45, n2_46, z2_47, F2_48⟩ := u
            obtain ⟨hP1, hK1, hD1⟩ := hB
            rw [ht] at hP1
            obtain ⟨hP, hD⟩ := xj_pool (wr := [(o 15, .inr (5, [.ref (o 16), .ref (Eo 0 0), .int (iz (z 12)), .int (iz (z 13)), .int (iz (z 14)), .ref (o 0), .ref (o 1), .int (iz (z 15)), .ref (o 13), .ref (o 14), .int (iz (z 16)), .ref (o 2), .ref (o 12), .ref (o 3), .ref (o 10), .ref (o 11)])), (o 16, .inl (cE, 80, .inr (.inr (.inr (.inr G))))), (o 0, .inr (1, [.int (iz 80), .ref (r 0), .int (iz (z 0))])), (r 0, .inl (cI, n 0, .inl (iA (F 0)))), (o 1, .inr (1, [.int (iz 80), .ref (r 1), .int (iz (z 1))])), (r 1, .inl (cI, n 1, .inl (iA (F 1)))), (o 2, .inr (1, [.int (iz 80), .ref (r 2), .int (iz (z 2))])), (r 2, .inl (cI, n 2, .inl (iA (F 2)))), (o 3, .inr (1, [.int (iz 80), .ref (r 3), .int (iz (z 3))])), (r 3, .inl (cI, n 3, .inl (iA (F 3)))), (o 13, .inr (3, [.ref (o 4), .ref (o 5), .ref (o 6)])), (o 4, .inr (1, [.int (iz 1600), .ref (r 4), .int (iz (z 4))])), (r 4, .inl (cI, n 4, .inl (iA (F 4)))), (o 5, .inr (1, [.int (iz 1600), .ref (r 5), .int (iz (z 5))])), (r 5, .inl (cI, n 5, .inl (iA (F 5)))), (o 6, .inr (1, [.int (iz 1600), .ref (r 6), .int (iz (z 6))])), (r 6, .inl (cI, n 6, .inl (iA (F 6)))), (o 14, .inr (3, [.ref (o 7), .ref (o 8), .ref (o 9)])), (o 7, .inr (1, [.int (iz 1600), .ref (r 7), .int (iz (z 7))])), (r 7, .inl (cI, n 7, .inl (iA (F 7)))), (o 8, .inr (1, [.int (iz 1600), .ref (r 8), .int (iz (z 8))])), (r 8, .inl (cI, n 8, .inl (iA (F 8)))), (o 9, .inr (1, [.int (iz 1600), .ref (r 9), .int (iz (z 9))])), (r 9, .inl (cI, n 9, .inl (iA (F 9)))), (o 12, .inr (4, [.int (iz (z 17)), .int (iz (z 18)), .int (iz (z 19)), .int (iz (z 20)), .int (iz (z 21))])), (o 10, .inr (2, [.ref (r 10), .int (iz (z 10)), .int (iz (z 22))])), (r 10, .inl (cB, n 10, .inl (iA (F 10)))), (o 11, .inr (2, [.ref (r 11), .int (iz (z 11)), .int (iz (z 23))])), (r 11, .inl (cB, n 11, .inl (iA (F 11))))]) (w1 := (eU cI (Eo ((p0 + 1).toNat)) (va_up (va_up (va_up (Er ((p0 + 1).toNat)) 0 r0_28) 1 r1_32) 2 r2_45) (va_up (va_up (va_up (En ((p0 + 1).toNat)) 0 n0_29) 1 n1_33) 2 n2_46) (va_up (va_up (va_up (Ez ((p0 + 1).toNat)) 0 z0_30) 1 z1_34) 2 z2_47) (va_up (va_up (va_up (EF ((p0 + 1).toNat)) 0 F0_31) 1 F1_35) 2 F2_48))) (ws' := ((xU cI cB cE o r n z F G (Eo 0 0)) ++ (eU cI (Eo ((p0 + 1).toNat)) (va_up (va_up (va_up (Er ((p0 + 1).toNat)) 0 r0_28) 1 r1_32) 2 r2_45) (va_up (va_up (va_up (En ((p0 + 1).toNat)) 0 n0_29) 1 n1_33) 2 n2_46) (va_up (va_up (va_up (Ez ((p0 + 1).toNat)) 0 z0_30) 1 z1_34) 2 z2_47) (va_up (va_up (va_up (EF ((p0 + 1).toNat)) 0 F0_31) 1 F1_35) 2 F2_48)))) hP hD [29, 30, 31, 32, 33, 34, 35, 36, 37, 38, 39, 40, 41, 42, 43, 44] [0, 1, 2, 3, 4, 5, 6, 7, 8, 9, 10, 11, 12, 13, 14, 15, 16, 17, 18, 19, 20, 21, 22, 23, 24, 25, 26, 27, 28] [0, 1, 2, 3, 4, 5, 6, 7, 8, 9, 10, 11, 12, 13, 14, 15, 16, 17, 18, 19, 20, 21, 22, 23, 24, 25, 26, 27, 28, 29, 30, 31, 32, 33, 34, 35, 36, 37, 38, 39, 40, 41, 42, 43, 44] rfl rfl (by decide) (by decide) hk1 hFc hP1 hD1 rfl (by decide)
            refine W.eq (g2 := F0 m 65 ls []) rfl ?_
            try dsimp only at hq_42
            try simp (decide := true) only [va_ev, ↓reduceIte] at hq_42
            obtain ⟨⟨ha49, hb49⟩, hc49, hlk49⟩ := hq_42
            have hpg49 := psg_le 40 (En ((p0 + 1).toNat) 2)
            have hpj49 := psj_le (L := 40) (by omega) (En ((p0 + 1).toNat) 2)
            refine lv_aload_n hx hb dX5_sign_65 rfl (lv_at hl 1 rfl) ?_
            have he_50 : 0 ≤ Ez ((p0 + 1).toNat) 2 ∧ Ez ((p0 + 1).toNat) 2 ≤ ((En ((p0 + 1).toNat) 2 : Nat) : Int) ∧ ((En ((p0 + 1).toNat) 2 : Nat) : Int) ≤ 40 := (hPE ((p0 + 1).toNat) hj19).1 2 (by decide)
            have hP : va_P (dC, dI) kxCl (((xU cI cB cE o r n z F G (Eo 0 0)) ++ (eU cI (Eo ((p0 + 1).toNat)) (va_up (va_up (va_up (Er ((p0 + 1).toNat)) 0 r0_28) 1 r1_32) 2 r2_45) (va_up (va_up (va_up (En ((p0 + 1).toNat)) 0 n0_29) 1 n1_33) 2 n2_46) (va_up (va_up (va_up (Ez ((p0 + 1).toNat)) 0 z0_30) 1 z1_34) 2 z2_47) (va_up (va_up (va_up (EF ((p0 + 1).toNat)) 0 F0_31) 1 F1_35) 2 F2_48))) ++ (eR cI N ((p0 + 1).toNat) Eo Er En Ez EF)) H := hP
            have hD : va_D A (((xU cI cB cE o r n z F G (Eo 0 0)) ++ (eU cI (Eo ((p0 + 1).toNat)) (va_up (va_up (va_up (Er ((p0 + 1).toNat)) 0 r0_28) 1 r1_32) 2 r2_45) (va_up (va_up (va_up (En ((p0 + 1).toNat)) 0 n0_29) 1 n1_33) 2 n2_46) (va_up (va_up (va_up (Ez ((p0 + 1).toNat)) 0 z0_30) 1 z1_34) 2 z2_47) (va_up (va_up (va_up (EF ((p0 + 1).toNat)) 0 F0_31) 1 F1_35) 2 F2_48))) ++ (eR cI N ((p0 + 1).toNat) Eo Er En Ez EF)) := hD
            have hP := eP_unf hj19 hP
            have hD := eD_unf hj19 hD
            have hPE51 := hPE.up ((p0 + 1).toNat) ((((hPE ((p0 + 1).toNat) hj19).i 0 (by decide) (show 0 ≤ z0_30 ∧ z0_30 ≤ ((n0_29 : Nat) : Int) ∧ ((n0_29 : Nat) : Int) ≤ 20 by omega) hb036 (by omega)).i 1 (by decide) (show 0 ≤ z1_34 ∧ z1_34 ≤ ((n1_33 : Nat) : Int) ∧ ((n1_33 : Nat) : Int) ≤ 20 by omega) hb136 (by omega)).i 2 (by decide) (show 0 ≤ z2_47 ∧ z2_47 ≤ ((n2_46 : Nat) : Int) ∧ ((n2_46 : Nat) : Int) ≤ 40 by omega) hb49 (by omega))
            have hef51 := hef.up ((p0 + 1).toNat) (z := (va_up (va_up (va_up (Ez ((p0 + 1).toNat)) 0 z0_30) 1 z1_34) 2 z2_47)) (n := (va_up (va_up (va_up (En ((p0 + 1).toNat)) 0 n0_29) 1 n1_33) 2 n2_46)) (F := (va_up (va_up (va_up (EF ((p0 + 1).toNat)) 0 F0_31) 1 F1_35) 2 F2_48)) (fun k hk => (vfr hk _ (by decide) (vfr hk _ (by decide) (vfr hk _ (by decide) rfl)))) (fun k hk => ⟨(vfr hk _ (by decide) (vfr hk _ (by decide) (vfr hk _ (by decide) rfl))), (vfr hk _ (by decide) (vfr hk _ (by decide) (vfr hk _ (by decide) rfl)))⟩)
            generalize eEr51 : va_up Er ((p0 + 1).toNat) (va_up (va_up (va_up (Er ((p0 + 1).toNat)) 0 r0_28) 1 r1_32) 2 r2_45) = Er51 at hP hD
            generalize eEn51 : va_up En ((p0 + 1).toNat) (va_up (va_up (va_up (En ((p0 + 1).toNat)) 0 n0_29) 1 n1_33) 2 n2_46) = En51 at hP hD hPE51 hef51
            generalize eEz51 : va_up Ez ((p0 + 1).toNat) (va_up (va_up (va_up (Ez ((p0 + 1).toNat)) 0 z0_30) 1 z1_34) 2 z2_47) = Ez51 at hP hD hPE51 hef51
            generalize eEF51 : va_up EF ((p0 + 1).toNat) (va_up (va_up (va_up (EF ((p0 + 1).toNat)) 0 F0_31) 1 F1_35) 2 F2_48) = EF51 at hP hD hPE51 hef51
            have hcl51_0 : Ez51 ((p0 + 1).toNat) 0 = z0_30 := by rw [← eEz51]; simp (decide := true) only [va_ev, ↓reduceIte]
            have hcl51_1 : Ez51 ((p0 + 1).toNat) 1 = z1_34 := by rw [← eEz51]; simp (decide := true) only [va_ev, ↓reduceIte]
            have hcl51_2 : Ez51 ((p0 + 1).toNat) 2 = z2_47 := by rw [← eEz51]; simp (decide := true) only [va_ev, ↓reduceIte]
            have hcl51_4 : Ez51 ((p0 + 1).toNat) 4 = Ez ((p0 + 1).toNat) 4 := by rw [← eEz51]; simp (decide := true) only [va_ev, ↓reduceIte]
            have hcl51_7 : Ez51 ((p0 + 1).toNat) 7 = Ez ((p0 + 1).toNat) 7 := by rw [← eEz51]; simp (decide := true) only [va_ev, ↓reduceIte]
            have hcl51_9 : Ez51 ((p0 + 1).toNat) 9 = Ez ((p0 + 1).toNat) 9 := by rw [← eEz51]; simp (decide := true) only [va_ev, ↓reduceIte]
            have hcF51_0 : EF51 ((p0 + 1).toNat) 0 = F0_31 := by rw [← eEF51]; simp (decide := true) only [va_ev, ↓reduceIte]
            have hcF51_1 : EF51 ((p0 + 1).toNat) 1 = F1_35 := by rw [← eEF51]; simp (decide := true) only [va_ev, ↓reduceIte]
            have hcF51_2 : EF51 ((p0 + 1).toNat) 2 = F2_48 := by rw [← eEF51]; simp (decide := true) only [va_ev, ↓reduceIte]
            have hcF51_4 : EF51 ((p0 + 1).toNat) 4 = EF ((p0 + 1).toNat) 4 := by rw [← eEF51]; simp (decide := true) only [va_ev, ↓reduceIte]
            have hxG9 : xG N (z 12) G Eo := ⟨by omega, by omega, by omega, fun e9 h9 => hN4 e9 (by omega)⟩
            have hP : va_P (dC, dI) kxCl (xU cI cB cE o r n z F G (Eo 0 0) ++ eP cI N Eo Er51 En51 Ez51 EF51) H := hP
            have hD : va_D A (xU cI cB cE o r n z F G (Eo 0 0) ++ eP cI N Eo Er51 En51 Ez51 EF51) := hD
            have hFc := xw_free hD hS hA
            refine xk_call (va_runV (As := []) (rest := []) ⟨hx, hb, hml, hown, hts⟩ (y_forgetRows l dC dI cI cB cE o r n z F G N Eo Er51 En51 Ez51 EF51  H.size hok hxG9 hPE51 ) (cwV 0 hts (kx_gV kq_21_xcalls_6 kq_21_xcalls_7 kq_21_xcalls_8 kq_18_xrows_4 kq_21_xcalls_9 rfl) rfl rfl rfl (by decide +kernel) ⟨Nat.le_of_ble_eq_true rfl, Nat.le_of_ble_eq_true rfl⟩) ⟨kx_blind, va_recv hK hP (ci := 5) (q0 := 0) rfl rfl, kx_give (ws := []) (tys := []) hP hD hK hG hZ hS hFc⟩ rfl rfl hl.1 rfl (lv_room (Nat.le_of_ble_eq_true rfl)) dX5_sign_66 ⟨show (((0 + dn_4) + dn_26) + dn_43) + 0 ≤ 200 from (by omega), show (((0 + dm_5) + dm_27) + dm_44) + 0 ≤ 60000 from (by omega)⟩) hS (fun q _ h => hFc q h) hFc (fun u dn_54 dm_55 t H locs ht hvm hq_52 hB hk1 hS => ?_)
            obtain ⟨r_56, n_57, z_58, F_59, Er_60, En_61, Ez_62, EF_63⟩ := u
            obtain ⟨hP, hK1, hD1⟩ := hB
            rw [ht] at hP
            have hD := hD1.weaken (fun _ q _ h => hFc _ h)
            obtain ⟨hR64, hC64, hq_52⟩ := hq_52
            obtain ⟨rfl, rfl, rfl, rfl, rfl, rfl, rfl, hq_52⟩ := hq_52
            subst hq_52
            have hP : va_P (dC, dI) kxCl ((xU cI cB cE o r n (va_up (va_up z 15 0) 16 (-1)) F G (Eo 0 0)) ++ (eP cI N Eo Er51 En51 Ez51 EF51)) H := hP
            have hD : va_D A ((xU cI cB cE o r n (va_up (va_up z 15 0) 16 (-1)) F G (Eo 0 0)) ++ (eP cI N Eo Er51 En51 Ez51 EF51)) := hD
            refine W.eq (g2 := F0 m 69 ls []) rfl ?_
            refine lv_aload_n hx hb dX5_sign_69 rfl (lv_at hl 0 rfl) ?_
            have hP := eP_foc hj19 hP
            have hD := eD_foc hj19 hD
            refine va_getN (D := (dC, dI)) (ci := 0) (v := .ref (Eo ((p0 + 1).toNat) 1)) (C := RX0) (T := TX0) (N := 12) hx hb hts kt_X0 hown hK hP 29 rfl rfl 2 (by decide) (va_Nw.use rfl (kx_nf hG kq_19_xouts_70)) (fun _ h9 => h9) rfl dX5_sign_70 ?_
            have he_65 : 0 ≤ Ez51 ((p0 + 1).toNat) 0 ∧ Ez51 ((p0 + 1).toNat) 0 ≤ ((En51 ((p0 + 1).toNat) 0 : Nat) : Int) ∧ ((En51 ((p0 + 1).toNat) 0 : Nat) : Int) ≤ 20 := (hPE51 ((p0 + 1).toNat) hj19).1 0 (by decide)
            have hPc := hP.sub (ws' := (iU cI 20 (Eo ((p0 + 1).toNat) 1) (Er51 ((p0 + 1).toNat) 0) (En51 ((p0 + 1).toNat) 0) (Ez51 ((p0 + 1).toNat) 0) (EF51 ((p0 + 1).toNat) 0))) [30, 31] rfl
            refine xk_pure (va_runV (As := []) (rest := []) ⟨hx, hb, hml, hown, hts⟩ (x_size l dC dI cI cB cE 20 (Eo ((p0 + 1).toNat) 1) (Er51 ((p0 + 1).toNat) 0) (En51 ((p0 + 1).toNat) 0) (Ez51 ((p0 + 1).toNat) 0) (EF51 ((p0 + 1).toNat) 0)  H.size ) (cwV 0 hts (kx_gV kq_18_xrows_40 kq_15_xspan_10 kq_15_xspan_11 kq_13_xints_6 kq_15_xspan_12 rfl) rfl rfl rfl (by decide +kernel) ⟨Nat.le_of_ble_eq_true rfl, Nat.le_of_ble_eq_true rfl⟩) ⟨pPre_blind, va_recv hK hPc (ci := 1) (q0 := 0) rfl rfl, pPre_give hPc hK hG⟩ rfl rfl hl.1 rfl (lv_room (Nat.le_of_ble_eq_true rfl)) dX5_sign_73 ⟨show ((((0 + dn_4) + dn_26) + dn_43) + dn_54) + 0 ≤ 200 from (by omega), show ((((0 + dm_5) + dm_27) + dm_44) + dm_55) + 0 ≤ 60000 from (by omega)⟩) hS (fun z_67 locs hq_66 hS => ?_)
            refine W.eq (g2 := F0 m 76 ls [.int (iz z_67)]) rfl ?_
            try dsimp only at hq_66
            have hq_66 := hq_66.symm
            subst hq_66
            have hP := eP_un0 hj19 hP
            have hD := eD_un0 hj19 hD
            have hxz_68 : -2147483648 ≤ z 15 ∧ z 15 < 2147483648 := hok.2.2.2.1 15
            have hxb_69 : z 15 = 0 ∨ z 15 = 1 := hok.2.2.2.2 15 (by decide)
            have hxz_70 : -2147483648 ≤ z 16 ∧ z 16 < 2147483648 := hok.2.2.2.1 16
            have hok71 : xOk n (va_up (va_up z 15 0) 16 (-1)) F := ((hok.s 15 (by decide) (show -2147483648 ≤ 0 ∧ 0 < 2147483648 by omega) (by omega)).s 16 (by decide) (show -2147483648 ≤ (-1) ∧ (-1) < 2147483648 by omega) (by omega))
            have hfr71 : xFr [15, 16] [] z F (va_up (va_up z 15 0) 16 (-1)) F := ((hfr.uz 15 (by decide) _).uz 16 (by decide) _)
            refine vx_ret ?_
            exact xk_iret (ov := (fun u : (Int) × (Nat → Nat) × (Nat → Nat) × (Nat → Int) × (Nat → Int → Int) × (Nat → Nat → Nat) × (Nat → Nat → Nat) × (Nat → Nat → Int) × (Nat → Nat → Int → Int) => match u with | (q, r', n', z', F', Er', En', Ez', EF') => some (.int (iz q)))) (post := (fun (u : (Int) × (Nat → Nat) × (Nat → Nat) × (Nat → Int) × (Nat → Int → Int) × (Nat → Nat → Nat) × (Nat → Nat → Nat) × (Nat → Nat → Int) × (Nat → Nat → Int → Int)) (dn dm : Nat) => match u with | (q, r', n', z', F', Er', En', Ez', EF') => xR [15, 16] [] [0, 1, 2] [0, 1, 2] N z F En Ez EF n' z' F' En' Ez' EF' ∧ (dn + xg n' ≤ xg n + 50 ∧ dm + xp n' ≤ xp n + 400) ∧ ((((0 ≤ p0 ∧ p0 < z 12) ∧ (0 ≤ p1 ∧ p1 ≤ 255) ∧ Ez ((p0 + 1).toNat) 0 < 20 ∧ q = Ez ((p0 + 1).toNat) 0 + 1 ∧ Ez' ((p0 + 1).toNat) 0 = Ez ((p0 + 1).toNat) 0 + 1 ∧ (∀ j, j ≠ ((p0 + 1).toNat) → Ez' j = Ez j ∧ EF' j = EF j)) ∧ (iAdd 20 (Ez ((p0 + 1).toNat) 0) (EF ((p0 + 1).toNat) 0) (Ez' ((p0 + 1).toNat) 0) (EF' ((p0 + 1).toNat) 0) p1 ∧ iAdd 20 (Ez ((p0 + 1).toNat) 1) (EF ((p0 + 1).toNat) 1) (Ez' ((p0 + 1).toNat) 1) (EF' ((p0 + 1).toNat) 1) (kf_rk p1) ∧ kf_ls (EF' ((p0 + 1).toNat) 2) 0 (Ez' ((p0 + 1).toNat) 2).toNat = kf_kI (EF' ((p0 + 1).toNat) 0) (Ez' ((p0 + 1).toNat) 0) (z 13) (z 14) 0 0 0)) ∧ z' 15 = 0))) (ws := (fun u : (Int) × (Nat → Nat) × (Nat → Nat) × (Nat → Int) × (Nat → Int → Int) × (Nat → Nat → Nat) × (Nat → Nat → Nat) × (Nat → Nat → Int) × (Nat → Nat → Int → Int) => match u with | (q, r', n', z', F', Er', En', Ez', EF') => (xU cI cB cE o r' n' z' F' G (Eo 0 0) ++ eP cI N Eo Er' En' Ez' EF'))) (tys := xT cI cB cE) (z := Ez51 ((p0 + 1).toNat) 0) (Ez51 ((p0 + 1).toNat) 0, r, n, (va_up (va_up z 15 0) 16 (-1)), F, Er51, En51, Ez51, EF51) hx hb hr rfl hlocks rfl hP hD hK hS dX5_sign_76 (fun dn dm hdn hdm => ⟨⟨hok71, hfr71, hPE51, hef51⟩, ⟨by omega, by omega⟩, ⟨⟨⟨by omega, by omega, by omega, by omega, by omega, fun j hj => ⟨by rw [← eEz51]; exact va_up_ne _ _ hj, by rw [← eEF51]; exact va_up_ne _ _ hj⟩⟩, (by rw [hcl51_0, hcF51_0]; exact hd36), (by rw [hcl51_1, hcF51_1]; exact hdr36), (by rw [hcl51_0, hcF51_0, hcl51_2, hcF51_2]; exact hlk49)⟩, rfl⟩⟩) (by omega) (by omega)
          · omega
      · skip
        exact ky_thr_IAE hx hb hlf hown hG hZ hS (hl.1.trans hml.symm) dX5_sign_16 dX5_sign_19 dX5_sign_20 dX5_sign_23 htab (Nat.le_of_ble_eq_true rfl) (Nat.le_of_ble_eq_true rfl) (show (0 + dn_4) + 1 ≤ 200 from (by omega)) (show (0 + dm_5) + 6 ≤ 60000 from (by omega)) hlocks (Or.inr (Or.inl ⟨rfl, by first | trivial | omega⟩)) (fun t hvm h1 h2 => ⟨(r, n, z, F, Er, En, Ez, EF), ⟨hok, xFr.rf, hPE, eFr.rf⟩, hP.kept (fun k q hk => h2 q.1 (hP k q hk).lt), va_K.moved hvm hK, hD⟩) hS.2.2 (by omega) (by omega) (by omega) (by omega)
set_option maxHeartbeats 4000000 in
set_option maxRecDepth 100000 in
theorem y_rule3 (l : Launch) (hlf : l.stackTraces = false) (dC : Nat → ClassId) (dI : Nat → Nat → Nat) (cI cB cE : ClassId) (o r n : Nat → Nat) (z : Nat → Int) (F : Nat → Int → Int) (G : Nat → Option Nat) (N : Nat) (Eo Er En : Nat → Nat → Nat) (Ez : Nat → Nat → Int) (EF : Nat → Nat → Int → Int) (p0 : Int) (p1 : Int) (sz : Nat) (hok : xOk n z F) (hxG : xG N (z 12) G Eo) (hPE : eA N En Ez EF) (hp01 : -2147483648 ≤ p0) (hp02 : p0 < 2147483648) (hp1 : p1 = 0 ∨ p1 = 1) (hsgA : ∀ j : Nat, 1 ≤ j → j < N → ∀ i, 0 ≤ i → i < Ez j 0 → 0 ≤ EF j 0 i ∧ EF j 0 i ≤ 255) : vx_Met l yX5_rule [.code yX5_rule cX5_rule 4 (some .int)] ({ frames := 7, cells := 1000, slots := 60000, locals := 173 }) (va_Pc [.ref (o 15), .int (iz p0), .int (iz p1)] (kx_Pre dC dI (xU cI cB cE o r n z F G (Eo 0 0) ++ eP cI N Eo Er En Ez EF) (xT cI cB cE) sz)) (xQ (fun u : (Int) × (Nat → Nat) × (Nat → Nat) × (Nat → Int) × (Nat → Int → Int) × (Nat → Nat → Nat) × (Nat → Nat → Nat) × (Nat → Nat → Int) × (Nat → Nat → Int → Int) => match u with | (q, r', n', z', F', Er', En', Ez', EF') => some (.int (iz q))) (fun (u : (Int) × (Nat → Nat) × (Nat → Nat) × (Nat → Int) × (Nat → Int → Int) × (Nat → Nat → Nat) × (Nat → Nat → Nat) × (Nat → Nat → Int) × (Nat → Nat → Int → Int)) (dn dm : Nat) => match u with | (q, r', n', z', F', Er', En', Ez', EF') => xR [13, 14, 15, 16] [] [2] [2] N z F En Ez EF n' z' F' En' Ez' EF' ∧ (dn + xg n' ≤ xg n + 720 ∧ dm + xp n' ≤ xp n + 9600) ∧ ((((p0 = 0 ∧ q = z 13 ∧ z' 13 = p1 ∧ z' 14 = z 14) ∨ (p0 = 1 ∧ q = z 14 ∧ z' 14 = p1 ∧ z' 13 = z 13)) ∧ ((z' 13 = z 13 ∧ z' 14 = z 14 ∧ ∀ j, Ez' j = Ez j ∧ EF' j = EF j) ∨ (∀ j : Nat, 1 ≤ j → (j : Int) ≤ z 12 → kf_ls (EF' j 2) 0 (Ez' j 2).toNat = kf_kI (EF j 0) (Ez j 0) (z' 13) (z' 14) 0 0 0))) ∧ (z' 15 = 0 ∨ ((z' 15 = z 15 ∧ z' 13 = z 13 ∧ z' 14 = z 14 ∧ z' 1 = z 1) ∧ F' 1 = F 1 ∧ ∀ j, Ez' j = Ez j)))) (fun u t => kx_At dC dI (va_A (xU cI cB cE o r n z F G (Eo 0 0) ++ eP cI N Eo Er En Ez EF) sz) ((fun u : (Int) × (Nat → Nat) × (Nat → Nat) × (Nat → Int) × (Nat → Int → Int) × (Nat → Nat → Nat) × (Nat → Nat → Nat) × (Nat → Nat → Int) × (Nat → Nat → Int → Int) => match u with | (q, r', n', z', F', Er', En', Ez', EF') => (xU cI cB cE o r' n' z' F' G (Eo 0 0) ++ eP cI N Eo Er' En' Ez' EF')) u) (xT cI cB cE) t) (va_A (xU cI cB cE o r n z F G (Eo 0 0) ++ eP cI N Eo Er En Ez EF) sz)) (yX (fun E => (E = "java/lang/IllegalArgumentException" ∧ (¬ p0 = 0 ∧ ¬ p0 = 1))) 1 6 (fun t => ∃ u : (Nat → Nat) × (Nat → Nat) × (Nat → Int) × (Nat → Int → Int) × (Nat → Nat → Nat) × (Nat → Nat → Nat) × (Nat → Nat → Int) × (Nat → Nat → Int → Int), match u with | (r', n', z', F', Er', En', Ez', EF') => xR [] [] [] [] N z F En Ez EF n' z' F' En' Ez' EF' ∧ kx_At dC dI (va_A (xU cI cB cE o r n z F G (Eo 0 0) ++ eP cI N Eo Er En Ez EF) sz) (xU cI cB cE o r' n' z' F' G (Eo 0 0) ++ eP cI N Eo Er' En' Ez' EF') (xT cI cB cE) t) (va_A (xU cI cB cE o r n z F G (Eo 0 0) ++ eP cI N Eo Er En Ez EF) sz)) 1000 60000 (va_A (xU cI cB cE o r n z F G (Eo 0 0) ++ eP cI N Eo Er En Ez EF) sz) := by
  refine vx_ofW (cc := cX5_rule) (maxL := 4) (ret := (some .int)) (by decide) rfl ?_
  intro p e s m args below meth c s₁ B hml htab hv
  obtain ⟨rfl, hsz, hP, hK, hD0, hG, hZ⟩ := hv
  have hx := B.exec
  have hb := B.bytes
  have hr := B.returns
  have hts := kx_hts (a := ([.ref (o 15), .int (iz p0), .int (iz p1)] : List Value).toArray) hG
  have hown : s.vm.findClass RX5 = some m.cls := findClass_of_methodNamed B.named
  have hlocks := B.notSynchronized
  subst hsz
  have hD := hD0.self (sz := s.heap.size)
  generalize hAe : va_A (xU cI cB cE o r n z F G (Eo 0 0) ++ eP cI N Eo Er En Ez EF) s.heap.size = A at hD hZ ⊢
  have hA : ∀ q : Nat, s.heap.size ≤ q → A q := fun q h => by rw [← hAe]; exact Or.inr h
  have hS : va_S A s.heap s.heap [] := va_S.rf
  have hl := lv_entry ([.ref (o 15), .int (iz p0), .int (iz p1)]) (n := 4) (Nat.le_of_ble_eq_true rfl)
  rw [lg_entry_eq]
  generalize (lg_sl ([.ref (o 15), .int (iz p0), .int (iz p1)]) ++ List.replicate (4 - (lg_sl ([.ref (o 15), .int (iz p0), .int (iz p1)])).length) Slot.unset).toArray = ls at hl ⊢
  obtain ⟨hN1, hN2, hN3, hN4⟩ := hxG
  have hef : eFr [2] [2] En Ez EF En Ez EF := eFr.rf
  have hfr : xFr [13, 14, 15, 16] [] z F z F := xFr.rf
  have hxgl := xg_le n
  have hxpl := xp_le n
  have hl : lv_has ls 4 [(0, .ref (o 15)), (1, .int (iz p0)), (2, .int (iz p1))] := hl
  refine lv_iload_n hx hb dX5_rule_0 rfl (lv_at hl 1 rfl) ?_
  refine ki_if_lt (tgt := 9) hx hb dX5_rule_1 (by decide) (by omega) (by omega) (fun c_1 => ?_) (fun c_1 => ?_)
  · skip
    exact ky_thr_IAE hx hb hlf hown hG hZ hS (hl.1.trans hml.symm) dX5_rule_9 dX5_rule_12 dX5_rule_13 dX5_rule_16 htab (Nat.le_of_ble_eq_true rfl) (Nat.le_of_ble_eq_true rfl) (show 0 + 1 ≤ 1000 from (by omega)) (show 0 + 6 ≤ 60000 from (by omega)) hlocks (⟨rfl, by first | trivial | omega⟩) (fun t hvm h1 h2 => ⟨(r, n, z, F, Er, En, Ez, EF), ⟨hok, xFr.rf, hPE, eFr.rf⟩, hP.kept (fun k q hk => h2 q.1 (hP k q hk).lt), va_K.moved hvm hK, hD⟩) hS.2.2 (by omega) (by omega) (by omega) (by omega)
  · skip
    refine lv_iload_n hx hb dX5_rule_4 rfl (lv_at hl 1 rfl) ?_
    refine lv_iconst (v := iz 1) hx hb dX5_rule_5 (by decide) ?_
    refine ki_icmp_le (tgt := 17) hx hb dX5_rule_6 (by decide) (by omega) (by omega) (by omega) (by omega) (fun c_2 => ?_) (fun c_2 => ?_)
    · skip
      refine lv_iload_n hx hb dX5_rule_17 rfl (lv_at hl 1 rfl) ?_
      refine ki_if_ne (tgt := 28) hx hb dX5_rule_18 (by decide) (by omega) (by omega) (fun c_3 => ?_) (fun c_3 => ?_)
      · skip
        refine lv_aload_n hx hb dX5_rule_28 rfl (lv_at hl 0 rfl) ?_
        have hxz_4 : -2147483648 ≤ z 14 ∧ z 14 < 2147483648 := hok.2.2.2.1 14
        have hxb_5 : z 14 = 0 ∨ z 14 = 1 := hok.2.2.2.2 14 (by decide)
        refine va_get (D := (dC, dI)) (ci := 5) (v := .int (iz (z 14))) (C := RX5) (T := TX5) (N := 16) hx hb hts kt_X5 hown hK hP 0 rfl rfl 4 (by decide) (kx_word hG kq_18_xrows_32 rfl) (fun _ h9 => h9) rfl dX5_rule_29 ?_
        refine lv_istore_n (lv' := [(3, .int (iz (z 14))), (0, .ref (o 15)), (1, .int (iz p0)), (2, .int (iz p1))]) hx hb dX5_rule_32 rfl hl (by decide) rfl (fun ls hl => ?_)
        refine lv_iload_n hx hb dX5_rule_33 rfl (lv_at hl 2 rfl) ?_
        refine ki_if_ne (tgt := 45) hx hb dX5_rule_34 (by decide) (by omega) (by omega) (fun c_6 => ?_) (fun c_6 => ?_)
        · skip
          refine lv_aload_n hx hb dX5_rule_45 rfl (lv_at hl 1 rfl) ?_
          refine lv_iload_n hx hb dX5_rule_46 rfl (lv_at hl 3 rfl) ?_
          refine va_put (D := (dC, dI)) (ci := 5) (v := .int (iz p1)) (ty := .boolean) (C := RX5) (T := TX5) (N := 16) hx hb hts kt_X5 tyX5 tyX5_ok nmX5 hown hK hP hD hS 0 rfl rfl 4 (by decide) (kx_word hG kq_18_xrows_32 rfl) (fun _ h9 => h9) rfl (by decide +kernel) (mz_bool (by omega)).1 (mz_bool (by omega)).2 (Nat.le_of_ble_eq_true rfl) dX5_rule_47 (fun H locs hP hD hS => ?_)
          have hP : va_P (dC, dI) kxCl ((xU cI cB cE o r n (va_up z 14 p1) F G (Eo 0 0)) ++ (eP cI N Eo Er En Ez EF)) H := hP
          have hD : va_D A ((xU cI cB cE o r n (va_up z 14 p1) F G (Eo 0 0)) ++ (eP cI N Eo Er En Ez EF)) := hD
          refine lv_iload_n hx hb dX5_rule_50 rfl (lv_at hl 0 rfl) ?_
          refine lv_iload_n hx hb dX5_rule_51 rfl (lv_at hl 3 rfl) ?_
          refine ki_icmp_eq (tgt := 63) hx hb dX5_rule_52 (by decide) (by omega) (by omega) (by omega) (by omega) (fun c_7 => ?_) (fun c_7 => ?_)
          · skip
            refine lv_iload_n hx hb dX5_rule_63 rfl (lv_at hl 0 rfl) ?_
            refine ki_if_eq (tgt := 71) hx hb dX5_rule_64 (by decide) (by omega) (by omega) (fun c_8 => ?_) (fun c_8 => ?_)
            · skip
              refine lv_iconst (v := iz 0) hx hb dX5_rule_71 (by decide) ?_
              have hok9 : xOk n (va_up z 14 p1) F := (hok.s 14 (by decide) (show -2147483648 ≤ p1 ∧ p1 < 2147483648 by omega) (by omega))
              have hfr9 : xFr [13, 14, 15, 16] [] z F (va_up z 14 p1) F := (hfr.uz 14 (by decide) _)
              have hzo13 : (va_up z 14 p1) 13 = z 13 := rfl
              have hzo14 : (va_up z 14 p1) 14 = p1 := rfl
              refine vx_ret ?_
              exact xk_iret (ov := (fun u : (Int) × (Nat → Nat) × (Nat → Nat) × (Nat → Int) × (Nat → Int → Int) × (Nat → Nat → Nat) × (Nat → Nat → Nat) × (Nat → Nat → Int) × (Nat → Nat → Int → Int) => match u with | (q, r', n', z', F', Er', En', Ez', EF') => some (.int (iz q)))) (post := (fun (u : (Int) × (Nat → Nat) × (Nat → Nat) × (Nat → Int) × (Nat → Int → Int) × (Nat → Nat → Nat) × (Nat → Nat → Nat) × (Nat → Nat → Int) × (Nat → Nat → Int → Int)) (dn dm : Nat) => match u with | (q, r', n', z', F', Er', En', Ez', EF') => xR [13, 14, 15, 16] [] [2] [2] N z F En Ez EF n' z' F' En' Ez' EF' ∧ (dn + xg n' ≤ xg n + 720 ∧ dm + xp n' ≤ xp n + 9600) ∧ ((((p0 = 0 ∧ q = z 13 ∧ z' 13 = p1 ∧ z' 14 = z 14) ∨ (p0 = 1 ∧ q = z 14 ∧ z' 14 = p1 ∧ z' 13 = z 13)) ∧ ((z' 13 = z 13 ∧ z' 14 = z 14 ∧ ∀ j, Ez' j = Ez j ∧ EF' j = EF j) ∨ (∀ j : Nat, 1 ≤ j → (j : Int) ≤ z 12 → kf_ls (EF' j 2) 0 (Ez' j 2).toNat = kf_kI (EF j 0) (Ez j 0) (z' 13) (z' 14) 0 0 0))) ∧ (z' 15 = 0 ∨ ((z' 15 = z 15 ∧ z' 13 = z 13 ∧ z' 14 = z 14 ∧ z' 1 = z 1) ∧ F' 1 = F 1 ∧ ∀ j, Ez' j = Ez j))))) (ws := (fun u : (Int) × (Nat → Nat) × (Nat → Nat) × (Nat → Int) × (Nat → Int → Int) × (Nat → Nat → Nat) × (Nat → Nat → Nat) × (Nat → Nat → Int) × (Nat → Nat → Int → Int) => match u with | (q, r', n', z', F', Er', En', Ez', EF') => (xU cI cB cE o r' n' z' F' G (Eo 0 0) ++ eP cI N Eo Er' En' Ez' EF'))) (tys := xT cI cB cE) (z := 0) (0, r, n, (va_up z 14 p1), F, Er, En, Ez, EF) hx hb hr rfl hlocks rfl hP hD hK hS dX5_rule_72 (fun dn dm hdn hdm => ⟨⟨hok9, hfr9, hPE, hef⟩, ⟨by omega, by omega⟩, ⟨⟨by omega, Or.inl ⟨by omega, by omega, fun j => ⟨rfl, rfl⟩⟩⟩, Or.inr ⟨⟨rfl, by omega, by omega, rfl⟩, rfl, fun j => rfl⟩⟩⟩) (by omega) (by omega)
            · skip
              refine lv_iconst (v := iz 1) hx hb dX5_rule_67 (by decide) ?_
              refine lv_goto (tgt := 72) hx hb dX5_rule_68 (by decide) ?_
              have hok10 : xOk n (va_up z 14 p1) F := (hok.s 14 (by decide) (show -2147483648 ≤ p1 ∧ p1 < 2147483648 by omega) (by omega))
              have hfr10 : xFr [13, 14, 15, 16] [] z F (va_up z 14 p1) F := (hfr.uz 14 (by decide) _)
              have hzo13 : (va_up z 14 p1) 13 = z 13 := rfl
              have hzo14 : (va_up z 14 p1) 14 = p1 := rfl
              refine vx_ret ?_
              exact xk_iret (ov := (fun u : (Int) × (Nat → Nat) × (Nat → Nat) × (Nat → Int) × (Nat → Int → Int) × (Nat → Nat → Nat) × (Nat → Nat → Nat) × (Nat → Nat → Int) × (Nat → Nat → Int → Int) => match u with | (q, r', n', z', F', Er', En', Ez', EF') => some (.int (iz q)))) (post := (fun (u : (Int) × (Nat → Nat) × (Nat → Nat) × (Nat → Int) × (Nat → Int → Int) × (Nat → Nat → Nat) × (Nat → Nat → Nat) × (Nat → Nat → Int) × (Nat → Nat → Int → Int)) (dn dm : Nat) => match u with | (q, r', n', z', F', Er', En', Ez', EF') => xR [13, 14, 15, 16] [] [2] [2] N z F En Ez EF n' z' F' En' Ez' EF' ∧ (dn + xg n' ≤ xg n + 720 ∧ dm + xp n' ≤ xp n + 9600) ∧ ((((p0 = 0 ∧ q = z 13 ∧ z' 13 = p1 ∧ z' 14 = z 14) ∨ (p0 = 1 ∧ q = z 14 ∧ z' 14 = p1 ∧ z' 13 = z 13)) ∧ ((z' 13 = z 13 ∧ z' 14 = z 14 ∧ ∀ j, Ez' j = Ez j ∧ EF' j = EF j) ∨ (∀ j : Nat, 1 ≤ j → (j : Int) ≤ z 12 → kf_ls (EF' j 2) 0 (Ez' j 2).toNat = kf_kI (EF j 0) (Ez j 0) (z' 13) (z' 14) 0 0 0))) ∧ (z' 15 = 0 ∨ ((z' 15 = z 15 ∧ z' 13 = z 13 ∧ z' 14 = z 14 ∧ z' 1 = z 1) ∧ F' 1 = F 1 ∧ ∀ j, Ez' j = Ez j))))) (ws := (fun u : (Int) × (Nat → Nat) × (Nat → Nat) × (Nat → Int) × (Nat → Int → Int) × (Nat → Nat → Nat) × (Nat → Nat → Nat) × (Nat → Nat → Int) × (Nat → Nat → Int → Int) => match u with | (q, r', n', z', F', Er', En', Ez', EF') => (xU cI cB cE o r' n' z' F' G (Eo 0 0) ++ eP cI N Eo Er' En' Ez' EF'))) (tys := xT cI cB cE) (z := 1) (1, r, n, (va_up z 14 p1), F, Er, En, Ez, EF) hx hb hr rfl hlocks rfl hP hD hK hS dX5_rule_72 (fun dn dm hdn hdm => ⟨⟨hok10, hfr10, hPE, hef⟩, ⟨by omega, by omega⟩, ⟨⟨by omega, Or.inl ⟨by omega, by omega, fun j => ⟨rfl, rfl⟩⟩⟩, Or.inr ⟨⟨rfl, by omega, by omega, rfl⟩, rfl, fun j => rfl⟩⟩⟩) (by omega) (by omega)
          · skip
            refine lv_aload_n hx hb dX5_rule_55 rfl (lv_at hl 1 rfl) ?_
            have hok11 : xOk n (va_up z 14 p1) F := (hok.s 14 (by decide) (show -2147483648 ≤ p1 ∧ p1 < 2147483648 by omega) (by omega))
            have hfr11 : xFr [13, 14, 15, 16] [] z F (va_up z 14 p1) F := (hfr.uz 14 (by decide) _)
            have hxz_12 : -2147483648 ≤ z 12 ∧ z 12 < 2147483648 := hok.2.2.2.1 12
            have hxG9 : xG N (z 12) G Eo := ⟨by omega, by omega, by omega, fun e9 h9 => hN4 e9 (by omega)⟩
            have hP : va_P (dC, dI) kxCl (xU cI cB cE o r n (va_up z 14 p1) F G (Eo 0 0) ++ eP cI N Eo Er En Ez EF) H := hP
            have hD : va_D A (xU cI cB cE o r n (va_up z 14 p1) F G (Eo 0 0) ++ eP cI N Eo Er En Ez EF) := hD
            have hFc := xw_free hD hS hA
            refine xk_call (va_runV (As := []) (rest := []) ⟨hx, hb, hml, hown, hts⟩ (y_makeKeys2 l dC dI cI cB cE o r n (va_up z 14 p1) F G N Eo Er En Ez EF  H.size hok11 hxG9 hPE hsgA) (cwV 0 hts (kx_gV kq_21_xcalls_2 kq_21_xcalls_3 kq_21_xcalls_4 kq_18_xrows_4 kq_21_xcalls_5 rfl) rfl rfl rfl (by decide +kernel) ⟨Nat.le_of_ble_eq_true rfl, Nat.le_of_ble_eq_true rfl⟩) ⟨kx_blind, va_recv hK hP (ci := 5) (q0 := 0) rfl rfl, kx_give (ws := []) (tys := []) hP hD hK hG hZ hS hFc⟩ rfl rfl hl.1 rfl (lv_room (Nat.le_of_ble_eq_true rfl)) dX5_rule_56 ⟨show 0 + 900 ≤ 1000 from (by omega), show 0 + 55000 ≤ 60000 from (by omega)⟩) hS (fun q _ h => hFc q h) hFc (fun u dn_15 dm_16 t H locs ht hvm hq_13 hB hk1 hS => ?_)
            obtain ⟨r_17, n_18, z_19, F_20, Er_21, En_22, Ez_23, EF_24⟩ := u
            obtain ⟨hP, hK1, hD1⟩ := hB
            rw [ht] at hP
            have hD := hD1.weaken (fun _ q _ h => hFc _ h)
            obtain ⟨hR25, hC25, hq_13⟩ := hq_13
            have hok25 := hR25.1
            have hfr25 := hfr11.tr (hR25.2.1.mono (S' := [13, 14, 15, 16]) (T' := []) (by decide) (by decide))
            have hPE25 := hR25.2.2.1
            have hef25 := hef.tr (hR25.2.2.2.mono (S' := [2]) (T' := [2]) (by decide) (by decide))
            have hz25 : z_19 12 = (z 12) := hR25.2.1.1 12 (by decide)
            have hkr25_13 : z_19 13 = z 13 := hR25.2.1.1 13 (by decide)
            have hkr25_14 : z_19 14 = p1 := hR25.2.1.1 14 (by decide)
            refine W.eq (g2 := F0 m 59 ls []) rfl ?_
            try dsimp only at hq_13
            try simp (decide := true) only [va_ev, ↓reduceIte] at hq_13
            refine lv_aload_n hx hb dX5_rule_59 rfl (lv_at hl 1 rfl) ?_
            have hxz_26 : -2147483648 ≤ z_19 12 ∧ z_19 12 < 2147483648 := hok25.2.2.2.1 12
            have hxG9 : xG N (z_19 12) G Eo := ⟨by omega, by omega, by omega, fun e9 h9 => hN4 e9 (by omega)⟩
            have hP : va_P (dC, dI) kxCl (xU cI cB cE o r_17 n_18 z_19 F_20 G (Eo 0 0) ++ eP cI N Eo Er_21 En_22 Ez_23 EF_24) H := hP
            have hD : va_D A (xU cI cB cE o r_17 n_18 z_19 F_20 G (Eo 0 0) ++ eP cI N Eo Er_21 En_22 Ez_23 EF_24) := hD
            have hFc := xw_free hD hS hA
            refine xk_call (va_runV (As := []) (rest := []) ⟨hx, hb, hml, hown, hts⟩ (y_forgetRows l dC dI cI cB cE o r_17 n_18 z_19 F_20 G N Eo Er_21 En_22 Ez_23 EF_24  H.size hok25 hxG9 hPE25 ) (cwV 0 hts (kx_gV kq_21_xcalls_6 kq_21_xcalls_7 kq_21_xcalls_8 kq_18_xrows_4 kq_21_xcalls_9 rfl) rfl rfl rfl (by decide +kernel) ⟨Nat.le_of_ble_eq_true rfl, Nat.le_of_ble_eq_true rfl⟩) ⟨kx_blind, va_recv hK hP (ci := 5) (q0 := 0) rfl rfl, kx_give (ws := []) (tys := []) hP hD hK hG hZ hS hFc⟩ rfl rfl hl.1 rfl (lv_room (Nat.le_of_ble_eq_true rfl)) dX5_rule_60 ⟨show (0 + dn_15) + 0 ≤ 1000 from (by omega), show (0 + dm_16) + 0 ≤ 60000 from (by omega)⟩) hS (fun q _ h => hFc q h) hFc (fun u dn_29 dm_30 t H locs ht hvm hq_27 hB hk1 hS => ?_)
            obtain ⟨r_31, n_32, z_33, F_34, Er_35, En_36, Ez_37, EF_38⟩ := u
            obtain ⟨hP, hK1, hD1⟩ := hB
            rw [ht] at hP
            have hD := hD1.weaken (fun _ q _ h => hFc _ h)
            obtain ⟨hR39, hC39, hq_27⟩ := hq_27
            obtain ⟨rfl, rfl, rfl, rfl, rfl, rfl, rfl, hq_27⟩ := hq_27
            subst hq_27
            have hP : va_P (dC, dI) kxCl ((xU cI cB cE o r_17 n_18 (va_up (va_up z_19 15 0) 16 (-1)) F_20 G (Eo 0 0)) ++ (eP cI N Eo Er_21 En_22 Ez_23 EF_24)) H := hP
            have hD : va_D A ((xU cI cB cE o r_17 n_18 (va_up (va_up z_19 15 0) 16 (-1)) F_20 G (Eo 0 0)) ++ (eP cI N Eo Er_21 En_22 Ez_23 EF_24)) := hD
            refine W.eq (g2 := F0 m 63 ls []) rfl ?_
            refine lv_iload_n hx hb dX5_rule_63 rfl (lv_at hl 0 rfl) ?_
            refine ki_if_eq (tgt := 71) hx hb dX5_rule_64 (by decide) (by omega) (by omega) (fun c_40 => ?_) (fun c_40 => ?_)
            · skip
              refine lv_iconst (v := iz 0) hx hb dX5_rule_71 (by decide) ?_
              have hxz_41 : -2147483648 ≤ z_19 15 ∧ z_19 15 < 2147483648 := hok25.2.2.2.1 15
              have hxb_42 : z_19 15 = 0 ∨ z_19 15 = 1 := hok25.2.2.2.2 15 (by decide)
              have hxz_43 : -2147483648 ≤ z_19 16 ∧ z_19 16 < 2147483648 := hok25.2.2.2.1 16
              have hok44 : xOk n_18 (va_up (va_up z_19 15 0) 16 (-1)) F_20 := ((hok25.s 15 (by decide) (show -2147483648 ≤ 0 ∧ 0 < 2147483648 by omega) (by omega)).s 16 (by decide) (show -2147483648 ≤ (-1) ∧ (-1) < 2147483648 by omega) (by omega))
              have hfr44 : xFr [13, 14, 15, 16] [] z F (va_up (va_up z_19 15 0) 16 (-1)) F_20 := ((hfr25.uz 15 (by decide) _).uz 16 (by decide) _)
              have hzo13 : (va_up (va_up z_19 15 0) 16 (-1)) 13 = z_19 13 := rfl
              have hzo14 : (va_up (va_up z_19 15 0) 16 (-1)) 14 = z_19 14 := rfl
              refine vx_ret ?_
              exact xk_iret (ov := (fun u : (Int) × (Nat → Nat) × (Nat → Nat) × (Nat → Int) × (Nat → Int → Int) × (Nat → Nat → Nat) × (Nat → Nat → Nat) × (Nat → Nat → Int) × (Nat → Nat → Int → Int) => match u with | (q, r', n', z', F', Er', En', Ez', EF') => some (.int (iz q)))) (post := (fun (u : (Int) × (Nat → Nat) × (Nat → Nat) × (Nat → Int) × (Nat → Int → Int) × (Nat → Nat → Nat) × (Nat → Nat → Nat) × (Nat → Nat → Int) × (Nat → Nat → Int → Int)) (dn dm : Nat) => match u with | (q, r', n', z', F', Er', En', Ez', EF') => xR [13, 14, 15, 16] [] [2] [2] N z F En Ez EF n' z' F' En' Ez' EF' ∧ (dn + xg n' ≤ xg n + 720 ∧ dm + xp n' ≤ xp n + 9600) ∧ ((((p0 = 0 ∧ q = z 13 ∧ z' 13 = p1 ∧ z' 14 = z 14) ∨ (p0 = 1 ∧ q = z 14 ∧ z' 14 = p1 ∧ z' 13 = z 13)) ∧ ((z' 13 = z 13 ∧ z' 14 = z 14 ∧ ∀ j, Ez' j = Ez j ∧ EF' j = EF j) ∨ (∀ j : Nat, 1 ≤ j → (j : Int) ≤ z 12 → kf_ls (EF' j 2) 0 (Ez' j 2).toNat = kf_kI (EF j 0) (Ez j 0) (z' 13) (z' 14) 0 0 0))) ∧ (z' 15 = 0 ∨ ((z' 15 = z 15 ∧ z' 13 = z 13 ∧ z' 14 = z 14 ∧ z' 1 = z 1) ∧ F' 1 = F 1 ∧ ∀ j, Ez' j = Ez j))))) (ws := (fun u : (Int) × (Nat → Nat) × (Nat → Nat) × (Nat → Int) × (Nat → Int → Int) × (Nat → Nat → Nat) × (Nat → Nat → Nat) × (Nat → Nat → Int) × (Nat → Nat → Int → Int) => match u with | (q, r', n', z', F', Er', En', Ez', EF') => (xU cI cB cE o r' n' z' F' G (Eo 0 0) ++ eP cI N Eo Er' En' Ez' EF'))) (tys := xT cI cB cE) (z := 0) (0, r_17, n_18, (va_up (va_up z_19 15 0) 16 (-1)), F_20, Er_21, En_22, Ez_23, EF_24) hx hb hr rfl hlocks rfl hP hD hK hS dX5_rule_72 (fun dn dm hdn hdm => ⟨⟨hok44, hfr44, hPE25, hef25⟩, ⟨by omega, by omega⟩, ⟨⟨by omega, Or.inr (fun j h1 h2 => by rw [hzo13, hzo14, hkr25_13, hkr25_14]; exact hq_13 j h1 h2)⟩, Or.inl rfl⟩⟩) (by omega) (by omega)
            · skip
              refine lv_iconst (v := iz 1) hx hb dX5_rule_67 (by decide) ?_
              refine lv_goto (tgt := 72) hx hb dX5_rule_68 (by decide) ?_
              have hxz_45 : -2147483648 ≤ z_19 15 ∧ z_19 15 < 2147483648 := hok25.2.2.2.1 15
              have hxb_46 : z_19 15 = 0 ∨ z_19 15 = 1 := hok25.2.2.2.2 15 (by decide)
              have hxz_47 : -2147483648 ≤ z_19 16 ∧ z_19 16 < 2147483648 := hok25.2.2.2.1 16
              have hok48 : xOk n_18 (va_up (va_up z_19 15 0) 16 (-1)) F_20 := ((hok25.s 15 (by decide) (show -2147483648 ≤ 0 ∧ 0 < 2147483648 by omega) (by omega)).s 16 (by decide) (show -2147483648 ≤ (-1) ∧ (-1) < 2147483648 by omega) (by omega))
              have hfr48 : xFr [13, 14, 15, 16] [] z F (va_up (va_up z_19 15 0) 16 (-1)) F_20 := ((hfr25.uz 15 (by decide) _).uz 16 (by decide) _)
              have hzo13 : (va_up (va_up z_19 15 0) 16 (-1)) 13 = z_19 13 := rfl
              have hzo14 : (va_up (va_up z_19 15 0) 16 (-1)) 14 = z_19 14 := rfl
              refine vx_ret ?_
              exact xk_iret (ov := (fun u : (Int) × (Nat → Nat) × (Nat → Nat) × (Nat → Int) × (Nat → Int → Int) × (Nat → Nat → Nat) × (Nat → Nat → Nat) × (Nat → Nat → Int) × (Nat → Nat → Int → Int) => match u with | (q, r', n', z', F', Er', En', Ez', EF') => some (.int (iz q)))) (post := (fun (u : (Int) × (Nat → Nat) × (Nat → Nat) × (Nat → Int) × (Nat → Int → Int) × (Nat → Nat → Nat) × (Nat → Nat → Nat) × (Nat → Nat → Int) × (Nat → Nat → Int → Int)) (dn dm : Nat) => match u with | (q, r', n', z', F', Er', En', Ez', EF') => xR [13, 14, 15, 16] [] [2] [2] N z F En Ez EF n' z' F' En' Ez' EF' ∧ (dn + xg n' ≤ xg n + 720 ∧ dm + xp n' ≤ xp n + 9600) ∧ ((((p0 = 0 ∧ q = z 13 ∧ z' 13 = p1 ∧ z' 14 = z 14) ∨ (p0 = 1 ∧ q = z 14 ∧ z' 14 = p1 ∧ z' 13 = z 13)) ∧ ((z' 13 = z 13 ∧ z' 14 = z 14 ∧ ∀ j, Ez' j = Ez j ∧ EF' j = EF j) ∨ (∀ j : Nat, 1 ≤ j → (j : Int) ≤ z 12 → kf_ls (EF' j 2) 0 (Ez' j 2).toNat = kf_kI (EF j 0) (Ez j 0) (z' 13) (z' 14) 0 0 0))) ∧ (z' 15 = 0 ∨ ((z' 15 = z 15 ∧ z' 13 = z 13 ∧ z' 14 = z 14 ∧ z' 1 = z 1) ∧ F' 1 = F 1 ∧ ∀ j, Ez' j = Ez j))))) (ws := (fun u : (Int) × (Nat → Nat) × (Nat → Nat) × (Nat → Int) × (Nat → Int → Int) × (Nat → Nat → Nat) × (Nat → Nat → Nat) × (Nat → Nat → Int) × (Nat → Nat → Int → Int) => match u with | (q, r', n', z', F', Er', En', Ez', EF') => (xU cI cB cE o r' n' z' F' G (Eo 0 0) ++ eP cI N Eo Er' En' Ez' EF'))) (tys := xT cI cB cE) (z := 1) (1, r_17, n_18, (va_up (va_up z_19 15 0) 16 (-1)), F_20, Er_21, En_22, Ez_23, EF_24) hx hb hr rfl hlocks rfl hP hD hK hS dX5_rule_72 (fun dn dm hdn hdm => ⟨⟨hok48, hfr48, hPE25, hef25⟩, ⟨by omega, by omega⟩, ⟨⟨by omega, Or.inr (fun j h1 h2 => by rw [hzo13, hzo14, hkr25_13, hkr25_14]; exact hq_13 j h1 h2)⟩, Or.inl rfl⟩⟩) (by omega) (by omega)
        · omega
      · skip
        refine lv_aload_n hx hb dX5_rule_21 rfl (lv_at hl 0 rfl) ?_
        have hxz_49 : -2147483648 ≤ z 13 ∧ z 13 < 2147483648 := hok.2.2.2.1 13
        have hxb_50 : z 13 = 0 ∨ z 13 = 1 := hok.2.2.2.2 13 (by decide)
        refine va_get (D := (dC, dI)) (ci := 5) (v := .int (iz (z 13))) (C := RX5) (T := TX5) (N := 16) hx hb hts kt_X5 hown hK hP 0 rfl rfl 3 (by decide) (kx_word hG kq_18_xrows_31 rfl) (fun _ h9 => h9) rfl dX5_rule_22 ?_
        refine lv_goto (tgt := 32) hx hb dX5_rule_25 (by decide) ?_
        refine lv_istore_n (lv' := [(3, .int (iz (z 13))), (0, .ref (o 15)), (1, .int (iz p0)), (2, .int (iz p1))]) hx hb dX5_rule_32 rfl hl (by decide) rfl (fun ls hl => ?_)
        refine lv_iload_n hx hb dX5_rule_33 rfl (lv_at hl 2 rfl) ?_
        refine ki_if_ne (tgt := 45) hx hb dX5_rule_34 (by decide) (by omega) (by omega) (fun c_51 => ?_) (fun c_51 => ?_)
        · omega
        · skip
          refine lv_aload_n hx hb dX5_rule_37 rfl (lv_at hl 1 rfl) ?_
          refine lv_iload_n hx hb dX5_rule_38 rfl (lv_at hl 3 rfl) ?_
          refine va_put (D := (dC, dI)) (ci := 5) (v := .int (iz p1)) (ty := .boolean) (C := RX5) (T := TX5) (N := 16) hx hb hts kt_X5 tyX5 tyX5_ok nmX5 hown hK hP hD hS 0 rfl rfl 3 (by decide) (kx_word hG kq_18_xrows_31 rfl) (fun _ h9 => h9) rfl (by decide +kernel) (mz_bool (by omega)).1 (mz_bool (by omega)).2 (Nat.le_of_ble_eq_true rfl) dX5_rule_39 (fun H locs hP hD hS => ?_)
          have hP : va_P (dC, dI) kxCl ((xU cI cB cE o r n (va_up z 13 p1) F G (Eo 0 0)) ++ (eP cI N Eo Er En Ez EF)) H := hP
          have hD : va_D A ((xU cI cB cE o r n (va_up z 13 p1) F G (Eo 0 0)) ++ (eP cI N Eo Er En Ez EF)) := hD
          refine lv_goto (tgt := 50) hx hb dX5_rule_42 (by decide) ?_
          refine lv_iload_n hx hb dX5_rule_50 rfl (lv_at hl 0 rfl) ?_
          refine lv_iload_n hx hb dX5_rule_51 rfl (lv_at hl 3 rfl) ?_
          refine ki_icmp_eq (tgt := 63) hx hb dX5_rule_52 (by decide) (by omega) (by omega) (by omega) (by omega) (fun c_52 => ?_) (fun c_52 => ?_)
          · skip
            refine lv_iload_n hx hb dX5_rule_63 rfl (lv_at hl 0 rfl) ?_
            refine ki_if_eq (tgt := 71) hx hb dX5_rule_64 (by decide) (by omega) (by omega) (fun c_53 => ?_) (fun c_53 => ?_)
            · skip
              refine lv_iconst (v := iz 0) hx hb dX5_rule_71 (by decide) ?_
              have hok54 : xOk n (va_up z 13 p1) F := (hok.s 13 (by decide) (show -2147483648 ≤ p1 ∧ p1 < 2147483648 by omega) (by omega))
              have hfr54 : xFr [13, 14, 15, 16] [] z F (va_up z 13 p1) F := (hfr.uz 13 (by decide) _)
              have hzo13 : (va_up z 13 p1) 13 = p1 := rfl
              have hzo14 : (va_up z 13 p1) 14 = z 14 := rfl
              refine vx_ret ?_
              exact xk_iret (ov := (fun u : (Int) × (Nat → Nat) × (Nat → Nat) × (Nat → Int) × (Nat → Int → Int) × (Nat → Nat → Nat) × (Nat → Nat → Nat) × (Nat → Nat → Int) × (Nat → Nat → Int → Int) => match u with | (q, r', n', z', F', Er', En', Ez', EF') => some (.int (iz q)))) (post := (fun (u : (Int) × (Nat → Nat) × (Nat → Nat) × (Nat → Int) × (Nat → Int → Int) × (Nat → Nat → Nat) × (Nat → Nat → Nat) × (Nat → Nat → Int) × (Nat → Nat → Int → Int)) (dn dm : Nat) => match u with | (q, r', n', z', F', Er', En', Ez', EF') => xR [13, 14, 15, 16] [] [2] [2] N z F En Ez EF n' z' F' En' Ez' EF' ∧ (dn + xg n' ≤ xg n + 720 ∧ dm + xp n' ≤ xp n + 9600) ∧ ((((p0 = 0 ∧ q = z 13 ∧ z' 13 = p1 ∧ z' 14 = z 14) ∨ (p0 = 1 ∧ q = z 14 ∧ z' 14 = p1 ∧ z' 13 = z 13)) ∧ ((z' 13 = z 13 ∧ z' 14 = z 14 ∧ ∀ j, Ez' j = Ez j ∧ EF' j = EF j) ∨ (∀ j : Nat, 1 ≤ j → (j : Int) ≤ z 12 → kf_ls (EF' j 2) 0 (Ez' j 2).toNat = kf_kI (EF j 0) (Ez j 0) (z' 13) (z' 14) 0 0 0))) ∧ (z' 15 = 0 ∨ ((z' 15 = z 15 ∧ z' 13 = z 13 ∧ z' 14 = z 14 ∧ z' 1 = z 1) ∧ F' 1 = F 1 ∧ ∀ j, Ez' j = Ez j))))) (ws := (fun u : (Int) × (Nat → Nat) × (Nat → Nat) × (Nat → Int) × (Nat → Int → Int) × (Nat → Nat → Nat) × (Nat → Nat → Nat) × (Nat → Nat → Int) × (Nat → Nat → Int → Int) => match u with | (q, r', n', z', F', Er', En', Ez', EF') => (xU cI cB cE o r' n' z' F' G (Eo 0 0) ++ eP cI N Eo Er' En' Ez' EF'))) (tys := xT cI cB cE) (z := 0) (0, r, n, (va_up z 13 p1), F, Er, En, Ez, EF) hx hb hr rfl hlocks rfl hP hD hK hS dX5_rule_72 (fun dn dm hdn hdm => ⟨⟨hok54, hfr54, hPE, hef⟩, ⟨by omega, by omega⟩, ⟨⟨by omega, Or.inl ⟨by omega, by omega, fun j => ⟨rfl, rfl⟩⟩⟩, Or.inr ⟨⟨rfl, by omega, by omega, rfl⟩, rfl, fun j => rfl⟩⟩⟩) (by omega) (by omega)
            · skip
              refine lv_iconst (v := iz 1) hx hb dX5_rule_67 (by decide) ?_
              refine lv_goto (tgt := 72) hx hb dX5_rule_68 (by decide) ?_
              have hok55 : xOk n (va_up z 13 p1) F := (hok.s 13 (by decide) (show -2147483648 ≤ p1 ∧ p1 < 2147483648 by omega) (by omega))
              have hfr55 : xFr [13, 14, 15, 16] [] z F (va_up z 13 p1) F := (hfr.uz 13 (by decide) _)
              have hzo13 : (va_up z 13 p1) 13 = p1 := rfl
              have hzo14 : (va_up z 13 p1) 14 = z 14 := rfl
              refine vx_ret ?_
              exact xk_iret (ov := (fun u : (Int) × (Nat → Nat) × (Nat → Nat) × (Nat → Int) × (Nat → Int → Int) × (Nat → Nat → Nat) × (Nat → Nat → Nat) × (Nat → Nat → Int) × (Nat → Nat → Int → Int) => match u with | (q, r', n', z', F', Er', En', Ez', EF') => some (.int (iz q)))) (post := (fun (u : (Int) × (Nat → Nat) × (Nat → Nat) × (Nat → Int) × (Nat → Int → Int) × (Nat → Nat → Nat) × (Nat → Nat → Nat) × (Nat → Nat → Int) × (Nat → Nat → Int → Int)) (dn dm : Nat) => match u with | (q, r', n', z', F', Er', En', Ez', EF') => xR [13, 14, 15, 16] [] [2] [2] N z F En Ez EF n' z' F' En' Ez' EF' ∧ (dn + xg n' ≤ xg n + 720 ∧ dm + xp n' ≤ xp n + 9600) ∧ ((((p0 = 0 ∧ q = z 13 ∧ z' 13 = p1 ∧ z' 14 = z 14) ∨ (p0 = 1 ∧ q = z 14 ∧ z' 14 = p1 ∧ z' 13 = z 13)) ∧ ((z' 13 = z 13 ∧ z' 14 = z 14 ∧ ∀ j, Ez' j = Ez j ∧ EF' j = EF j) ∨ (∀ j : Nat, 1 ≤ j → (j : Int) ≤ z 12 → kf_ls (EF' j 2) 0 (Ez' j 2).toNat = kf_kI (EF j 0) (Ez j 0) (z' 13) (z' 14) 0 0 0))) ∧ (z' 15 = 0 ∨ ((z' 15 = z 15 ∧ z' 13 = z 13 ∧ z' 14 = z 14 ∧ z' 1 = z 1) ∧ F' 1 = F 1 ∧ ∀ j, Ez' j = Ez j))))) (ws := (fun u : (Int) × (Nat → Nat) × (Nat → Nat) × (Nat → Int) × (Nat → Int → Int) × (Nat → Nat → Nat) × (Nat → Nat → Nat) × (Nat → Nat → Int) × (Nat → Nat → Int → Int) => match u with | (q, r', n', z', F', Er', En', Ez', EF') => (xU cI cB cE o r' n' z' F' G (Eo 0 0) ++ eP cI N Eo Er' En' Ez' EF'))) (tys := xT cI cB cE) (z := 1) (1, r, n, (va_up z 13 p1), F, Er, En, Ez, EF) hx hb hr rfl hlocks rfl hP hD hK hS dX5_rule_72 (fun dn dm hdn hdm => ⟨⟨hok55, hfr55, hPE, hef⟩, ⟨by omega, by omega⟩, ⟨⟨by omega, Or.inl ⟨by omega, by omega, fun j => ⟨rfl, rfl⟩⟩⟩, Or.inr ⟨⟨rfl, by omega, by omega, rfl⟩, rfl, fun j => rfl⟩⟩⟩) (by omega) (by omega)
          · skip
            refine lv_aload_n hx hb dX5_rule_55 rfl (lv_at hl 1 rfl) ?_
            have hok56 : xOk n (va_up z 13 p1) F := (hok.s 13 (by decide) (show -2147483648 ≤ p1 ∧ p1 < 2147483648 by omega) (by omega))
            have hfr56 : xFr [13, 14, 15, 16] [] z F (va_up z 13 p1) F := (hfr.uz 13 (by decide) _)
            have hxz_57 : -2147483648 ≤ z 12 ∧ z 12 < 2147483648 := hok.2.2.2.1 12
            have hxG9 : xG N (z 12) G Eo := ⟨by omega, by omega, by omega, fun e9 h9 => hN4 e9 (by omega)⟩
            have hP : va_P (dC, dI) kxCl (xU cI cB cE o r n (va_up z 13 p1) F G (Eo 0 0) ++ eP cI N Eo Er En Ez EF) H := hP
            have hD : va_D A (xU cI cB cE o r n (va_up z 13 p1) F G (Eo 0 0) ++ eP cI N Eo Er En Ez EF) := hD
            have hFc := xw_free hD hS hA
            refine xk_call (va_runV (As := []) (rest := []) ⟨hx, hb, hml, hown, hts⟩ (y_makeKeys2 l dC dI cI cB cE o r n (va_up z 13 p1) F G N Eo Er En Ez EF  H.size hok56 hxG9 hPE hsgA) (cwV 0 hts (kx_gV kq_21_xcalls_2 kq_21_xcalls_3 kq_21_xcalls_4 kq_18_xrows_4 kq_21_xcalls_5 rfl) rfl rfl rfl (by decide +kernel) ⟨Nat.le_of_ble_eq_true rfl, Nat.le_of_ble_eq_true rfl⟩) ⟨kx_blind, va_recv hK hP (ci := 5) (q0 := 0) rfl rfl, kx_give (ws := []) (tys := []) hP hD hK hG hZ hS hFc⟩ rfl rfl hl.1 rfl (lv_room (Nat.le_of_ble_eq_true rfl)) dX5_rule_56 ⟨show 0 + 900 ≤ 1000 from (by omega), show 0 + 55000 ≤ 60000 from (by omega)⟩) hS (fun q _ h => hFc q h) hFc (fun u dn_60 dm_61 t H locs ht hvm hq_58 hB hk1 hS => ?_)
            obtain ⟨r_62, n_63, z_64, F_65, Er_66, En_67, Ez_68, EF_69⟩ := u
            obtain ⟨hP, hK1, hD1⟩ := hB
            rw [ht] at hP
            have hD := hD1.weaken (fun _ q _ h => hFc _ h)
            obtain ⟨hR70, hC70, hq_58⟩ := hq_58
            have hok70 := hR70.1
            have hfr70 := hfr56.tr (hR70.2.1.mono (S' := [13, 14, 15, 16]) (T' := []) (by decide) (by decide))
            have hPE70 := hR70.2.2.1
            have hef70 := hef.tr (hR70.2.2.2.mono (S' := [2]) (T' := [2]) (by decide) (by decide))
            have hz70 : z_64 12 = (z 12) := hR70.2.1.1 12 (by decide)
            have hkr70_13 : z_64 13 = p1 := hR70.2.1.1 13 (by decide)
            have hkr70_14 : z_64 14 = z 14 := hR70.2.1.1 14 (by decide)
            refine W.eq (g2 := F0 m 59 ls []) rfl ?_
            try dsimp only at hq_58
            try simp (decide := true) only [va_ev, ↓reduceIte] at hq_58
            refine lv_aload_n hx hb dX5_rule_59 rfl (lv_at hl 1 rfl) ?_
            have hxz_71 : -2147483648 ≤ z_64 12 ∧ z_64 12 < 2147483648 := hok70.2.2.2.1 12
            have hxG9 : xG N (z_64 12) G Eo := ⟨by omega, by omega, by omega, fun e9 h9 => hN4 e9 (by omega)⟩
            have hP : va_P (dC, dI) kxCl (xU cI cB cE o r_62 n_63 z_64 F_65 G (Eo 0 0) ++ eP cI N Eo Er_66 En_67 Ez_68 EF_69) H := hP
            have hD : va_D A (xU cI cB cE o r_62 n_63 z_64 F_65 G (Eo 0 0) ++ eP cI N Eo Er_66 En_67 Ez_68 EF_69) := hD
            have hFc := xw_free hD hS hA
            refine xk_call (va_runV (As := []) (rest := []) ⟨hx, hb, hml, hown, hts⟩ (y_forgetRows l dC dI cI cB cE o r_62 n_63 z_64 F_65 G N Eo Er_66 En_67 Ez_68 EF_69  H.size hok70 hxG9 hPE70 ) (cwV 0 hts (kx_gV kq_21_xcalls_6 kq_21_xcalls_7 kq_21_xcalls_8 kq_18_xrows_4 kq_21_xcalls_9 rfl) rfl rfl rfl (by decide +kernel) ⟨Nat.le_of_ble_eq_true rfl, Nat.le_of_ble_eq_true rfl⟩) ⟨kx_blind, va_recv hK hP (ci := 5) (q0 := 0) rfl rfl, kx_give (ws := []) (tys := []) hP hD hK hG hZ hS hFc⟩ rfl rfl hl.1 rfl (lv_room (Nat.le_of_ble_eq_true rfl)) dX5_rule_60 ⟨show (0 + dn_60) + 0 ≤ 1000 from (by omega), show (0 + dm_61) + 0 ≤ 60000 from (by omega)⟩) hS (fun q _ h => hFc q h) hFc (fun u dn_74 dm_75 t H locs ht hvm hq_72 hB hk1 hS => ?_)
            obtain ⟨r_76, n_77, z_78, F_79, Er_80, En_81, Ez_82, EF_83⟩ := u
            obtain ⟨hP, hK1, hD1⟩ := hB
            rw [ht] at hP
            have hD := hD1.weaken (fun _ q _ h => hFc _ h)
            obtain ⟨hR84, hC84, hq_72⟩ := hq_72
            obtain ⟨rfl, rfl, rfl, rfl, rfl, rfl, rfl, hq_72⟩ := hq_72
            subst hq_72
            have hP : va_P (dC, dI) kxCl ((xU cI cB cE o r_62 n_63 (va_up (va_up z_64 15 0) 16 (-1)) F_65 G (Eo 0 0)) ++ (eP cI N Eo Er_66 En_67 Ez_68 EF_69)) H := hP
            have hD : va_D A ((xU cI cB cE o r_62 n_63 (va_up (va_up z_64 15 0) 16 (-1)) F_65 G (Eo 0 0)) ++ (eP cI N Eo Er_66 En_67 Ez_68 EF_69)) := hD
            refine W.eq (g2 := F0 m 63 ls []) rfl ?_
            refine lv_iload_n hx hb dX5_rule_63 rfl (lv_at hl 0 rfl) ?_
            refine ki_if_eq (tgt := 71) hx hb dX5_rule_64 (by decide) (by omega) (by omega) (fun c_85 => ?_) (fun c_85 => ?_)
            · skip
              refine lv_iconst (v := iz 0) hx hb dX5_rule_71 (by decide) ?_
              have hxz_86 : -2147483648 ≤ z_64 15 ∧ z_64 15 < 2147483648 := hok70.2.2.2.1 15
              have hxb_87 : z_64 15 = 0 ∨ z_64 15 = 1 := hok70.2.2.2.2 15 (by decide)
              have hxz_88 : -2147483648 ≤ z_64 16 ∧ z_64 16 < 2147483648 := hok70.2.2.2.1 16
              have hok89 : xOk n_63 (va_up (va_up z_64 15 0) 16 (-1)) F_65 := ((hok70.s 15 (by decide) (show -2147483648 ≤ 0 ∧ 0 < 2147483648 by omega) (by omega)).s 16 (by decide) (show -2147483648 ≤ (-1) ∧ (-1) < 2147483648 by omega) (by omega))
              have hfr89 : xFr [13, 14, 15, 16] [] z F (va_up (va_up z_64 15 0) 16 (-1)) F_65 := ((hfr70.uz 15 (by decide) _).uz 16 (by decide) _)
              have hzo13 : (va_up (va_up z_64 15 0) 16 (-1)) 13 = z_64 13 := rfl
              have hzo14 : (va_up (va_up z_64 15 0) 16 (-1)) 14 = z_64 14 := rfl
              refine vx_ret ?_
              exact xk_iret (ov := (fun u : (Int) × (Nat → Nat) × (Nat → Nat) × (Nat → Int) × (Nat → Int → Int) × (Nat → Nat → Nat) × (Nat → Nat → Nat) × (Nat → Nat → Int) × (Nat → Nat → Int → Int) => match u with | (q, r', n', z', F', Er', En', Ez', EF') => some (.int (iz q)))) (post := (fun (u : (Int) × (Nat → Nat) × (Nat → Nat) × (Nat → Int) × (Nat → Int → Int) × (Nat → Nat → Nat) × (Nat → Nat → Nat) × (Nat → Nat → Int) × (Nat → Nat → Int → Int)) (dn dm : Nat) => match u with | (q, r', n', z', F', Er', En', Ez', EF') => xR [13, 14, 15, 16] [] [2] [2] N z F En Ez EF n' z' F' En' Ez' EF' ∧ (dn + xg n' ≤ xg n + 720 ∧ dm + xp n' ≤ xp n + 9600) ∧ ((((p0 = 0 ∧ q = z 13 ∧ z' 13 = p1 ∧ z' 14 = z 14) ∨ (p0 = 1 ∧ q = z 14 ∧ z' 14 = p1 ∧ z' 13 = z 13)) ∧ ((z' 13 = z 13 ∧ z' 14 = z 14 ∧ ∀ j, Ez' j = Ez j ∧ EF' j = EF j) ∨ (∀ j : Nat, 1 ≤ j → (j : Int) ≤ z 12 → kf_ls (EF' j 2) 0 (Ez' j 2).toNat = kf_kI (EF j 0) (Ez j 0) (z' 13) (z' 14) 0 0 0))) ∧ (z' 15 = 0 ∨ ((z' 15 = z 15 ∧ z' 13 = z 13 ∧ z' 14 = z 14 ∧ z' 1 = z 1) ∧ F' 1 = F 1 ∧ ∀ j, Ez' j = Ez j))))) (ws := (fun u : (Int) × (Nat → Nat) × (Nat → Nat) × (Nat → Int) × (Nat → Int → Int) × (Nat → Nat → Nat) × (Nat → Nat → Nat) × (Nat → Nat → Int) × (Nat → Nat → Int → Int) => match u with | (q, r', n', z', F', Er', En', Ez', EF') => (xU cI cB cE o r' n' z' F' G (Eo 0 0) ++ eP cI N Eo Er' En' Ez' EF'))) (tys := xT cI cB cE) (z := 0) (0, r_62, n_63, (va_up (va_up z_64 15 0) 16 (-1)), F_65, Er_66, En_67, Ez_68, EF_69) hx hb hr rfl hlocks rfl hP hD hK hS dX5_rule_72 (fun dn dm hdn hdm => ⟨⟨hok89, hfr89, hPE70, hef70⟩, ⟨by omega, by omega⟩, ⟨⟨by omega, Or.inr (fun j h1 h2 => by rw [hzo13, hzo14, hkr70_13, hkr70_14]; exact hq_58 j h1 h2)⟩, Or.inl rfl⟩⟩) (by omega) (by omega)
            · skip
              refine lv_iconst (v := iz 1) hx hb dX5_rule_67 (by decide) ?_
              refine lv_goto (tgt := 72) hx hb dX5_rule_68 (by decide) ?_
              have hxz_90 : -2147483648 ≤ z_64 15 ∧ z_64 15 < 2147483648 := hok70.2.2.2.1 15
              have hxb_91 : z_64 15 = 0 ∨ z_64 15 = 1 := hok70.2.2.2.2 15 (by decide)
              have hxz_92 : -2147483648 ≤ z_64 16 ∧ z_64 16 < 2147483648 := hok70.2.2.2.1 16
              have hok93 : xOk n_63 (va_up (va_up z_64 15 0) 16 (-1)) F_65 := ((hok70.s 15 (by decide) (show -2147483648 ≤ 0 ∧ 0 < 2147483648 by omega) (by omega)).s 16 (by decide) (show -2147483648 ≤ (-1) ∧ (-1) < 2147483648 by omega) (by omega))
              have hfr93 : xFr [13, 14, 15, 16] [] z F (va_up (va_up z_64 15 0) 16 (-1)) F_65 := ((hfr70.uz 15 (by decide) _).uz 16 (by decide) _)
              have hzo13 : (va_up (va_up z_64 15 0) 16 (-1)) 13 = z_64 13 := rfl
              have hzo14 : (va_up (va_up z_64 15 0) 16 (-1)) 14 = z_64 14 := rfl
              refine vx_ret ?_
              exact xk_iret (ov := (fun u : (Int) × (Nat → Nat) × (Nat → Nat) × (Nat → Int) × (Nat → Int → Int) × (Nat → Nat → Nat) × (Nat → Nat → Nat) × (Nat → Nat → Int) × (Nat → Nat → Int → Int) => match u with | (q, r', n', z', F', Er', En', Ez', EF') => some (.int (iz q)))) (post := (fun (u : (Int) × (Nat → Nat) × (Nat → Nat) × (Nat → Int) × (Nat → Int → Int) × (Nat → Nat → Nat) × (Nat → Nat → Nat) × (Nat → Nat → Int) × (Nat → Nat → Int → Int)) (dn dm : Nat) => match u with | (q, r', n', z', F', Er', En', Ez', EF') => xR [13, 14, 15, 16] [] [2] [2] N z F En Ez EF n' z' F' En' Ez' EF' ∧ (dn + xg n' ≤ xg n + 720 ∧ dm + xp n' ≤ xp n + 9600) ∧ ((((p0 = 0 ∧ q = z 13 ∧ z' 13 = p1 ∧ z' 14 = z 14) ∨ (p0 = 1 ∧ q = z 14 ∧ z' 14 = p1 ∧ z' 13 = z 13)) ∧ ((z' 13 = z 13 ∧ z' 14 = z 14 ∧ ∀ j, Ez' j = Ez j ∧ EF' j = EF j) ∨ (∀ j : Nat, 1 ≤ j → (j : Int) ≤ z 12 → kf_ls (EF' j 2) 0 (Ez' j 2).toNat = kf_kI (EF j 0) (Ez j 0) (z' 13) (z' 14) 0 0 0))) ∧ (z' 15 = 0 ∨ ((z' 15 = z 15 ∧ z' 13 = z 13 ∧ z' 14 = z 14 ∧ z' 1 = z 1) ∧ F' 1 = F 1 ∧ ∀ j, Ez' j = Ez j))))) (ws := (fun u : (Int) × (Nat → Nat) × (Nat → Nat) × (Nat → Int) × (Nat → Int → Int) × (Nat → Nat → Nat) × (Nat → Nat → Nat) × (Nat → Nat → Int) × (Nat → Nat → Int → Int) => match u with | (q, r', n', z', F', Er', En', Ez', EF') => (xU cI cB cE o r' n' z' F' G (Eo 0 0) ++ eP cI N Eo Er' En' Ez' EF'))) (tys := xT cI cB cE) (z := 1) (1, r_62, n_63, (va_up (va_up z_64 15 0) 16 (-1)), F_65, Er_66, En_67, Ez_68, EF_69) hx hb hr rfl hlocks rfl hP hD hK hS dX5_rule_72 (fun dn dm hdn hdm => ⟨⟨hok93, hfr93, hPE70, hef70⟩, ⟨by omega, by omega⟩, ⟨⟨by omega, Or.inr (fun j h1 h2 => by rw [hzo13, hzo14, hkr70_13, hkr70_14]; exact hq_58 j h1 h2)⟩, Or.inl rfl⟩⟩) (by omega) (by omega)
    · skip
      exact ky_thr_IAE hx hb hlf hown hG hZ hS (hl.1.trans hml.symm) dX5_rule_9 dX5_rule_12 dX5_rule_13 dX5_rule_16 htab (Nat.le_of_ble_eq_true rfl) (Nat.le_of_ble_eq_true rfl) (show 0 + 1 ≤ 1000 from (by omega)) (show 0 + 6 ≤ 60000 from (by omega)) hlocks (⟨rfl, by first | trivial | omega⟩) (fun t hvm h1 h2 => ⟨(r, n, z, F, Er, En, Ez, EF), ⟨hok, xFr.rf, hPE, eFr.rf⟩, hP.kept (fun k q hk => h2 q.1 (hP k q hk).lt), va_K.moved hvm hK, hD⟩) hS.2.2 (by omega) (by omega) (by omega) (by omega)
set_option maxHeartbeats 4000000 in
set_option maxRecDepth 100000 in
theorem y_entry3 (l : Launch) (hlf : l.stackTraces = false) (dC : Nat → ClassId) (dI : Nat → Nat → Nat) (cI cB cE : ClassId) (o r n : Nat → Nat) (z : Nat → Int) (F : Nat → Int → Int) (G : Nat → Option Nat) (N : Nat) (Eo Er En : Nat → Nat → Nat) (Ez : Nat → Nat → Int) (EF : Nat → Nat → Int → Int) (p0 : Int) (p1 : Int) (sz : Nat) (hok : xOk n z F) (hxG : xG N (z 12) G Eo) (hPE : eA N En Ez EF) (hp01 : -2147483648 ≤ p0) (hp02 : p0 < 2147483648) (hp11 : -2147483648 ≤ p1) (hp12 : p1 < 2147483648) (h78 : z 12 ≤ 78) : vx_Met l yX5_entry [.code yX5_entry cX5_entry 3 (some .int)] ({ frames := 7, cells := 60, slots := 200, locals := 100 }) (va_Pc [.ref (o 15), .int (iz p0), .int (iz p1)] (kx_Pre dC dI (xU cI cB cE o r n z F G (Eo 0 0) ++ eP cI N Eo Er En Ez EF) (xT cI cB cE) sz)) (xQ (fun u : (Int) × (Nat → Int) × (Nat → Option Nat) × (Nat → Nat → Nat) × (Nat → Nat → Nat) × (Nat → Nat → Nat) × (Nat → Nat → Int) × (Nat → Nat → Int → Int) => match u with | (q, z', G', Eo', Er', En', Ez', EF') => some (.int (iz q))) (fun (u : (Int) × (Nat → Int) × (Nat → Option Nat) × (Nat → Nat → Nat) × (Nat → Nat → Nat) × (Nat → Nat → Nat) × (Nat → Nat → Int) × (Nat → Nat → Int → Int)) (dn dm : Nat) => match u with | (q, z', G', Eo', Er', En', Ez', EF') => xOk n z' F ∧ xFr [12, 15, 16] [] z F z' F ∧ xG (N + 1) (z' 12) G' Eo' ∧ eA (N + 1) En' Ez' EF' ∧ (dn ≤ 30 ∧ dm ≤ 60) ∧ q = z 12 ∧ z' 12 = z 12 + 1 ∧ ((p0 = 0 ∧ p1 = -1) ∨ ((p0 = 1 ∨ p0 = 2) ∧ 0 ≤ p1 ∧ p1 < z 12 ∧ Ez ((p1 + 1).toNat) 7 = p0 - 1)) ∧ (∀ j, j < N → Ez' j = Ez j ∧ EF' j = EF j) ∧ Ez' N 7 = p0 ∧ Ez' N 0 = 0 ∧ Ez' N 4 = 0 ∧ Ez' N 9 = -1 ∧ Ez' N 1 = 0 ∧ Ez' N 2 = 0 ∧ Ez' N 3 = 0 ∧ Ez' N 8 = p1 ∧ z' 15 = 0) (fun u t => kx_At dC dI (va_A (xU cI cB cE o r n z F G (Eo 0 0) ++ eP cI N Eo Er En Ez EF) sz) ((fun u : (Int) × (Nat → Int) × (Nat → Option Nat) × (Nat → Nat → Nat) × (Nat → Nat → Nat) × (Nat → Nat → Nat) × (Nat → Nat → Int) × (Nat → Nat → Int → Int) => match u with | (q, z', G', Eo', Er', En', Ez', EF') => (xU cI cB cE o r n z' F G' (Eo' 0 0) ++ eP cI (N + 1) Eo' Er' En' Ez' EF')) u) (xT cI cB cE) t) (va_A (xU cI cB cE o r n z F G (Eo 0 0) ++ eP cI N Eo Er En Ez EF) sz)) (yX (fun E => (E = "java/util/NoSuchElementException" ∧ (¬ p1 = -1 ∧ ¬ (0 ≤ p1 ∧ p1 < z 12))) ∨ (E = "java/lang/IllegalArgumentException" ∧ ((p1 = -1 ∨ (0 ≤ p1 ∧ p1 < z 12)) ∧ ¬ ((p0 = 0 ∧ p1 = -1) ∨ ((p0 = 1 ∨ p0 = 2) ∧ 0 ≤ p1 ∧ p1 < z 12 ∧ Ez ((p1 + 1).toNat) 7 = p0 - 1))))) 2 12 (fun t => ∃ u : (Nat → Nat) × (Nat → Nat) × (Nat → Int) × (Nat → Int → Int) × (Nat → Nat → Nat) × (Nat → Nat → Nat) × (Nat → Nat → Int) × (Nat → Nat → Int → Int), match u with | (r', n', z', F', Er', En', Ez', EF') => xR [] [] [] [] N z F En Ez EF n' z' F' En' Ez' EF' ∧ kx_At dC dI (va_A (xU cI cB cE o r n z F G (Eo 0 0) ++ eP cI N Eo Er En Ez EF) sz) (xU cI cB cE o r' n' z' F' G (Eo 0 0) ++ eP cI N Eo Er' En' Ez' EF') (xT cI cB cE) t) (va_A (xU cI cB cE o r n z F G (Eo 0 0) ++ eP cI N Eo Er En Ez EF) sz)) 60 200 (va_A (xU cI cB cE o r n z F G (Eo 0 0) ++ eP cI N Eo Er En Ez EF) sz) := by
  refine vx_ofW (cc := cX5_entry) (maxL := 3) (ret := (some .int)) (by decide) rfl ?_
  intro p e s m args below meth c s₁ B hml htab hv
  obtain ⟨rfl, hsz, hP, hK, hD0, hG, hZ⟩ := hv
  have hx := B.exec
  have hb := B.bytes
  have hr := B.returns
  have hts := kx_hts (a := ([.ref (o 15), .int (iz p0), .int (iz p1)] : List Value).toArray) hG
  have hown : s.vm.findClass RX5 = some m.cls := findClass_of_methodNamed B.named
  have hlocks := B.notSynchronized
  subst hsz
  have hD := hD0.self (sz := s.heap.size)
  generalize hAe : va_A (xU cI cB cE o r n z F G (Eo 0 0) ++ eP cI N Eo Er En Ez EF) s.heap.size = A at hD hZ ⊢
  have hA : ∀ q : Nat, s.heap.size ≤ q → A q := fun q h => by rw [← hAe]; exact Or.inr h
  have hS : va_S A s.heap s.heap [] := va_S.rf
  have hl := lv_entry ([.ref (o 15), .int (iz p0), .int (iz p1)]) (n := 3) (Nat.le_of_ble_eq_true rfl)
  rw [lg_entry_eq]
  generalize (lg_sl ([.ref (o 15), .int (iz p0), .int (iz p1)]) ++ List.replicate (3 - (lg_sl ([.ref (o 15), .int (iz p0), .int (iz p1)])).length) Slot.unset).toArray = ls at hl ⊢
  obtain ⟨hN1, hN2, hN3, hN4⟩ := hxG
  have hef : eFr [] [] En Ez EF En Ez EF := eFr.rf
  have hfr : xFr [12, 15, 16] [] z F z F := xFr.rf
  have hxgl := xg_le n
  have hxpl := xp_le n
  have hl : lv_has ls 3 [(0, .ref (o 15)), (1, .int (iz p0)), (2, .int (iz p1))] := hl
  refine lv_iload_n hx hb dX5_entry_0 rfl (lv_at hl 2 rfl) ?_
  refine lv_iconst (v := iz (-1)) hx hb dX5_entry_1 (by decide) ?_
  refine ki_icmp_eq (tgt := 21) hx hb dX5_entry_2 (by decide) (by omega) (by omega) (by omega) (by omega) (fun c_1 => ?_) (fun c_1 => ?_)
  · skip
    refine lv_iload_n hx hb dX5_entry_21 rfl (lv_at hl 1 rfl) ?_
    refine ki_if_lt (tgt := 39) hx hb dX5_entry_22 (by decide) (by omega) (by omega) (fun c_2 => ?_) (fun c_2 => ?_)
    · skip
      exact ky_thr_IAE hx hb hlf hown hG hZ hS (hl.1.trans hml.symm) dX5_entry_39 dX5_entry_42 dX5_entry_43 dX5_entry_46 htab (Nat.le_of_ble_eq_true rfl) (Nat.le_of_ble_eq_true rfl) (show 0 + 1 ≤ 60 from (by omega)) (show 0 + 6 ≤ 200 from (by omega)) hlocks (Or.inr (⟨rfl, by first | trivial | omega⟩)) (fun t hvm h1 h2 => ⟨(r, n, z, F, Er, En, Ez, EF), ⟨hok, xFr.rf, hPE, eFr.rf⟩, hP.kept (fun k q hk => h2 q.1 (hP k q hk).lt), va_K.moved hvm hK, hD⟩) hS.2.2 (by omega) (by omega) (by omega) (by omega)
    · skip
      refine lv_iload_n hx hb dX5_entry_25 rfl (lv_at hl 1 rfl) ?_
      refine lv_iconst (v := iz 3) hx hb dX5_entry_26 (by decide) ?_
      refine ki_icmp_ge (tgt := 39) hx hb dX5_entry_27 (by decide) (by omega) (by omega) (by omega) (by omega) (fun c_3 => ?_) (fun c_3 => ?_)
      · skip
        exact ky_thr_IAE hx hb hlf hown hG hZ hS (hl.1.trans hml.symm) dX5_entry_39 dX5_entry_42 dX5_entry_43 dX5_entry_46 htab (Nat.le_of_ble_eq_true rfl) (Nat.le_of_ble_eq_true rfl) (show 0 + 1 ≤ 60 from (by omega)) (show 0 + 6 ≤ 200 from (by omega)) hlocks (Or.inr (⟨rfl, by first | trivial | omega⟩)) (fun t hvm h1 h2 => ⟨(r, n, z, F, Er, En, Ez, EF), ⟨hok, xFr.rf, hPE, eFr.rf⟩, hP.kept (fun k q hk => h2 q.1 (hP k q hk).lt), va_K.moved hvm hK, hD⟩) hS.2.2 (by omega) (by omega) (by omega) (by omega)
      · skip
        refine lv_aload_n hx hb dX5_entry_30 rfl (lv_at hl 0 rfl) ?_
        refine lv_iload_n hx hb dX5_entry_31 rfl (lv_at hl 2 rfl) ?_
        refine lv_iload_n hx hb dX5_entry_32 rfl (lv_at hl 1 rfl) ?_
        have hxz_4 : -2147483648 ≤ z 12 ∧ z 12 < 2147483648 := hok.2.2.2.1 12
        have hxG9 : xG N (z 12) G Eo := ⟨by omega, by omega, by omega, fun e9 h9 => hN4 e9 (by omega)⟩
        have hP : va_P (dC, dI) kxCl (xU cI cB cE o r n z F G (Eo 0 0) ++ eP cI N Eo Er En Ez EF) s.heap := hP
        refine xk_pure (va_runV (As := [.int (iz p1), .int (iz p0)]) (rest := []) ⟨hx, hb, hml, hown, hts⟩ (y_isLevelBefore l dC dI cI cB cE o r n z F G N Eo Er En Ez EF p1 p0 s.heap.size hok hxG9 hPE (by omega) (by omega) (by omega) (by omega)) (cwV 2 hts (kx_gV kq_24_xnew_13 kq_24_xnew_14 kq_24_xnew_15 kq_18_xrows_4 kq_24_xnew_16 rfl) rfl rfl rfl (by decide +kernel) ⟨Nat.le_of_ble_eq_true rfl, Nat.le_of_ble_eq_true rfl⟩) ⟨pPre_blind, va_recv hK hP (ci := 5) (q0 := 0) rfl rfl, pPre_give hP hK hG⟩ rfl rfl hl.1 rfl (lv_room (Nat.le_of_ble_eq_true rfl)) dX5_entry_33 ⟨show 0 + 0 ≤ 60 from (by omega), show 0 + 0 ≤ 200 from (by omega)⟩) hS (fun z_6 locs hq_5 hS => ?_)
        refine W.eq (g2 := F0 m 36 ls [.int (iz z_6)]) rfl ?_
        try dsimp only at hq_5
        rcases hq_5 with ⟨rfl, hq_5⟩ | ⟨rfl, hq_5⟩
        · skip
          refine ki_if_ne (tgt := 47) hx hb dX5_entry_36 (by decide) (by omega) (by omega) (fun c_7 => ?_) (fun c_7 => ?_)
          · skip
            refine lv_aload_n hx hb dX5_entry_47 rfl (lv_at hl 0 rfl) ?_
            refine va_get (D := (dC, dI)) (ci := 5) (v := .int (iz (z 12))) (C := RX5) (T := TX5) (N := 16) hx hb hts kt_X5 hown hK hP 0 rfl rfl 2 (by decide) (kx_word hG kq_18_xrows_0 rfl) (fun _ h9 => h9) rfl dX5_entry_48 ?_
            refine ki_if_lt (tgt := 66) hx hb dX5_entry_51 (by decide) (by omega) (by omega) (fun c_8 => ?_) (fun c_8 => ?_)
            · omega
            · skip
              refine lv_aload_n hx hb dX5_entry_54 rfl (lv_at hl 0 rfl) ?_
              refine va_get (D := (dC, dI)) (ci := 5) (v := .int (iz (z 12))) (C := RX5) (T := TX5) (N := 16) hx hb hts kt_X5 hown hK hP 0 rfl rfl 2 (by decide) (kx_word hG kq_18_xrows_0 rfl) (fun _ h9 => h9) rfl dX5_entry_55 ?_
              refine lv_aload_n hx hb dX5_entry_58 rfl (lv_at hl 0 rfl) ?_
              refine va_get (D := (dC, dI)) (ci := 5) (v := .ref (o 16)) (C := RX5) (T := TX5) (N := 16) hx hb hts kt_X5 hown hK hP 0 rfl rfl 0 (by decide) (kx_word hG kq_18_xrows_6 rfl) (fun _ h9 => h9) rfl dX5_entry_59 ?_
              refine xk_alen hx hb hK hP 1 2 rfl rfl dX5_entry_62 ?_
              refine ki_is (show iz ((80 : Nat) : Int) = iz 80 from rfl) ?_
              refine ki_icmp_lt (tgt := 74) hx hb dX5_entry_63 (by decide) (by omega) (by omega) (by omega) (by omega) (fun c_9 => ?_) (fun c_9 => ?_)
              · skip
                refine lv_aload_n hx hb dX5_entry_74 rfl (lv_at hl 0 rfl) ?_
                refine va_get (D := (dC, dI)) (ci := 5) (v := .ref (o 16)) (C := RX5) (T := TX5) (N := 16) hx hb hts kt_X5 hown hK hP 0 rfl rfl 0 (by decide) (kx_word hG kq_18_xrows_6 rfl) (fun _ h9 => h9) rfl dX5_entry_75 ?_
                refine lv_aload_n hx hb dX5_entry_78 rfl (lv_at hl 0 rfl) ?_
                refine va_get (D := (dC, dI)) (ci := 5) (v := .int (iz (z 12))) (C := RX5) (T := TX5) (N := 16) hx hb hts kt_X5 hown hK hP 0 rfl rfl 2 (by decide) (kx_word hG kq_18_xrows_0 rfl) (fun _ h9 => h9) rfl dX5_entry_79 ?_
                refine va_new (ci := 0) (fs := [.int 0, .int 0, .null, .null, .null, .null, .null, .int 0, .int 0, .int 0, .int 0, .int 0]) (C := RX0) (T := TX0) (N := 12) hx hb hts kt_X0 tyX0 tyX0_ok hown (kx_word hG kq_23_xmake_24 rfl) (kx_word hG kq_23_xmake_26 rfl) (kx_word hG kq_16_xentry_2 rfl) hK hP hD hS hA rfl (fun j hj => by rcases (show j = 0 ∨ j = 1 ∨ j = 2 ∨ j = 3 ∨ j = 4 ∨ j = 5 ∨ j = 6 ∨ j = 7 ∨ j = 8 ∨ j = 9 ∨ j = 10 ∨ j = 11 by omega) with rfl | rfl | rfl | rfl | rfl | rfl | rfl | rfl | rfl | rfl | rfl | rfl <;> rfl) (show 0 + 1 ≤ 60 from (by omega)) (show 0 + 12 ≤ 200 from (by omega)) dX5_entry_82 (fun qn H hP hD hS => ?_)
                have hP : va_P (dC, dI) kxCl (((xU cI cB cE o r n z F G (Eo 0 0)) ++ [(qn, .inr (0, [.int 0, .int 0, .null, .null, .null, .null, .null, .int 0, .int 0, .int 0, .int 0, .int 0]))]) ++ (eP cI N Eo Er En Ez EF)) H := va_P.swap hP
                have hD : va_D A (((xU cI cB cE o r n z F G (Eo 0 0)) ++ [(qn, .inr (0, [.int 0, .int 0, .null, .null, .null, .null, .null, .int 0, .int 0, .int 0, .int 0, .int 0]))]) ++ (eP cI N Eo Er En Ez EF)) := va_D.swap hD
                refine lv_dup hx hb dX5_entry_85 rfl ?_
                refine lv_iload_n hx hb dX5_entry_86 rfl (lv_at hl 1 rfl) ?_
                refine lv_iload_n hx hb dX5_entry_87 rfl (lv_at hl 2 rfl) ?_
                have hPc := hP.sub (ws' := [(qn, .inr (0, [.int 0, .int 0, .null, .null, .null, .null, .null, .int 0, .int 0, .int 0, .int 0, .int 0]))]) [29] rfl
                have hDc := hD.sub (ws' := [(qn, .inr (0, [.int 0, .int 0, .null, .null, .null, .null, .null, .int 0, .int 0, .int 0, .int 0, .int 0]))]) [29] (by decide) rfl
                have hFc := va_free (wc := [(qn, .inr (0, [.int 0, .int 0, .null, .null, .null, .null, .null, .int 0, .int 0, .int 0, .int 0, .int 0]))]) hD hS hA [29] rfl
                refine va_callv (va_runI (As := [.int (iz p0), .int (iz p1)]) (rest := [.ref qn, .int (iz (z 12)), .ref (o 16)]) ⟨hx, hb, hml, hown, hts⟩ (c_Entry_init l hlf dC dI qn (iz p0) (iz p1) cI cB cE H.size) (cwI 2 hts (kx_gI kq_23_xmake_27 rfl) rfl rfl rfl (kx_word hG kq_16_xentry_2 rfl) (kx_word hG kq_23_xmake_28 rfl) (kx_word hG kq_23_xmake_29 rfl) rfl (by decide +kernel) ⟨Nat.le_of_ble_eq_true rfl, Nat.le_of_ble_eq_true rfl⟩) ⟨kx_blind, kx_give (ws := []) (tys := []) hPc hDc hK hG hZ hS hFc⟩ rfl rfl hl.1 rfl (lv_room (Nat.le_of_ble_eq_true rfl)) dX5_entry_88 ⟨show (0 + 1) + 15 ≤ 60 from (by omega), show (0 + 12) + 24 ≤ 200 from (by omega)⟩) hS (fun q _ h => hFc q h) hFc (fun u t H1 locs ht hvm hw hB hz1 hk1 hS => ?_)
                obtain ⟨q1, q2, q3, q4, q5, q6, q7, q8, a0, a1, a2, a3, a4, a5, a6⟩ := u
                obtain ⟨hP1, hK1, hD1⟩ := hB
                rw [ht] at hP1
                obtain ⟨hP, hD⟩ := va_joinQ (wr := (xU cI cB cE o r n z F G (Eo 0 0))) (w1 := [(qn, .inr (0, [.int (iz p0), .int (iz p1), .ref q1, .ref q2, .ref q3, .ref q5, .ref q4, .int (-1), .int (-1), .int 0, .int 0, .int 0])), (q1, .inr (1, [.int 20, .ref a0, .int 0])), (a0, .inl (cI, 0, .inl (fun _ => 0))), (q2, .inr (1, [.int 20, .ref a1, .int 0])), (a1, .inl (cI, 0, .inl (fun _ => 0))), (q3, .inr (1, [.int 40, .ref a2, .int 0])), (a2, .inl (cI, 0, .inl (fun _ => 0))), (q4, .inr (1, [.int 5, .ref a3, .int 0])), (a3, .inl (cI, 0, .inl (fun _ => 0))), (q5, .inr (3, [.ref q6, .ref q7, .ref q8])), (q6, .inr (1, [.int 20, .ref a4, .int 0])), (a4, .inl (cI, 0, .inl (fun _ => 0))), (q7, .inr (1, [.int 20, .ref a5, .int 0])), (a5, .inl (cI, 0, .inl (fun _ => 0))), (q8, .inr (1, [.int 20, .ref a6, .int 0])), (a6, .inl (cI, 0, .inl (fun _ => 0)))]) hP hD [29] [0, 1, 2, 3, 4, 5, 6, 7, 8, 9, 10, 11, 12, 13, 14, 15, 16, 17, 18, 19, 20, 21, 22, 23, 24, 25, 26, 27, 28] rfl rfl (by decide) (by decide) hk1 hFc hP1 hD1
                generalize H1 = H at hP hS ⊢
                have hP : va_P (dC, dI) kxCl (((xU cI cB cE o r n z F G (Eo 0 0)) ++ eU cI (eNo qn q1 q2 q3 q4 q5 q6 q7 q8) (eNr a0 a1 a2 a3 a4 a5 a6) (fun _ => 0) (eNz p0 p1) (fun _ _ => 0)) ++ (eP cI N Eo Er En Ez EF)) H := by rw [← eN_eq]; exact hP
                have hD : va_D A (((xU cI cB cE o r n z F G (Eo 0 0)) ++ eU cI (eNo qn q1 q2 q3 q4 q5 q6 q7 q8) (eNr a0 a1 a2 a3 a4 a5 a6) (fun _ => 0) (eNz p0 p1) (fun _ _ => 0)) ++ (eP cI N Eo Er En Ez EF)) := by rw [← eN_eq]; exact hD
                refine W.eq (g2 := F0 m 91 ls [.ref qn, .int (iz (z 12)), .ref (o 16)]) rfl ?_
                refine va_astq (r := (RX0, TX0, 12)) hx hb hK hP hD hS 1 2 29 0 rfl rfl rfl rfl (iz_in (by omega) (by omega) (by omega)) dX5_entry_91 (fun H locs hP hD hS => ?_)
                rw [iz_clamp (by omega) (by omega)] at hP hD
                have hP : va_P (dC, dI) kxCl (((xU cI cB cE o r n z F (va_up G (z 12).toNat (some qn)) (Eo 0 0)) ++ eU cI (eNo qn q1 q2 q3 q4 q5 q6 q7 q8) (eNr a0 a1 a2 a3 a4 a5 a6) (fun _ => 0) (eNz p0 p1) (fun _ _ => 0)) ++ (eP cI N Eo Er En Ez EF)) H := hP
                have hD : va_D A (((xU cI cB cE o r n z F (va_up G (z 12).toNat (some qn)) (Eo 0 0)) ++ eU cI (eNo qn q1 q2 q3 q4 q5 q6 q7 q8) (eNr a0 a1 a2 a3 a4 a5 a6) (fun _ => 0) (eNz p0 p1) (fun _ _ => 0)) ++ (eP cI N Eo Er En Ez EF)) := hD
                have hP := hP.perm eX_push
                have hD := hD.perm eX_push
                have hnb : va_up Eo N (eNo qn q1 q2 q3 q4 q5 q6 q7 q8) 0 0 = Eo 0 0 := by rw [va_up_ne _ _ (show 0 ≠ N by omega)]
                have hN4b : ∀ e : Nat, (e : Int) < z 12 + 1 → va_up G (z 12).toNat (some qn) e = some (va_up Eo N (eNo qn q1 q2 q3 q4 q5 q6 q7 q8) (e + 1) 0) := eN_G (o := eNo qn q1 q2 q3 q4 q5 q6 q7 q8) hN1 hN3 hN4
                have hPE9 := hPE.push (N := N) (eN_ok p0 p1 (by omega) (by omega))
                rw [← hnb] at hP hD
                have hel : ∀ j, j < N → va_up Ez N (eNz p0 p1) j = Ez j ∧ va_up EF N (fun _ _ => 0) j = EF j := fun j hj => ⟨va_up_ne _ _ (by omega), va_up_ne _ _ (by omega)⟩
                have hen : va_up Ez N (eNz p0 p1) N = eNz p0 p1 := va_up_self _ _ _
                generalize hG9 : va_up G (z 12).toNat (some qn) = G2 at hP hD hN4b
                generalize hEo9 : va_up Eo N (eNo qn q1 q2 q3 q4 q5 q6 q7 q8) = Eo2 at hP hD hN4b
                generalize hEr9 : va_up Er N (eNr a0 a1 a2 a3 a4 a5 a6) = Er2 at hP hD
                generalize hEn9 : va_up En N (fun _ => 0) = En2 at hP hD hPE9
                generalize hEz9 : va_up Ez N (eNz p0 p1) = Ez2 at hP hD hPE9 hel hen
                generalize hEF9 : va_up EF N (fun _ _ => 0) = EF2 at hP hD hPE9 hel
                have hef : eFr [] [] En2 Ez2 EF2 En2 Ez2 EF2 := eFr.rf
                have hP : va_P (dC, dI) kxCl ((xU cI cB cE o r n z F G2 (Eo2 0 0)) ++ (eP cI (N + 1) Eo2 Er2 En2 Ez2 EF2)) H := hP
                have hD : va_D A ((xU cI cB cE o r n z F G2 (Eo2 0 0)) ++ (eP cI (N + 1) Eo2 Er2 En2 Ez2 EF2)) := hD
                refine W.eq (g2 := F0 m 92 ls []) rfl ?_
                refine lv_aload_n hx hb dX5_entry_92 rfl (lv_at hl 0 rfl) ?_
                refine lv_dup hx hb dX5_entry_93 rfl ?_
                have hxz_10 : -2147483648 ≤ z 12 ∧ z 12 < 2147483648 := hok.2.2.2.1 12
                refine va_get (D := (dC, dI)) (ci := 5) (v := .int (iz (z 12))) (C := RX5) (T := TX5) (N := 16) hx hb hts kt_X5 hown hK hP 0 rfl rfl 2 (by decide) (kx_word hG kq_18_xrows_0 rfl) (fun _ h9 => h9) rfl dX5_entry_94 ?_
                refine lv_iconst (v := iz 1) hx hb dX5_entry_97 (by decide) ?_
                refine ki_iadd hx hb dX5_entry_98 ?_
                refine va_put (D := (dC, dI)) (ci := 5) (v := .int (iz ((z 12) + 1))) (ty := .int) (C := RX5) (T := TX5) (N := 16) hx hb hts kt_X5 tyX5 tyX5_ok nmX5 hown hK hP hD hS 0 rfl rfl 2 (by decide) (kx_word hG kq_18_xrows_0 rfl) (fun _ h9 => h9) rfl (by decide +kernel) rfl rfl (Nat.le_of_ble_eq_true rfl) dX5_entry_99 (fun H locs hP hD hS => ?_)
                have hP : va_P (dC, dI) kxCl ((xU cI cB cE o r n (va_up z 12 ((z 12) + 1)) F G2 (Eo2 0 0)) ++ (eP cI (N + 1) Eo2 Er2 En2 Ez2 EF2)) H := hP
                have hD : va_D A ((xU cI cB cE o r n (va_up z 12 ((z 12) + 1)) F G2 (Eo2 0 0)) ++ (eP cI (N + 1) Eo2 Er2 En2 Ez2 EF2)) := hD
                refine lv_aload_n hx hb dX5_entry_102 rfl (lv_at hl 0 rfl) ?_
                have hok11 : xOk n (va_up z 12 ((z 12) + 1)) F := (hok.s 12 (by decide) (show -2147483648 ≤ (z 12) + 1 ∧ (z 12) + 1 < 2147483648 by omega) (by omega))
                have hfr11 : xFr [12, 15, 16] [] z F (va_up z 12 ((z 12) + 1)) F := (hfr.uz 12 (by decide) _)
                have hxG9 : xG (N + 1) ((z 12) + 1) G2 Eo2 := ⟨by omega, by omega, by omega, fun e9 h9 => hN4b e9 (by omega)⟩
                have hP : va_P (dC, dI) kxCl (xU cI cB cE o r n (va_up z 12 ((z 12) + 1)) F G2 (Eo2 0 0) ++ eP cI (N + 1) Eo2 Er2 En2 Ez2 EF2) H := hP
                have hD : va_D A (xU cI cB cE o r n (va_up z 12 ((z 12) + 1)) F G2 (Eo2 0 0) ++ eP cI (N + 1) Eo2 Er2 En2 Ez2 EF2) := hD
                have hFc := xw_free hD hS hA
                refine xk_call (va_runV (As := []) (rest := []) ⟨hx, hb, hml, hown, hts⟩ (y_forgetRows l dC dI cI cB cE o r n (va_up z 12 ((z 12) + 1)) F G2 (N + 1) Eo2 Er2 En2 Ez2 EF2  H.size hok11 hxG9 hPE9 ) (cwV 0 hts (kx_gV kq_21_xcalls_6 kq_21_xcalls_7 kq_21_xcalls_8 kq_18_xrows_4 kq_21_xcalls_9 rfl) rfl rfl rfl (by decide +kernel) ⟨Nat.le_of_ble_eq_true rfl, Nat.le_of_ble_eq_true rfl⟩) ⟨kx_blind, va_recv hK hP (ci := 5) (q0 := 0) rfl rfl, kx_give (ws := []) (tys := []) hP hD hK hG hZ hS hFc⟩ rfl rfl hl.1 rfl (lv_room (Nat.le_of_ble_eq_true rfl)) dX5_entry_103 ⟨show ((0 + 1) + 15) + 0 ≤ 60 from (by omega), show ((0 + 12) + 24) + 0 ≤ 200 from (by omega)⟩) hS (fun q _ h => hFc q h) hFc (fun u dn_14 dm_15 t H locs ht hvm hq_12 hB hk1 hS => ?_)
                obtain ⟨r_16, n_17, z_18, F_19, Er_20, En_21, Ez_22, EF_23⟩ := u
                obtain ⟨hP, hK1, hD1⟩ := hB
                rw [ht] at hP
                have hD := hD1.weaken (fun _ q _ h => hFc _ h)
                obtain ⟨hR24, hC24, hq_12⟩ := hq_12
                obtain ⟨rfl, rfl, rfl, rfl, rfl, rfl, rfl, hq_12⟩ := hq_12
                subst hq_12
                have hP : va_P (dC, dI) kxCl ((xU cI cB cE o r n (va_up (va_up (va_up z 12 ((z 12) + 1)) 15 0) 16 (-1)) F G2 (Eo2 0 0)) ++ (eP cI (N + 1) Eo2 Er2 En2 Ez2 EF2)) H := hP
                have hD : va_D A ((xU cI cB cE o r n (va_up (va_up (va_up z 12 ((z 12) + 1)) 15 0) 16 (-1)) F G2 (Eo2 0 0)) ++ (eP cI (N + 1) Eo2 Er2 En2 Ez2 EF2)) := hD
                refine W.eq (g2 := F0 m 106 ls []) rfl ?_
                refine lv_aload_n hx hb dX5_entry_106 rfl (lv_at hl 0 rfl) ?_
                refine va_get (D := (dC, dI)) (ci := 5) (v := .int (iz ((z 12) + 1))) (C := RX5) (T := TX5) (N := 16) hx hb hts kt_X5 hown hK hP 0 rfl rfl 2 (by decide) (kx_word hG kq_18_xrows_0 rfl) (fun _ h9 => h9) rfl dX5_entry_107 ?_
                refine lv_iconst (v := iz 1) hx hb dX5_entry_110 (by decide) ?_
                refine ki_isub hx hb dX5_entry_111 ?_
                have hxz_25 : -2147483648 ≤ z 15 ∧ z 15 < 2147483648 := hok.2.2.2.1 15
                have hxb_26 : z 15 = 0 ∨ z 15 = 1 := hok.2.2.2.2 15 (by decide)
                have hxz_27 : -2147483648 ≤ z 16 ∧ z 16 < 2147483648 := hok.2.2.2.1 16
                have hok28 : xOk n (va_up (va_up (va_up z 12 ((z 12) + 1)) 15 0) 16 (-1)) F := (((hok.s 12 (by decide) (show -2147483648 ≤ (z 12) + 1 ∧ (z 12) + 1 < 2147483648 by omega) (by omega)).s 15 (by decide) (show -2147483648 ≤ 0 ∧ 0 < 2147483648 by omega) (by omega)).s 16 (by decide) (show -2147483648 ≤ (-1) ∧ (-1) < 2147483648 by omega) (by omega))
                have hfr28 : xFr [12, 15, 16] [] z F (va_up (va_up (va_up z 12 ((z 12) + 1)) 15 0) 16 (-1)) F := (((hfr.uz 12 (by decide) _).uz 15 (by decide) _).uz 16 (by decide) _)
                refine vx_ret ?_
                have hzq : (va_up (va_up (va_up z 12 ((z 12) + 1)) 15 0) 16 (-1)) 12 = z 12 + 1 := rfl
                exact xk_iret (ov := (fun u : (Int) × (Nat → Int) × (Nat → Option Nat) × (Nat → Nat → Nat) × (Nat → Nat → Nat) × (Nat → Nat → Nat) × (Nat → Nat → Int) × (Nat → Nat → Int → Int) => match u with | (q, z', G', Eo', Er', En', Ez', EF') => some (.int (iz q)))) (post := (fun (u : (Int) × (Nat → Int) × (Nat → Option Nat) × (Nat → Nat → Nat) × (Nat → Nat → Nat) × (Nat → Nat → Nat) × (Nat → Nat → Int) × (Nat → Nat → Int → Int)) (dn dm : Nat) => match u with | (q, z', G', Eo', Er', En', Ez', EF') => xOk n z' F ∧ xFr [12, 15, 16] [] z F z' F ∧ xG (N + 1) (z' 12) G' Eo' ∧ eA (N + 1) En' Ez' EF' ∧ (dn ≤ 30 ∧ dm ≤ 60) ∧ q = z 12 ∧ z' 12 = z 12 + 1 ∧ ((p0 = 0 ∧ p1 = -1) ∨ ((p0 = 1 ∨ p0 = 2) ∧ 0 ≤ p1 ∧ p1 < z 12 ∧ Ez ((p1 + 1).toNat) 7 = p0 - 1)) ∧ (∀ j, j < N → Ez' j = Ez j ∧ EF' j = EF j) ∧ Ez' N 7 = p0 ∧ Ez' N 0 = 0 ∧ Ez' N 4 = 0 ∧ Ez' N 9 = -1 ∧ Ez' N 1 = 0 ∧ Ez' N 2 = 0 ∧ Ez' N 3 = 0 ∧ Ez' N 8 = p1 ∧ z' 15 = 0)) (ws := (fun u : (Int) × (Nat → Int) × (Nat → Option Nat) × (Nat → Nat → Nat) × (Nat → Nat → Nat) × (Nat → Nat → Nat) × (Nat → Nat → Int) × (Nat → Nat → Int → Int) => match u with | (q, z', G', Eo', Er', En', Ez', EF') => (xU cI cB cE o r n z' F G' (Eo' 0 0) ++ eP cI (N + 1) Eo' Er' En' Ez' EF'))) (tys := xT cI cB cE) (z := ((z 12) + 1) - 1) (((z 12) + 1) - 1, (va_up (va_up (va_up z 12 ((z 12) + 1)) 15 0) 16 (-1)), G2, Eo2, Er2, En2, Ez2, EF2) hx hb hr rfl hlocks rfl hP hD hK hS dX5_entry_112 (fun dn dm hdn hdm => ⟨hok28, hfr28, ⟨by omega, by omega, by omega, fun e9 h9 => hN4b e9 (by omega)⟩, hPE9, ⟨by omega, by omega⟩, by omega, by omega, by omega, fun j hj => hel j hj, by rw [hen]; rfl, by rw [hen]; rfl, by rw [hen]; rfl, by rw [hen]; rfl, by rw [hen]; rfl, by rw [hen]; rfl, by rw [hen]; rfl, by rw [hen]; rfl, rfl⟩) (by omega) (by omega)
              · omega
          · omega
        · skip
          refine ki_if_ne (tgt := 47) hx hb dX5_entry_36 (by decide) (by omega) (by omega) (fun c_29 => ?_) (fun c_29 => ?_)
          · omega
          · skip
            exact ky_thr_IAE hx hb hlf hown hG hZ hS (hl.1.trans hml.symm) dX5_entry_39 dX5_entry_42 dX5_entry_43 dX5_entry_46 htab (Nat.le_of_ble_eq_true rfl) (Nat.le_of_ble_eq_true rfl) (show 0 + 1 ≤ 60 from (by omega)) (show 0 + 6 ≤ 200 from (by omega)) hlocks (Or.inr (⟨rfl, by first | trivial | omega⟩)) (fun t hvm h1 h2 => ⟨(r, n, z, F, Er, En, Ez, EF), ⟨hok, xFr.rf, hPE, eFr.rf⟩, hP.kept (fun k q hk => h2 q.1 (hP k q hk).lt), va_K.moved hvm hK, hD⟩) hS.2.2 (by omega) (by omega) (by omega) (by omega)
  · skip
    refine lv_aload_n hx hb dX5_entry_5 rfl (lv_at hl 0 rfl) ?_
    refine lv_iload_n hx hb dX5_entry_6 rfl (lv_at hl 2 rfl) ?_
    have hxz_30 : -2147483648 ≤ z 12 ∧ z 12 < 2147483648 := hok.2.2.2.1 12
    have hxG9 : xG N (z 12) G Eo := ⟨by omega, by omega, by omega, fun e9 h9 => hN4 e9 (by omega)⟩
    have hP : va_P (dC, dI) kxCl (xU cI cB cE o r n z F G (Eo 0 0) ++ eP cI N Eo Er En Ez EF) s.heap := hP
    refine xk_pure (va_runV (As := [.int (iz p1)]) (rest := []) ⟨hx, hb, hml, hown, hts⟩ (y_isEntry l dC dI cI cB cE o r n z F G N Eo Er En Ez EF p1 s.heap.size hok hxG9 hPE (by omega) (by omega)) (cwV 1 hts (kx_gV kq_18_xrows_1 kq_18_xrows_2 kq_18_xrows_3 kq_18_xrows_4 kq_18_xrows_5 rfl) rfl rfl rfl (by decide +kernel) ⟨Nat.le_of_ble_eq_true rfl, Nat.le_of_ble_eq_true rfl⟩) ⟨pPre_blind, va_recv hK hP (ci := 5) (q0 := 0) rfl rfl, pPre_give hP hK hG⟩ rfl rfl hl.1 rfl (lv_room (Nat.le_of_ble_eq_true rfl)) dX5_entry_7 ⟨show 0 + 0 ≤ 60 from (by omega), show 0 + 0 ≤ 200 from (by omega)⟩) hS (fun z_32 locs hq_31 hS => ?_)
    refine W.eq (g2 := F0 m 10 ls [.int (iz z_32)]) rfl ?_
    try dsimp only at hq_31
    rcases hq_31 with ⟨rfl, hq_31⟩ | ⟨rfl, hq_31⟩
    · skip
      refine ki_if_ne (tgt := 21) hx hb dX5_entry_10 (by decide) (by omega) (by omega) (fun c_33 => ?_) (fun c_33 => ?_)
      · skip
        refine lv_iload_n hx hb dX5_entry_21 rfl (lv_at hl 1 rfl) ?_
        refine ki_if_lt (tgt := 39) hx hb dX5_entry_22 (by decide) (by omega) (by omega) (fun c_34 => ?_) (fun c_34 => ?_)
        · skip
          exact ky_thr_IAE hx hb hlf hown hG hZ hS (hl.1.trans hml.symm) dX5_entry_39 dX5_entry_42 dX5_entry_43 dX5_entry_46 htab (Nat.le_of_ble_eq_true rfl) (Nat.le_of_ble_eq_true rfl) (show 0 + 1 ≤ 60 from (by omega)) (show 0 + 6 ≤ 200 from (by omega)) hlocks (Or.inr (⟨rfl, by first | trivial | omega⟩)) (fun t hvm h1 h2 => ⟨(r, n, z, F, Er, En, Ez, EF), ⟨hok, xFr.rf, hPE, eFr.rf⟩, hP.kept (fun k q hk => h2 q.1 (hP k q hk).lt), va_K.moved hvm hK, hD⟩) hS.2.2 (by omega) (by omega) (by omega) (by omega)
        · skip
          refine lv_iload_n hx hb dX5_entry_25 rfl (lv_at hl 1 rfl) ?_
          refine lv_iconst (v := iz 3) hx hb dX5_entry_26 (by decide) ?_
          refine ki_icmp_ge (tgt := 39) hx hb dX5_entry_27 (by decide) (by omega) (by omega) (by omega) (by omega) (fun c_35 => ?_) (fun c_35 => ?_)
          · skip
            exact ky_thr_IAE hx hb hlf hown hG hZ hS (hl.1.trans hml.symm) dX5_entry_39 dX5_entry_42 dX5_entry_43 dX5_entry_46 htab (Nat.le_of_ble_eq_true rfl) (Nat.le_of_ble_eq_true rfl) (show 0 + 1 ≤ 60 from (by omega)) (show 0 + 6 ≤ 200 from (by omega)) hlocks (Or.inr (⟨rfl, by first | trivial | omega⟩)) (fun t hvm h1 h2 => ⟨(r, n, z, F, Er, En, Ez, EF), ⟨hok, xFr.rf, hPE, eFr.rf⟩, hP.kept (fun k q hk => h2 q.1 (hP k q hk).lt), va_K.moved hvm hK, hD⟩) hS.2.2 (by omega) (by omega) (by omega) (by omega)
          · skip
            refine lv_aload_n hx hb dX5_entry_30 rfl (lv_at hl 0 rfl) ?_
            refine lv_iload_n hx hb dX5_entry_31 rfl (lv_at hl 2 rfl) ?_
            refine lv_iload_n hx hb dX5_entry_32 rfl (lv_at hl 1 rfl) ?_
            have hxG9 : xG N (z 12) G Eo := ⟨by omega, by omega, by omega, fun e9 h9 => hN4 e9 (by omega)⟩
            have hP : va_P (dC, dI) kxCl (xU cI cB cE o r n z F G (Eo 0 0) ++ eP cI N Eo Er En Ez EF) s.heap := hP
            refine xk_pure (va_runV (As := [.int (iz p1), .int (iz p0)]) (rest := []) ⟨hx, hb, hml, hown, hts⟩ (y_isLevelBefore l dC dI cI cB cE o r n z F G N Eo Er En Ez EF p1 p0 s.heap.size hok hxG9 hPE (by omega) (by omega) (by omega) (by omega)) (cwV 2 hts (kx_gV kq_24_xnew_13 kq_24_xnew_14 kq_24_xnew_15 kq_18_xrows_4 kq_24_xnew_16 rfl) rfl rfl rfl (by decide +kernel) ⟨Nat.le_of_ble_eq_true rfl, Nat.le_of_ble_eq_true rfl⟩) ⟨pPre_blind, va_recv hK hP (ci := 5) (q0 := 0) rfl rfl, pPre_give hP hK hG⟩ rfl rfl hl.1 rfl (lv_room (Nat.le_of_ble_eq_true rfl)) dX5_entry_33 ⟨show 0 + 0 ≤ 60 from (by omega), show 0 + 0 ≤ 200 from (by omega)⟩) hS (fun z_37 locs hq_36 hS => ?_)
            refine W.eq (g2 := F0 m 36 ls [.int (iz z_37)]) rfl ?_
            try dsimp only at hq_36
            rcases hq_36 with ⟨rfl, hq_36⟩ | ⟨rfl, hq_36⟩
            · skip
              refine ki_if_ne (tgt := 47) hx hb dX5_entry_36 (by decide) (by omega) (by omega) (fun c_38 => ?_) (fun c_38 => ?_)
              · skip
                refine lv_aload_n hx hb dX5_entry_47 rfl (lv_at hl 0 rfl) ?_
                refine va_get (D := (dC, dI)) (ci := 5) (v := .int (iz (z 12))) (C := RX5) (T := TX5) (N := 16) hx hb hts kt_X5 hown hK hP 0 rfl rfl 2 (by decide) (kx_word hG kq_18_xrows_0 rfl) (fun _ h9 => h9) rfl dX5_entry_48 ?_
                refine ki_if_lt (tgt := 66) hx hb dX5_entry_51 (by decide) (by omega) (by omega) (fun c_39 => ?_) (fun c_39 => ?_)
                · omega
                · skip
                  refine lv_aload_n hx hb dX5_entry_54 rfl (lv_at hl 0 rfl) ?_
                  refine va_get (D := (dC, dI)) (ci := 5) (v := .int (iz (z 12))) (C := RX5) (T := TX5) (N := 16) hx hb hts kt_X5 hown hK hP 0 rfl rfl 2 (by decide) (kx_word hG kq_18_xrows_0 rfl) (fun _ h9 => h9) rfl dX5_entry_55 ?_
                  refine lv_aload_n hx hb dX5_entry_58 rfl (lv_at hl 0 rfl) ?_
                  refine va_get (D := (dC, dI)) (ci := 5) (v := .ref (o 16)) (C := RX5) (T := TX5) (N := 16) hx hb hts kt_X5 hown hK hP 0 rfl rfl 0 (by decide) (kx_word hG kq_18_xrows_6 rfl) (fun _ h9 => h9) rfl dX5_entry_59 ?_
                  refine xk_alen hx hb hK hP 1 2 rfl rfl dX5_entry_62 ?_
                  refine ki_is (show iz ((80 : Nat) : Int) = iz 80 from rfl) ?_
                  refine ki_icmp_lt (tgt := 74) hx hb dX5_entry_63 (by decide) (by omega) (by omega) (by omega) (by omega) (fun c_40 => ?_) (fun c_40 => ?_)
                  · skip
                    refine lv_aload_n hx hb dX5_entry_74 rfl (lv_at hl 0 rfl) ?_
                    refine va_get (D := (dC, dI)) (ci := 5) (v := .ref (o 16)) (C := RX5) (T := TX5) (N := 16) hx hb hts kt_X5 hown hK hP 0 rfl rfl 0 (by decide) (kx_word hG kq_18_xrows_6 rfl) (fun _ h9 => h9) rfl dX5_entry_75 ?_
                    refine lv_aload_n hx hb dX5_entry_78 rfl (lv_at hl 0 rfl) ?_
                    refine va_get (D := (dC, dI)) (ci := 5) (v := .int (iz (z 12))) (C := RX5) (T := TX5) (N := 16) hx hb hts kt_X5 hown hK hP 0 rfl rfl 2 (by decide) (kx_word hG kq_18_xrows_0 rfl) (fun _ h9 => h9) rfl dX5_entry_79 ?_
                    refine va_new (ci := 0) (fs := [.int 0, .int 0, .null, .null, .null, .null, .null, .int 0, .int 0, .int 0, .int 0, .int 0]) (C := RX0) (T := TX0) (N := 12) hx hb hts kt_X0 tyX0 tyX0_ok hown (kx_word hG kq_23_xmake_24 rfl) (kx_word hG kq_23_xmake_26 rfl) (kx_word hG kq_16_xentry_2 rfl) hK hP hD hS hA rfl (fun j hj => by rcases (show j = 0 ∨ j = 1 ∨ j = 2 ∨ j = 3 ∨ j = 4 ∨ j = 5 ∨ j = 6 ∨ j = 7 ∨ j = 8 ∨ j = 9 ∨ j = 10 ∨ j = 11 by omega) with rfl | rfl | rfl | rfl | rfl | rfl | rfl | rfl | rfl | rfl | rfl | rfl <;> rfl) (show 0 + 1 ≤ 60 from (by omega)) (show 0 + 12 ≤ 200 from (by omega)) dX5_entry_82 (fun qn H hP hD hS => ?_)
                    have hP : va_P (dC, dI) kxCl (((xU cI cB cE o r n z F G (Eo 0 0)) ++ [(qn, .inr (0, [.int 0, .int 0, .null, .null, .null, .null, .null, .int 0, .int 0, .int 0, .int 0, .int 0]))]) ++ (eP cI N Eo Er En Ez EF)) H := va_P.swap hP
                    have hD : va_D A (((xU cI cB cE o r n z F G (Eo 0 0)) ++ [(qn, .inr (0, [.int 0, .int 0, .null, .null, .null, .null, .null, .int 0, .int 0, .int 0, .int 0, .int 0]))]) ++ (eP cI N Eo Er En Ez EF)) := va_D.swap hD
                    refine lv_dup hx hb dX5_entry_85 rfl ?_
                    refine lv_iload_n hx hb dX5_entry_86 rfl (lv_at hl 1 rfl) ?_
                    refine lv_iload_n hx hb dX5_entry_87 rfl (lv_at hl 2 rfl) ?_
                    have hPc := hP.sub (ws' := [(qn, .inr (0, [.int 0, .int 0, .null, .null, .null, .null, .null, .int 0, .int 0, .int 0, .int 0, .int 0]))]) [29] rfl
                    have hDc := hD.sub (ws' := [(qn, .inr (0, [.int 0, .int 0, .null, .null, .null, .null, .null, .int 0, .int 0, .int 0, .int 0, .int 0]))]) [29] (by decide) rfl
                    have hFc := va_free (wc := [(qn, .inr (0, [.int 0, .int 0, .null, .null, .null, .null, .null, .int 0, .int 0, .int 0, .int 0, .int 0]))]) hD hS hA [29] rfl
                    refine va_callv (va_runI (As := [.int (iz p0), .int (iz p1)]) (rest := [.ref qn, .int (iz (z 12)), .ref (o 16)]) ⟨hx, hb, hml, hown, hts⟩ (c_Entry_init l hlf dC dI qn (iz p0) (iz p1) cI cB cE H.size) (cwI 2 hts (kx_gI kq_23_xmake_27 rfl) rfl rfl rfl (kx_word hG kq_16_xentry_2 rfl) (kx_word hG kq_23_xmake_28 rfl) (kx_word hG kq_23_xmake_29 rfl) rfl (by decide +kernel) ⟨Nat.le_of_ble_eq_true rfl, Nat.le_of_ble_eq_true rfl⟩) ⟨kx_blind, kx_give (ws := []) (tys := []) hPc hDc hK hG hZ hS hFc⟩ rfl rfl hl.1 rfl (lv_room (Nat.le_of_ble_eq_true rfl)) dX5_entry_88 ⟨show (0 + 1) + 15 ≤ 60 from (by omega), show (0 + 12) + 24 ≤ 200 from (by omega)⟩) hS (fun q _ h => hFc q h) hFc (fun u t H1 locs ht hvm hw hB hz1 hk1 hS => ?_)
                    obtain ⟨q1, q2, q3, q4, q5, q6, q7, q8, a0, a1, a2, a3, a4, a5, a6⟩ := u
                    obtain ⟨hP1, hK1, hD1⟩ := hB
                    rw [ht] at hP1
                    obtain ⟨hP, hD⟩ := va_joinQ (wr := (xU cI cB cE o r n z F G (Eo 0 0))) (w1 := [(qn, .inr (0, [.int (iz p0), .int (iz p1), .ref q1, .ref q2, .ref q3, .ref q5, .ref q4, .int (-1), .int (-1), .int 0, .int 0, .int 0])), (q1, .inr (1, [.int 20, .ref a0, .int 0])), (a0, .inl (cI, 0, .inl (fun _ => 0))), (q2, .inr (1, [.int 20, .ref a1, .int 0])), (a1, .inl (cI, 0, .inl (fun _ => 0))), (q3, .inr (1, [.int 40, .ref a2, .int 0])), (a2, .inl (cI, 0, .inl (fun _ => 0))), (q4, .inr (1, [.int 5, .ref a3, .int 0])), (a3, .inl (cI, 0, .inl (fun _ => 0))), (q5, .inr (3, [.ref q6, .ref q7, .ref q8])), (q6, .inr (1, [.int 20, .ref a4, .int 0])), (a4, .inl (cI, 0, .inl (fun _ => 0))), (q7, .inr (1, [.int 20, .ref a5, .int 0])), (a5, .inl (cI, 0, .inl (fun _ => 0))), (q8, .inr (1, [.int 20, .ref a6, .int 0])), (a6, .inl (cI, 0, .inl (fun _ => 0)))]) hP hD [29] [0, 1, 2, 3, 4, 5, 6, 7, 8, 9, 10, 11, 12, 13, 14, 15, 16, 17, 18, 19, 20, 21, 22, 23, 24, 25, 26, 27, 28] rfl rfl (by decide) (by decide) hk1 hFc hP1 hD1
                    generalize H1 = H at hP hS ⊢
                    have hP : va_P (dC, dI) kxCl (((xU cI cB cE o r n z F G (Eo 0 0)) ++ eU cI (eNo qn q1 q2 q3 q4 q5 q6 q7 q8) (eNr a0 a1 a2 a3 a4 a5 a6) (fun _ => 0) (eNz p0 p1) (fun _ _ => 0)) ++ (eP cI N Eo Er En Ez EF)) H := by rw [← eN_eq]; exact hP
                    have hD : va_D A (((xU cI cB cE o r n z F G (Eo 0 0)) ++ eU cI (eNo qn q1 q2 q3 q4 q5 q6 q7 q8) (eNr a0 a1 a2 a3 a4 a5 a6) (fun _ => 0) (eNz p0 p1) (fun _ _ => 0)) ++ (eP cI N Eo Er En Ez EF)) := by rw [← eN_eq]; exact hD
                    refine W.eq (g2 := F0 m 91 ls [.ref qn, .int (iz (z 12)), .ref (o 16)]) rfl ?_
                    refine va_astq (r := (RX0, TX0, 12)) hx hb hK hP hD hS 1 2 29 0 rfl rfl rfl rfl (iz_in (by omega) (by omega) (by omega)) dX5_entry_91 (fun H locs hP hD hS => ?_)
                    rw [iz_clamp (by omega) (by omega)] at hP hD
                    have hP : va_P (dC, dI) kxCl (((xU cI cB cE o r n z F (va_up G (z 12).toNat (some qn)) (Eo 0 0)) ++ eU cI (eNo qn q1 q2 q3 q4 q5 q6 q7 q8) (eNr a0 a1 a2 a3 a4 a5 a6) (fun _ => 0) (eNz p0 p1) (fun _ _ => 0)) ++ (eP cI N Eo Er En Ez EF)) H := hP
                    have hD : va_D A (((xU cI cB cE o r n z F (va_up G (z 12).toNat (some qn)) (Eo 0 0)) ++ eU cI (eNo qn q1 q2 q3 q4 q5 q6 q7 q8) (eNr a0 a1 a2 a3 a4 a5 a6) (fun _ => 0) (eNz p0 p1) (fun _ _ => 0)) ++ (eP cI N Eo Er En Ez EF)) := hD
                    have hP := hP.perm eX_push
                    have hD := hD.perm eX_push
                    have hnb : va_up Eo N (eNo qn q1 q2 q3 q4 q5 q6 q7 q8) 0 0 = Eo 0 0 := by rw [va_up_ne _ _ (show 0 ≠ N by omega)]
                    have hN4b : ∀ e : Nat, (e : Int) < z 12 + 1 → va_up G (z 12).toNat (some qn) e = some (va_up Eo N (eNo qn q1 q2 q3 q4 q5 q6 q7 q8) (e + 1) 0) := eN_G (o := eNo qn q1 q2 q3 q4 q5 q6 q7 q8) hN1 hN3 hN4
                    have hPE9 := hPE.push (N := N) (eN_ok p0 p1 (by omega) (by omega))
                    rw [← hnb] at hP hD
                    have hel : ∀ j, j < N → va_up Ez N (eNz p0 p1) j = Ez j ∧ va_up EF N (fun _ _ => 0) j = EF j := fun j hj => ⟨va_up_ne _ _ (by omega), va_up_ne _ _ (by omega)⟩
                    have hen : va_up Ez N (eNz p0 p1) N = eNz p0 p1 := va_up_self _ _ _
                    generalize hG9 : va_up G (z 12).toNat (some qn) = G2 at hP hD hN4b
                    generalize hEo9 : va_up Eo N (eNo qn q1 q2 q3 q4 q5 q6 q7 q8) = Eo2 at hP hD hN4b
                    generalize hEr9 : va_up Er N (eNr a0 a1 a2 a3 a4 a5 a6) = Er2 at hP hD
                    generalize hEn9 : va_up En N (fun _ => 0) = En2 at hP hD hPE9
                    generalize hEz9 : va_up Ez N (eNz p0 p1) = Ez2 at hP hD hPE9 hel hen
                    generalize hEF9 : va_up EF N (fun _ _ => 0) = EF2 at hP hD hPE9 hel
                    have hef : eFr [] [] En2 Ez2 EF2 En2 Ez2 EF2 := eFr.rf
                    have hP : va_P (dC, dI) kxCl ((xU cI cB cE o r n z F G2 (Eo2 0 0)) ++ (eP cI (N + 1) Eo2 Er2 En2 Ez2 EF2)) H := hP
                    have hD : va_D A ((xU cI cB cE o r n z F G2 (Eo2 0 0)) ++ (eP cI (N + 1) Eo2 Er2 En2 Ez2 EF2)) := hD
                    refine W.eq (g2 := F0 m 92 ls []) rfl ?_
                    refine lv_aload_n hx hb dX5_entry_92 rfl (lv_at hl 0 rfl) ?_
                    refine lv_dup hx hb dX5_entry_93 rfl ?_
                    have hxz_41 : -2147483648 ≤ z 12 ∧ z 12 < 2147483648 := hok.2.2.2.1 12
                    refine va_get (D := (dC, dI)) (ci := 5) (v := .int (iz (z 12))) (C := RX5) (T := TX5) (N := 16) hx hb hts kt_X5 hown hK hP 0 rfl rfl 2 (by decide) (kx_word hG kq_18_xrows_0 rfl) (fun _ h9 => h9) rfl dX5_entry_94 ?_
                    refine lv_iconst (v := iz 1) hx hb dX5_entry_97 (by decide) ?_
                    refine ki_iadd hx hb dX5_entry_98 ?_
                    refine va_put (D := (dC, dI)) (ci := 5) (v := .int (iz ((z 12) + 1))) (ty := .int) (C := RX5) (T := TX5) (N := 16) hx hb hts kt_X5 tyX5 tyX5_ok nmX5 hown hK hP hD hS 0 rfl rfl 2 (by decide) (kx_word hG kq_18_xrows_0 rfl) (fun _ h9 => h9) rfl (by decide +kernel) rfl rfl (Nat.le_of_ble_eq_true rfl) dX5_entry_99 (fun H locs hP hD hS => ?_)
                    have hP : va_P (dC, dI) kxCl ((xU cI cB cE o r n (va_up z 12 ((z 12) + 1)) F G2 (Eo2 0 0)) ++ (eP cI (N + 1) Eo2 Er2 En2 Ez2 EF2)) H := hP
                    have hD : va_D A ((xU cI cB cE o r n (va_up z 12 ((z 12) + 1)) F G2 (Eo2 0 0)) ++ (eP cI (N + 1) Eo2 Er2 En2 Ez2 EF2)) := hD
                    refine lv_aload_n hx hb dX5_entry_102 rfl (lv_at hl 0 rfl) ?_
                    have hok42 : xOk n (va_up z 12 ((z 12) + 1)) F := (hok.s 12 (by decide) (show -2147483648 ≤ (z 12) + 1 ∧ (z 12) + 1 < 2147483648 by omega) (by omega))
                    have hfr42 : xFr [12, 15, 16] [] z F (va_up z 12 ((z 12) + 1)) F := (hfr.uz 12 (by decide) _)
                    have hxG9 : xG (N + 1) ((z 12) + 1) G2 Eo2 := ⟨by omega, by omega, by omega, fun e9 h9 => hN4b e9 (by omega)⟩
                    have hP : va_P (dC, dI) kxCl (xU cI cB cE o r n (va_up z 12 ((z 12) + 1)) F G2 (Eo2 0 0) ++ eP cI (N + 1) Eo2 Er2 En2 Ez2 EF2) H := hP
                    have hD : va_D A (xU cI cB cE o r n (va_up z 12 ((z 12) + 1)) F G2 (Eo2 0 0) ++ eP cI (N + 1) Eo2 Er2 En2 Ez2 EF2) := hD
                    have hFc := xw_free hD hS hA
                    refine xk_call (va_runV (As := []) (rest := []) ⟨hx, hb, hml, hown, hts⟩ (y_forgetRows l dC dI cI cB cE o r n (va_up z 12 ((z 12) + 1)) F G2 (N + 1) Eo2 Er2 En2 Ez2 EF2  H.size hok42 hxG9 hPE9 ) (cwV 0 hts (kx_gV kq_21_xcalls_6 kq_21_xcalls_7 kq_21_xcalls_8 kq_18_xrows_4 kq_21_xcalls_9 rfl) rfl rfl rfl (by decide +kernel) ⟨Nat.le_of_ble_eq_true rfl, Nat.le_of_ble_eq_true rfl⟩) ⟨kx_blind, va_recv hK hP (ci := 5) (q0 := 0) rfl rfl, kx_give (ws := []) (tys := []) hP hD hK hG hZ hS hFc⟩ rfl rfl hl.1 rfl (lv_room (Nat.le_of_ble_eq_true rfl)) dX5_entry_103 ⟨show ((0 + 1) + 15) + 0 ≤ 60 from (by omega), show ((0 + 12) + 24) + 0 ≤ 200 from (by omega)⟩) hS (fun q _ h => hFc q h) hFc (fun u dn_45 dm_46 t H locs ht hvm hq_43 hB hk1 hS => ?_)
                    obtain ⟨r_47, n_48, z_49, F_50, Er_51, En_52, Ez_53, EF_54⟩ := u
                    obtain ⟨hP, hK1, hD1⟩ := hB
                    rw [ht] at hP
                    have hD := hD1.weaken (fun _ q _ h => hFc _ h)
                    obtain ⟨hR55, hC55, hq_43⟩ := hq_43
                    obtain ⟨rfl, rfl, rfl, rfl, rfl, rfl, rfl, hq_43⟩ := hq_43
                    subst hq_43
                    have hP : va_P (dC, dI) kxCl ((xU cI cB cE o r n (va_up (va_up (va_up z 12 ((z 12) + 1)) 15 0) 16 (-1)) F G2 (Eo2 0 0)) ++ (eP cI (N + 1) Eo2 Er2 En2 Ez2 EF2)) H := hP
                    have hD : va_D A ((xU cI cB cE o r n (va_up (va_up (va_up z 12 ((z 12) + 1)) 15 0) 16 (-1)) F G2 (Eo2 0 0)) ++ (eP cI (N + 1) Eo2 Er2 En2 Ez2 EF2)) := hD
                    refine W.eq (g2 := F0 m 106 ls []) rfl ?_
                    refine lv_aload_n hx hb dX5_entry_106 rfl (lv_at hl 0 rfl) ?_
                    refine va_get (D := (dC, dI)) (ci := 5) (v := .int (iz ((z 12) + 1))) (C := RX5) (T := TX5) (N := 16) hx hb hts kt_X5 hown hK hP 0 rfl rfl 2 (by decide) (kx_word hG kq_18_xrows_0 rfl) (fun _ h9 => h9) rfl dX5_entry_107 ?_
                    refine lv_iconst (v := iz 1) hx hb dX5_entry_110 (by decide) ?_
                    refine ki_isub hx hb dX5_entry_111 ?_
                    have hxz_56 : -2147483648 ≤ z 15 ∧ z 15 < 2147483648 := hok.2.2.2.1 15
                    have hxb_57 : z 15 = 0 ∨ z 15 = 1 := hok.2.2.2.2 15 (by decide)
                    have hxz_58 : -2147483648 ≤ z 16 ∧ z 16 < 2147483648 := hok.2.2.2.1 16
                    have hok59 : xOk n (va_up (va_up (va_up z 12 ((z 12) + 1)) 15 0) 16 (-1)) F := (((hok.s 12 (by decide) (show -2147483648 ≤ (z 12) + 1 ∧ (z 12) + 1 < 2147483648 by omega) (by omega)).s 15 (by decide) (show -2147483648 ≤ 0 ∧ 0 < 2147483648 by omega) (by omega)).s 16 (by decide) (show -2147483648 ≤ (-1) ∧ (-1) < 2147483648 by omega) (by omega))
                    have hfr59 : xFr [12, 15, 16] [] z F (va_up (va_up (va_up z 12 ((z 12) + 1)) 15 0) 16 (-1)) F := (((hfr.uz 12 (by decide) _).uz 15 (by decide) _).uz 16 (by decide) _)
                    refine vx_ret ?_
                    have hzq : (va_up (va_up (va_up z 12 ((z 12) + 1)) 15 0) 16 (-1)) 12 = z 12 + 1 := rfl
                    exact xk_iret (ov := (fun u : (Int) × (Nat → Int) × (Nat → Option Nat) × (Nat → Nat → Nat) × (Nat → Nat → Nat) × (Nat → Nat → Nat) × (Nat → Nat → Int) × (Nat → Nat → Int → Int) => match u with | (q, z', G', Eo', Er', En', Ez', EF') => some (.int (iz q)))) (post := (fun (u : (Int) × (Nat → Int) × (Nat → Option Nat) × (Nat → Nat → Nat) × (Nat → Nat → Nat) × (Nat → Nat → Nat) × (Nat → Nat → Int) × (Nat → Nat → Int → Int)) (dn dm : Nat) => match u with | (q, z', G', Eo', Er', En', Ez', EF') => xOk n z' F ∧ xFr [12, 15, 16] [] z F z' F ∧ xG (N + 1) (z' 12) G' Eo' ∧ eA (N + 1) En' Ez' EF' ∧ (dn ≤ 30 ∧ dm ≤ 60) ∧ q = z 12 ∧ z' 12 = z 12 + 1 ∧ ((p0 = 0 ∧ p1 = -1) ∨ ((p0 = 1 ∨ p0 = 2) ∧ 0 ≤ p1 ∧ p1 < z 12 ∧ Ez ((p1 + 1).toNat) 7 = p0 - 1)) ∧ (∀ j, j < N → Ez' j = Ez j ∧ EF' j = EF j) ∧ Ez' N 7 = p0 ∧ Ez' N 0 = 0 ∧ Ez' N 4 = 0 ∧ Ez' N 9 = -1 ∧ Ez' N 1 = 0 ∧ Ez' N 2 = 0 ∧ Ez' N 3 = 0 ∧ Ez' N 8 = p1 ∧ z' 15 = 0)) (ws := (fun u : (Int) × (Nat → Int) × (Nat → Option Nat) × (Nat → Nat → Nat) × (Nat → Nat → Nat) × (Nat → Nat → Nat) × (Nat → Nat → Int) × (Nat → Nat → Int → Int) => match u with | (q, z', G', Eo', Er', En', Ez', EF') => (xU cI cB cE o r n z' F G' (Eo' 0 0) ++ eP cI (N + 1) Eo' Er' En' Ez' EF'))) (tys := xT cI cB cE) (z := ((z 12) + 1) - 1) (((z 12) + 1) - 1, (va_up (va_up (va_up z 12 ((z 12) + 1)) 15 0) 16 (-1)), G2, Eo2, Er2, En2, Ez2, EF2) hx hb hr rfl hlocks rfl hP hD hK hS dX5_entry_112 (fun dn dm hdn hdm => ⟨hok59, hfr59, ⟨by omega, by omega, by omega, fun e9 h9 => hN4b e9 (by omega)⟩, hPE9, ⟨by omega, by omega⟩, by omega, by omega, by omega, fun j hj => hel j hj, by rw [hen]; rfl, by rw [hen]; rfl, by rw [hen]; rfl, by rw [hen]; rfl, by rw [hen]; rfl, by rw [hen]; rfl, by rw [hen]; rfl, by rw [hen]; rfl, rfl⟩) (by omega) (by omega)
                  · omega
              · omega
            · skip
              refine ki_if_ne (tgt := 47) hx hb dX5_entry_36 (by decide) (by omega) (by omega) (fun c_60 => ?_) (fun c_60 => ?_)
              · omega
              · skip
                exact ky_thr_IAE hx hb hlf hown hG hZ hS (hl.1.trans hml.symm) dX5_entry_39 dX5_entry_42 dX5_entry_43 dX5_entry_46 htab (Nat.le_of_ble_eq_true rfl) (Nat.le_of_ble_eq_true rfl) (show 0 + 1 ≤ 60 from (by omega)) (show 0 + 6 ≤ 200 from (by omega)) hlocks (Or.inr (⟨rfl, by first | trivial | omega⟩)) (fun t hvm h1 h2 => ⟨(r, n, z, F, Er, En, Ez, EF), ⟨hok, xFr.rf, hPE, eFr.rf⟩, hP.kept (fun k q hk => h2 q.1 (hP k q hk).lt), va_K.moved hvm hK, hD⟩) hS.2.2 (by omega) (by omega) (by omega) (by omega)
      · omega
    · skip
      refine ki_if_ne (tgt := 21) hx hb dX5_entry_10 (by decide) (by omega) (by omega) (fun c_61 => ?_) (fun c_61 => ?_)
      · omega
      · skip
        exact ky_thr_NSE hx hb hlf hown hG hZ hS (hl.1.trans hml.symm) dX5_entry_13 dX5_entry_16 dX5_entry_17 dX5_entry_20 htab (Nat.le_of_ble_eq_true rfl) (Nat.le_of_ble_eq_true rfl) (show 0 + 1 ≤ 60 from (by omega)) (show 0 + 6 ≤ 200 from (by omega)) hlocks (Or.inl ⟨rfl, by first | trivial | omega⟩) (fun t hvm h1 h2 => ⟨(r, n, z, F, Er, En, Ez, EF), ⟨hok, xFr.rf, hPE, eFr.rf⟩, hP.kept (fun k q hk => h2 q.1 (hP k q hk).lt), va_K.moved hvm hK, hD⟩) hS.2.2 (by omega) (by omega) (by omega) (by omega)
