/-! told, exact -/
def wr_TE (w : Int) (L : List (Int × Int × Int)) (c k a b : Int) : Prop := ∃ x y u : Int, wr_T w L x y u c k a b
theorem wr_TE_len {w c k a b : Int} {L : List (Int × Int × Int)} (h : wr_TE w L c k a b) : c = ((L.length : Nat) : Int) := by
  obtain ⟨x, y, u, h1, -⟩ := h
  exact h1
theorem wr_N_of {n r : Int} {Ez Ez' : Nat → Nat → Int} (he : ∀ j, Ez' j 10 = Ez j 10 ∧ Ez' j 4 = Ez j 4 ∧ Ez' j 3 = Ez j 3 ∧ Ez' j 8 = Ez j 8) (h : wr_C n (20 * n) (fun e r => rs_sE Ez e = r ∧ ¬ Ez ((e + 1).toNat) 4 = 0) (Ez' ((r + 1).toNat) 11) r ∧ wr_C n (5 * n) (fun e r => rs_sE Ez e = r ∧ ¬ Ez ((e + 1).toNat) 3 = 0) (Ez' ((r + 1).toNat) 12) r ∧ wr_C n (1 * n) (fun e r => (0 ≤ Ez ((e + 1).toNat) 8 ∧ Ez ((e + 1).toNat) 8 < n) ∧ rs_sE Ez (Ez ((e + 1).toNat) 8) = r) (Ez' ((r + 1).toNat) 13) r) : wr_N n Ez' r := by
  obtain ⟨h1, h2, h3⟩ := h
  have hs : rs_sE Ez' = rs_sE Ez := funext (fun x => (he _).1)
  refine ⟨wr_C_cg h1 (fun e a b => ?_), wr_C_cg h2 (fun e a b => ?_), wr_C_cg h3 (fun e a b => ?_)⟩
  · show _ ↔ (rs_sE Ez' e = r ∧ ¬ Ez' ((e + 1).toNat) 4 = 0)
    rw [hs, (he _).2.1]
  · show _ ↔ (rs_sE Ez' e = r ∧ ¬ Ez' ((e + 1).toNat) 3 = 0)
    rw [hs, (he _).2.2.1]
  · show _ ↔ ((0 ≤ Ez' ((e + 1).toNat) 8 ∧ Ez' ((e + 1).toNat) 8 < n) ∧ rs_sE Ez' (Ez' ((e + 1).toNat) 8) = r)
    rw [hs, (he _).2.2.2]
theorem wr_H.fr {n : Int} {En En' : Nat → Nat → Nat} {Ez Ez' : Nat → Nat → Int} {EF EF' : Nat → Nat → Int → Int} {pg sn op : Int → Int} {se : Int → Int → Int} {S T : List Nat} (h : wr_H n Ez EF pg sn op se) (he : eFr S T En Ez EF En' Ez' EF') (h1 : 3 ∉ S ∧ 4 ∉ S ∧ 9 ∉ S) (h2 : 3 ∉ T ∧ 4 ∉ T) : wr_H n Ez' EF' pg sn op se := by
  intro e a b
  rw [he.1 _ 3 h1.1, he.1 _ 4 h1.2.1, he.1 _ 9 h1.2.2, (he.2 _ 3 h2.1).2, (he.2 _ 4 h2.2).2]
  exact h e a b

set_option maxHeartbeats 4000000 in
set_option maxRecDepth 100000 in
theorem y_told4 (l : Launch) (hlf : l.stackTraces = false) (dC : Nat → ClassId) (dI : Nat → Nat → Nat) (cI cB cE : ClassId) (o r n : Nat → Nat) (z : Nat → Int) (F : Nat → Int → Int) (G : Nat → Option Nat) (N : Nat) (Eo Er En : Nat → Nat → Nat) (Ez : Nat → Nat → Int) (EF : Nat → Nat → Int → Int) (p0 : Int) (p1 : Int) (lv : Int → Int) (ab : Int → Int) (Wd : Int → Int → Prop) (cm : Int → Int → Int) (pg : Int → Int) (sn : Int → Int) (op : Int → Int) (se : Int → Int → Int) (sz : Nat) (hok : xOk n z F) (hxG : xG N (z 12) G Eo) (hPE : eA N En Ez EF) (hp01 : -2147483648 ≤ p0) (hp02 : p0 < 2147483648) (hp11 : -2147483648 ≤ p1) (hp12 : p1 < 2147483648) (hRH : rs_H (z 12) Ez EF lv ab Wd cm) (h79 : z 12 ≤ 78) (hkn : rs_RK z F Ez lv ab Wd cm) (wH : wr_H (z 12) Ez EF pg sn op se) : vx_Met l yX5_told [.code yX5_told cX5_told 4 (some .int)] ({ frames := 7, cells := 1200, slots := 600000, locals := 196 }) (va_Pc [.ref (o 15), .int (iz p0), .int (iz p1)] (kx_Pre dC dI (xU cI cB cE o r n z F G (Eo 0 0) ++ eP cI N Eo Er En Ez EF) (xT cI cB cE) sz)) (xQ (fun u : (Int) × (Nat → Nat) × (Nat → Nat) × (Nat → Int) × (Nat → Int → Int) × (Nat → Nat → Nat) × (Nat → Nat → Nat) × (Nat → Nat → Int) × (Nat → Nat → Int → Int) => match u with | (q, r', n', z', F', Er', En', Ez', EF') => some (.int (iz q))) (fun (u : (Int) × (Nat → Nat) × (Nat → Nat) × (Nat → Int) × (Nat → Int → Int) × (Nat → Nat → Nat) × (Nat → Nat → Nat) × (Nat → Nat → Int) × (Nat → Nat → Int → Int)) (dn dm : Nat) => match u with | (q, r', n', z', F', Er', En', Ez', EF') => xR [0, 1, 15, 17, 18, 19, 20, 21] [0, 1] [10, 11, 12, 13] [] N z F En Ez EF n' z' F' En' Ez' EF' ∧ (dn + xg n' ≤ xg n + 0 ∧ dm + xp n' ≤ xp n + 0) ∧ (rs_RK z' F' Ez' lv ab Wd cm ∧ z' 15 = 1 ∧ ∃ nn kd av mv : Int, wr_TE p0 (wr_a (z 12) lv ab (rs_sE Ez') pg sn op se (z 12).toNat 0) nn kd av mv ∧ ¬ (¬ p0 = -1 ∧ (¬ (0 ≤ p0 ∧ p0 < nn) ∨ p1 < 0 ∨ 2 < p1)) ∧ q = (if p0 = -1 then nn else if p1 = 0 then kd else if p1 = 1 then av else mv))) (fun u t => kx_At dC dI (va_A (xU cI cB cE o r n z F G (Eo 0 0) ++ eP cI N Eo Er En Ez EF) sz) ((fun u : (Int) × (Nat → Nat) × (Nat → Nat) × (Nat → Int) × (Nat → Int → Int) × (Nat → Nat → Nat) × (Nat → Nat → Nat) × (Nat → Nat → Int) × (Nat → Nat → Int → Int) => match u with | (q, r', n', z', F', Er', En', Ez', EF') => (xU cI cB cE o r' n' z' F' G (Eo 0 0) ++ eP cI N Eo Er' En' Ez' EF')) u) (xT cI cB cE) t) (va_A (xU cI cB cE o r n z F G (Eo 0 0) ++ eP cI N Eo Er En Ez EF) sz)) (yX (fun E => (E = "java/lang/IndexOutOfBoundsException" ∧ (∃ s9 : Int → Int, rs_C lv ab Wd (z 12) s9 ∧ (¬ p0 = -1 ∧ (¬ (0 ≤ p0 ∧ p0 < (((wr_a (z 12) lv ab s9 pg sn op se (z 12).toNat 0).length : Nat) : Int)) ∨ p1 < 0 ∨ 2 < p1))))) 95 41800 (fun t => ∃ u : (Nat → Nat) × (Nat → Nat) × (Nat → Int) × (Nat → Int → Int) × (Nat → Nat → Nat) × (Nat → Nat → Nat) × (Nat → Nat → Int) × (Nat → Nat → Int → Int), match u with | (r', n', z', F', Er', En', Ez', EF') => xR [0, 1, 15, 17, 18, 19, 20, 21] [0, 1] [10, 11, 12, 13] [] N z F En Ez EF n' z' F' En' Ez' EF' ∧ (rs_RK z' F' Ez' lv ab Wd cm ∧ z' 15 = 1) ∧ kx_At dC dI (va_A (xU cI cB cE o r n z F G (Eo 0 0) ++ eP cI N Eo Er En Ez EF) sz) (xU cI cB cE o r' n' z' F' G (Eo 0 0) ++ eP cI N Eo Er' En' Ez' EF') (xT cI cB cE) t) (va_A (xU cI cB cE o r n z F G (Eo 0 0) ++ eP cI N Eo Er En Ez EF) sz)) 1200 600000 (va_A (xU cI cB cE o r n z F G (Eo 0 0) ++ eP cI N Eo Er En Ez EF) sz) := by
  refine vx_ofW (cc := cX5_told) (maxL := 4) (ret := (some .int)) (by decide) rfl ?_
  intro p e s m args below meth c s₁ B hml htab hv
  obtain ⟨rfl, hsz, hP, hK, hD0, hG, hZ⟩ := hv
  have hx := B.exec
  have hb := B.bytes
  have hr := B.returns
  have hts := kx_hts (a := ([.ref (o 15), .int (iz p0), .int (iz p1)] : List Value).toArray) hG
  have hown : s.vm.findClass RX5 = some m.cls := findClass_of_methodNamed B.named
  have hlocks := B.notSynchronized
  subst hsz
  have hD := hD0.self (sz := s.heap.size)
  generalize hAe : va_A (xU cI cB cE o r n z F G (Eo 0 0) ++ eP cI N Eo Er En Ez EF) s.heap.size = A at hD hZ ⊢
  have hA : ∀ q : Nat, s.heap.size ≤ q → A q := fun q h => by rw [← hAe]; exact Or.inr h
  have hS : va_S A s.heap s.heap [] := va_S.rf
  have hl := lv_entry ([.ref (o 15), .int (iz p0), .int (iz p1)]) (n := 4) (Nat.le_of_ble_eq_true rfl)
  rw [lg_entry_eq]
  generalize (lg_sl ([.ref (o 15), .int (iz p0), .int (iz p1)]) ++ List.replicate (4 - (lg_sl ([.ref (o 15), .int (iz p0), .int (iz p1)])).length) Slot.unset).toArray = ls at hl ⊢
  obtain ⟨hN1, hN2, hN3, hN4⟩ := hxG
  have hef : eFr [10, 11, 12, 13] [] En Ez EF En Ez EF := eFr.rf
  have hfr : xFr [0, 1, 15, 17, 18, 19, 20, 21] [0, 1] z F z F := xFr.rf
  have hxgl := xg_le n
  have hxpl := xp_le n
  have hl : lv_has ls 4 [(0, .ref (o 15)), (1, .int (iz p0)), (2, .int (iz p1))] := hl
  generalize hQe : vx_MQ below (xQ (fun u : (Int) × (Nat → Nat) × (Nat → Nat) × (Nat → Int) × (Nat → Int → Int) × (Nat → Nat → Nat) × (Nat → Nat → Nat) × (Nat → Nat → Int) × (Nat → Nat → Int → Int) => match u with | (q, r', n', z', F', Er', En', Ez', EF') => some (.int (iz q))) (fun (u : (Int) × (Nat → Nat) × (Nat → Nat) × (Nat → Int) × (Nat → Int → Int) × (Nat → Nat → Nat) × (Nat → Nat → Nat) × (Nat → Nat → Int) × (Nat → Nat → Int → Int)) (dn dm : Nat) => match u with | (q, r', n', z', F', Er', En', Ez', EF') => xR [0, 1, 15, 17, 18, 19, 20, 21] [0, 1] [10, 11, 12, 13] [] N z F En Ez EF n' z' F' En' Ez' EF' ∧ (dn + xg n' ≤ xg n + 0 ∧ dm + xp n' ≤ xp n + 0) ∧ (rs_RK z' F' Ez' lv ab Wd cm ∧ z' 15 = 1 ∧ ∃ nn kd av mv : Int, wr_TE p0 (wr_a (z 12) lv ab (rs_sE Ez') pg sn op se (z 12).toNat 0) nn kd av mv ∧ ¬ (¬ p0 = -1 ∧ (¬ (0 ≤ p0 ∧ p0 < nn) ∨ p1 < 0 ∨ 2 < p1)) ∧ q = (if p0 = -1 then nn else if p1 = 0 then kd else if p1 = 1 then av else mv))) (fun u t => kx_At dC dI A ((fun u : (Int) × (Nat → Nat) × (Nat → Nat) × (Nat → Int) × (Nat → Int → Int) × (Nat → Nat → Nat) × (Nat → Nat → Nat) × (Nat → Nat → Int) × (Nat → Nat → Int → Int) => match u with | (q, r', n', z', F', Er', En', Ez', EF') => (xU cI cB cE o r' n' z' F' G (Eo 0 0) ++ eP cI N Eo Er' En' Ez' EF')) u) (xT cI cB cE) t) A) (yX (fun E => (E = "java/lang/IndexOutOfBoundsException" ∧ (∃ s9 : Int → Int, rs_C lv ab Wd (z 12) s9 ∧ (¬ p0 = -1 ∧ (¬ (0 ≤ p0 ∧ p0 < (((wr_a (z 12) lv ab s9 pg sn op se (z 12).toNat 0).length : Nat) : Int)) ∨ p1 < 0 ∨ 2 < p1))))) 95 41800 (fun t => ∃ u : (Nat → Nat) × (Nat → Nat) × (Nat → Int) × (Nat → Int → Int) × (Nat → Nat → Nat) × (Nat → Nat → Nat) × (Nat → Nat → Int) × (Nat → Nat → Int → Int), match u with | (r', n', z', F', Er', En', Ez', EF') => xR [0, 1, 15, 17, 18, 19, 20, 21] [0, 1] [10, 11, 12, 13] [] N z F En Ez EF n' z' F' En' Ez' EF' ∧ (rs_RK z' F' Ez' lv ab Wd cm ∧ z' 15 = 1) ∧ kx_At dC dI A (xU cI cB cE o r' n' z' F' G (Eo 0 0) ++ eP cI N Eo Er' En' Ez' EF') (xT cI cB cE) t) A) ([.ref (o 15), .int (iz p0), .int (iz p1)] : List Value).toArray s 1200 600000 A = QQ
  refine lv_aload_n hx hb dX5_told_0 rfl (lv_at hl 0 rfl) ?_
  have hxz_1 : -2147483648 ≤ z 12 ∧ z 12 < 2147483648 := hok.2.2.2.1 12
  have hxG9 : xG N (z 12) G Eo := ⟨by omega, by omega, by omega, fun e9 h9 => hN4 e9 (by omega)⟩
  have hP : va_P (dC, dI) kxCl (xU cI cB cE o r n z F G (Eo 0 0) ++ eP cI N Eo Er En Ez EF) s.heap := hP
  have hD : va_D A (xU cI cB cE o r n z F G (Eo 0 0) ++ eP cI N Eo Er En Ez EF) := hD
  have hFc := xw_free hD hS hA
  refine xk_call (va_runV (As := []) (rest := []) ⟨hx, hb, hml, hown, hts⟩ (y_findRows2 l dC dI cI cB cE o r n z F G N Eo Er En Ez EF lv ab Wd cm s.heap.size hok hxG9 hPE (by first | exact hRH | exact hRH.fr hef (by decide) (by decide)) (show z 12 ≤ 78 by omega) hkn) (cwV 0 hts (kx_gV kq_21_xcalls_25 kq_21_xcalls_26 kq_21_xcalls_27 kq_18_xrows_4 kq_21_xcalls_28 rfl) rfl rfl rfl (by decide +kernel) ⟨Nat.le_of_ble_eq_true rfl, Nat.le_of_ble_eq_true rfl⟩) ⟨kx_blind, va_recv hK hP (ci := 5) (q0 := 0) rfl rfl, kx_give (ws := []) (tys := []) hP hD hK hG hZ hS hFc⟩ rfl rfl hl.1 rfl (lv_room (Nat.le_of_ble_eq_true rfl)) dX5_told_1 ⟨show 0 + 600 ≤ 1200 from (by omega), show 0 + 300000 ≤ 600000 from (by omega)⟩) hS (fun q _ h => hFc q h) hFc (fun u dn_4 dm_5 t H locs ht hvm hq_2 hB hk1 hS => ?_)
  obtain ⟨r_6, n_7, z_8, F_9, Er_10, En_11, Ez_12, EF_13⟩ := u
  obtain ⟨hP, hK1, hD1⟩ := hB
  rw [ht] at hP
  have hD := hD1.weaken (fun _ q _ h => hFc _ h)
  obtain ⟨hR14, hC14, hq_2⟩ := hq_2
  have hok14 := hR14.1
  have hfr14 := hfr.tr (hR14.2.1.mono (S' := [0, 1, 15, 17, 18, 19, 20, 21]) (T' := [0, 1]) (by decide) (by decide))
  have hPE14 := hR14.2.2.1
  have hef14 := hef.tr (hR14.2.2.2.mono (S' := [10, 11, 12, 13]) (T' := []) (by decide) (by decide))
  have hz14 : z_8 12 = (z 12) := hR14.2.1.1 12 (by decide)
  refine W.eq (g2 := F0 m 4 ls []) rfl ?_
  try dsimp only at hq_2
  obtain ⟨hk1515, hrr15⟩ := hq_2
  have hrk15 : rs_RK z_8 F_9 Ez_12 lv ab Wd cm := fun _ => hrr15
  have hz12a : z_8 12 = z 12 := by omega
  have hCs : rs_C lv ab Wd (z 12) (rs_sE Ez_12) := by rw [← hz12a]; exact hrr15.1
  have hsA : ∀ e, 0 ≤ e → e < z 12 → 0 ≤ rs_sE Ez_12 e ∧ rs_sE Ez_12 e ≤ e := fun e a b => (hCs e a b).1
  refine lv_aload_n hx hb dX5_told_4 rfl (lv_at hl 0 rfl) ?_
  have hxz_16 : -2147483648 ≤ z_8 12 ∧ z_8 12 < 2147483648 := hok14.2.2.2.1 12
  have hxG9 : xG N (z_8 12) G Eo := ⟨by omega, by omega, by omega, fun e9 h9 => hN4 e9 (by omega)⟩
  have hP : va_P (dC, dI) kxCl (xU cI cB cE o r_6 n_7 z_8 F_9 G (Eo 0 0) ++ eP cI N Eo Er_10 En_11 Ez_12 EF_13) H := hP
  have hD : va_D A (xU cI cB cE o r_6 n_7 z_8 F_9 G (Eo 0 0) ++ eP cI N Eo Er_10 En_11 Ez_12 EF_13) := hD
  have hFc := xw_free hD hS hA
  refine xk_call (va_runV (As := []) (rest := []) ⟨hx, hb, hml, hown, hts⟩ (y_countByRows2 l dC dI cI cB cE o r_6 n_7 z_8 F_9 G N Eo Er_10 En_11 Ez_12 EF_13  H.size hok14 hxG9 hPE14 (by show ∀ e, 0 ≤ e → e < z_8 12 → 0 ≤ rs_sE Ez_12 e ∧ rs_sE Ez_12 e ≤ e; rw [show z_8 12 = z 12 by omega]; exact hsA) (show z_8 12 ≤ 78 by omega)) (cwV 0 hts (kx_gV kq_21_xcalls_41 kq_21_xcalls_42 kq_21_xcalls_43 kq_18_xrows_4 kq_21_xcalls_44 rfl) rfl rfl rfl (by decide +kernel) ⟨Nat.le_of_ble_eq_true rfl, Nat.le_of_ble_eq_true rfl⟩) ⟨kx_blind, va_recv hK hP (ci := 5) (q0 := 0) rfl rfl, kx_give (ws := []) (tys := []) hP hD hK hG hZ hS hFc⟩ rfl rfl hl.1 rfl (lv_room (Nat.le_of_ble_eq_true rfl)) dX5_told_5 ⟨show (0 + dn_4) + 100 ≤ 1200 from (by omega), show (0 + dm_5) + 42000 ≤ 600000 from (by omega)⟩) hS (fun q _ h => hFc q h) hFc (fun u dn_19 dm_20 t H locs ht hvm hq_17 hB hk1 hS => ?_)
  obtain ⟨r_21, n_22, z_23, F_24, Er_25, En_26, Ez_27, EF_28⟩ := u
  obtain ⟨hP, hK1, hD1⟩ := hB
  rw [ht] at hP
  have hD := hD1.weaken (fun _ q _ h => hFc _ h)
  obtain ⟨hR29, hC29, hq_17⟩ := hq_17
  have hok29 := hR29.1
  have hfr29 := hfr14.tr (hR29.2.1.mono (S' := [0, 1, 15, 17, 18, 19, 20, 21]) (T' := [0, 1]) (by decide) (by decide))
  have hPE29 := hR29.2.2.1
  have hef29 := hef14.tr (hR29.2.2.2.mono (S' := [10, 11, 12, 13]) (T' := []) (by decide) (by decide))
  have hz29 : z_23 12 = (z_8 12) := hR29.2.1.1 12 (by decide)
  have hkr29_15 : z_23 15 = z_8 15 := hR29.2.1.1 15 (by decide)
  refine W.eq (g2 := F0 m 8 ls []) rfl ?_
  try dsimp only at hq_17
  have hrk30 : rs_RK z_23 F_24 Ez_27 lv ab Wd cm := rs_RK.fr hrk15 (hR29.2.1.1 15 (by decide)) (hR29.2.1.1 12 (by decide)) (hR29.2.1.1 1 (by decide)) (hR29.2.1.2 1 (by decide)) (fun j => hR29.2.2.2.1 j 10 (by decide))
  have hz12b : z_23 12 = z 12 := by omega
  have hse : rs_sE Ez_27 = rs_sE Ez_12 := funext (fun x => hR29.2.2.2.1 _ 10 (by decide))
  have hNc : ∀ r, 0 ≤ r → r < z 12 → wr_N (z 12) Ez_27 r := fun r a b => by have h9 := hq_17 r a (by omega); rw [hz12a] at h9; exact wr_N_of (fun j => ⟨(hR29.2.2.2.1 j 10 (by decide)), (hR29.2.2.2.1 j 4 (by decide)), (hR29.2.2.2.1 j 3 (by decide)), (hR29.2.2.2.1 j 8 (by decide))⟩) h9
  have hsB : ∀ e, 0 ≤ e → e < z 12 → 0 ≤ rs_sE Ez_27 e ∧ rs_sE Ez_27 e ≤ e := by rw [hse]; exact hsA
  have hCb : rs_C lv ab Wd (z 12) (rs_sE Ez_27) := by rw [hse]; exact hCs
  have h8B : ∀ e, 0 ≤ e → e < z 12 → Ez_27 ((e + 1).toNat) 8 = ab e := fun e a b => (hef29.1 _ 8 (by decide)).trans (hRH.2.1 e a b).2
  have wHB : wr_H (z 12) Ez_27 EF_28 pg sn op se := wr_H.fr wH hef29 (by decide) (by decide)
  have hLB : rs_lv lv ab (z 12) := hRH.1.1
  refine lv_aload_n hx hb dX5_told_8 rfl (lv_at hl 0 rfl) ?_
  refine va_get (D := (dC, dI)) (ci := 5) (v := .ref (o 12)) (C := RX5) (T := TX5) (N := 16) hx hb hts kt_X5 hown hK hP 0 rfl rfl 12 (by decide) (kx_word hG kq_19_xouts_49 rfl) (fun _ h9 => h9) rfl dX5_told_9 ?_
  refine lv_iload_n hx hb dX5_told_12 rfl (lv_at hl 1 rfl) ?_
  have hxz_31 : -2147483648 ≤ z_23 17 ∧ z_23 17 < 2147483648 := hok29.2.2.2.1 17
  have hxz_32 : -2147483648 ≤ z_23 18 ∧ z_23 18 < 2147483648 := hok29.2.2.2.1 18
  have hxz_33 : -2147483648 ≤ z_23 19 ∧ z_23 19 < 2147483648 := hok29.2.2.2.1 19
  have hxz_34 : -2147483648 ≤ z_23 20 ∧ z_23 20 < 2147483648 := hok29.2.2.2.1 20
  have hxz_35 : -2147483648 ≤ z_23 21 ∧ z_23 21 < 2147483648 := hok29.2.2.2.1 21
  have hPc := hP.sub (ws' := (wU (o 12) (z_23 17) (z_23 18) (z_23 19) (z_23 20) (z_23 21))) [24] rfl
  have hDc := hD.sub (ws' := (wU (o 12) (z_23 17) (z_23 18) (z_23 19) (z_23 20) (z_23 21))) [24] (by decide) rfl
  have hFc := va_free (wc := (wU (o 12) (z_23 17) (z_23 18) (z_23 19) (z_23 20) (z_23 21))) hD hS hA [24] rfl
  refine xk_call (va_runV (As := [.int (iz p0)]) (rest := []) ⟨hx, hb, hml, hown, hts⟩ (x_lookFor2 l dC dI cI cB cE (o 12) (z_23 17) (z_23 18) (z_23 19) (z_23 20) (z_23 21) p0 H.size (by omega) (by omega) (by omega) (by omega) (by omega) (by omega) (by omega)) (cwV 1 hts (kx_gV kq_21_xcalls_45 kq_21_xcalls_46 kq_21_xcalls_47 kq_19_xouts_53 kq_21_xcalls_48 rfl) rfl rfl rfl (by decide +kernel) ⟨Nat.le_of_ble_eq_true rfl, Nat.le_of_ble_eq_true rfl⟩) ⟨kx_blind, va_recv hK hPc (ci := 4) (q0 := 0) rfl rfl, kx_give (ws := []) (tys := []) hPc hDc hK hG hZ hS hFc⟩ rfl rfl hl.1 rfl (lv_room (Nat.le_of_ble_eq_true rfl)) dX5_told_13 ⟨show ((0 + dn_4) + dn_19) + 0 ≤ 1200 from (by omega), show ((0 + dm_5) + dm_20) + 0 ≤ 600000 from (by omega)⟩) hS (fun q _ h => hFc q h) hFc (fun u dn_37 dm_38 t H locs ht hvm hq_36 hB hk1 hS => ?_)
  obtain ⟨z1_39, z2_40⟩ := u
  obtain ⟨hP1, hK1, hD1⟩ := hB
  rw [ht] at hP1
  obtain ⟨hP, hD⟩ := xj_pool (wr := [(o 15, .inr (5, [.ref (o 16), .ref (Eo 0 0), .int (iz (z_23 12)), .int (iz (z_23 13)), .int (iz (z_23 14)), .ref (o 0), .ref (o 1), .int (iz (z_23 15)), .ref (o 13), .ref (o 14), .int (iz (z_23 16)), .ref (o 2), .ref (o 12), .ref (o 3), .ref (o 10), .ref (o 11)])), (o 16, .inl (cE, 80, .inr (.inr (.inr (.inr G))))), (o 0, .inr (1, [.int (iz 80), .ref (r_21 0), .int (iz (z_23 0))])), (r_21 0, .inl (cI, n_22 0, .inl (iA (F_24 0)))), (o 1, .inr (1, [.int (iz 80), .ref (r_21 1), .int (iz (z_23 1))])), (r_21 1, .inl (cI, n_22 1, .inl (iA (F_24 1)))), (o 2, .inr (1, [.int (iz 80), .ref (r_21 2), .int (iz (z_23 2))])), (r_21 2, .inl (cI, n_22 2, .inl (iA (F_24 2)))), (o 3, .inr (1, [.int (iz 80), .ref (r_21 3), .int (iz (z_23 3))])), (r_21 3, .inl (cI, n_22 3, .inl (iA (F_24 3)))), (o 13, .inr (3, [.ref (o 4), .ref (o 5), .ref (o 6)])), (o 4, .inr (1, [.int (iz 1600), .ref (r_21 4), .int (iz (z_23 4))])), (r_21 4, .inl (cI, n_22 4, .inl (iA (F_24 4)))), (o 5, .inr (1, [.int (iz 1600), .ref (r_21 5), .int (iz (z_23 5))])), (r_21 5, .inl (cI, n_22 5, .inl (iA (F_24 5)))), (o 6, .inr (1, [.int (iz 1600), .ref (r_21 6), .int (iz (z_23 6))])), (r_21 6, .inl (cI, n_22 6, .inl (iA (F_24 6)))), (o 14, .inr (3, [.ref (o 7), .ref (o 8), .ref (o 9)])), (o 7, .inr (1, [.int (iz 1600), .ref (r_21 7), .int (iz (z_23 7))])), (r_21 7, .inl (cI, n_22 7, .inl (iA (F_24 7)))), (o 8, .inr (1, [.int (iz 1600), .ref (r_21 8), .int (iz (z_23 8))])), (r_21 8, .inl (cI, n_22 8, .inl (iA (F_24 8)))), (o 9, .inr (1, [.int (iz 1600), .ref (r_21 9), .int (iz (z_23 9))])), (r_21 9, .inl (cI, n_22 9, .inl (iA (F_24 9)))), (o 10, .inr (2, [.ref (r_21 10), .int (iz (z_23 10)), .int (iz (z_23 22))])), (r_21 10, .inl (cB, n_22 10, .inl (iA (F_24 10)))), (o 11, .inr (2, [.ref (r_21 11), .int (iz (z_23 11)), .int (iz (z_23 23))])), (r_21 11, .inl (cB, n_22 11, .inl (iA (F_24 11))))]) (w1 := (wU (o 12) z1_39 z2_40 (z_23 19) (z_23 20) (z_23 21))) (ws' := (xU cI cB cE o r_21 n_22 (va_up (va_up z_23 17 z1_39) 18 z2_40) F_24 G (Eo 0 0))) hP hD [24] [0, 1, 2, 3, 4, 5, 6, 7, 8, 9, 10, 11, 12, 13, 14, 15, 16, 17, 18, 19, 20, 21, 22, 23, 25, 26, 27, 28] [0, 1, 2, 3, 4, 5, 6, 7, 8, 9, 10, 11, 12, 13, 14, 15, 16, 17, 18, 19, 20, 21, 22, 23, 28, 24, 25, 26, 27] rfl rfl (by decide) (by decide) hk1 hFc hP1 hD1 rfl (by decide)
  refine W.eq (g2 := F0 m 16 ls []) rfl ?_
  try dsimp only at hq_36
  obtain ⟨hd41, hm41, hw17, hw18⟩ := hq_36
  subst hd41
  subst hm41
  refine lv_iconst (v := iz 0) hx hb dX5_told_16 (by decide) ?_
  refine lv_istore_n (lv' := [(3, .int (iz 0)), (0, .ref (o 15)), (1, .int (iz p0)), (2, .int (iz p1))]) hx hb dX5_told_17 rfl hl (by decide) rfl (fun ls hl => ?_)
  have hok42 : xOk n_22 (va_up (va_up z_23 17 z1_39) 18 z2_40) F_24 := ((hok29.s 17 (by decide) (show -2147483648 ≤ z1_39 ∧ z1_39 < 2147483648 by omega) (by omega)).s 18 (by decide) (show -2147483648 ≤ z2_40 ∧ z2_40 < 2147483648 by omega) (by omega))
  have hfr42 : xFr [0, 1, 15, 17, 18, 19, 20, 21] [0, 1] z F (va_up (va_up z_23 17 z1_39) 18 z2_40) F_24 := ((hfr29.uz 17 (by decide) _).uz 18 (by decide) _)
  have lp18 : ∀ (n0 : Nat) (k : Int) (rL18 : Nat → Nat) (nL18 : Nat → Nat) (zL18 : Nat → Int) (FL18 : Nat → Int → Int) (cv : Nat) (sv : Nat), ((xR [0, 1, 15, 17, 18, 19, 20, 21] [0, 1] [10, 11, 12, 13] [] N z F En Ez EF nL18 zL18 FL18 En_26 Ez_27 EF_28) ∧ (cv + xg nL18 ≤ xg n + (0) ∧ sv + xp nL18 ≤ xp n + (0)) ∧ (zL18 12 = z 12) ∧ (0 ≤ k ∧ k ≤ 79 ∧ k ≤ z 12) ∧ (zL18 17 = p0) ∧ (zL18 15 = 1) ∧ (0 ≤ zL18 18 ∧ zL18 18 ≤ 7 * k) ∧ (wr_TE p0 (wr_a (z 12) lv ab (rs_sE Ez_27) pg sn op se (k).toNat 0) (zL18 18) (zL18 19) (zL18 20) (zL18 21)) ∧ (rs_RK zL18 FL18 Ez_27 lv ab Wd cm)) → (z 12 - k).toNat < n0 → ∀ (H : Heap) (locs : List Loc), va_P (dC, dI) kxCl ((xU cI cB cE o rL18 nL18 zL18 FL18 G (Eo 0 0)) ++ (eP cI N Eo Er_25 En_26 Ez_27 EF_28)) H → va_D A ((xU cI cB cE o rL18 nL18 zL18 FL18 G (Eo 0 0)) ++ (eP cI N Eo Er_25 En_26 Ez_27 EF_28)) → va_S A s.heap H locs → ∀ ls : Array Slot, lv_has ls 4 [(3, .int (iz k)), (0, .ref (o 15)), (1, .int (iz p0)), (2, .int (iz p1))] → W p l e (headSpec [.code yX5_told cX5_told 4 (some .int)] ({ frames := 7, cells := 1200, slots := 600000, locals := 196 })).room s m ([.ref (o 15), .int (iz p0), .int (iz p1)] : List Value).toArray below meth c H locs cv sv QQ (F0 m 18 ls []) := by
    intro n0
    induction n0 with
    | zero => intro k rL18 nL18 zL18 FL18 cv sv hinv hm0; exact absurd hm0 (Nat.not_lt_zero _)
    | succ n0 ih18 =>
      intro k rL18 nL18 zL18 FL18 cv sv hinv hm0 H locs hP hD hS ls hl
      obtain ⟨hRLL18, hCLL18, hZLL18, hk, h17, h15, h18L, hT9, hrkL⟩ := hinv
      refine lv_iload_n hx hb dX5_told_18 rfl (lv_at hl 0 rfl) ?_
      refine lv_aload_n hx hb dX5_told_19 rfl (lv_at hl 1 rfl) ?_
      have hxz_43 : -2147483648 ≤ zL18 12 ∧ zL18 12 < 2147483648 := hRLL18.1.2.2.2.1 12
      refine va_get (D := (dC, dI)) (ci := 5) (v := .int (iz (zL18 12))) (C := RX5) (T := TX5) (N := 16) hx hb hts kt_X5 hown hK hP 0 rfl rfl 2 (by decide) (kx_word hG kq_18_xrows_0 rfl) (fun _ h9 => h9) rfl dX5_told_20 ?_
      refine ki_icmp_ge (tgt := 37) hx hb dX5_told_23 (by decide) (by omega) (by omega) (by omega) (by omega) (fun c_44 => ?_) (fun c_44 => ?_)
      · skip
        refine lv_iload_n hx hb dX5_told_37 rfl (lv_at hl 2 rfl) ?_
        refine lv_iconst (v := iz (-1)) hx hb dX5_told_38 (by decide) ?_
        refine ki_icmp_ne (tgt := 50) hx hb dX5_told_39 (by decide) (by omega) (by omega) (by omega) (by omega) (fun c_45 => ?_) (fun c_45 => ?_)
        · skip
          refine lv_iload_n hx hb dX5_told_50 rfl (lv_at hl 2 rfl) ?_
          refine ki_if_lt (tgt := 74) hx hb dX5_told_51 (by decide) (by omega) (by omega) (fun c_46 => ?_) (fun c_46 => ?_)
          · skip
            rw [← hQe]
            exact ky_thr_IOB hx hb hlf hown hG hZ hS (hl.1.trans hml.symm) dX5_told_74 dX5_told_77 dX5_told_78 dX5_told_81 htab (Nat.le_of_ble_eq_true rfl) (Nat.le_of_ble_eq_true rfl) (show cv + 1 ≤ 1200 from (by omega)) (show sv + 6 ≤ 600000 from (by omega)) hlocks (⟨rfl, rs_sE Ez_27, hCb, by have h9 := wr_TE_len (show wr_TE p0 (wr_a (z 12) lv ab (rs_sE Ez_27) pg sn op se (z 12).toNat 0) (zL18 18) (zL18 19) (zL18 20) (zL18 21) from by rw [show (z 12).toNat = k.toNat by omega]; exact hT9); rw [← h9]; omega⟩) (fun t hvm h1 h2 => ⟨(rL18, nL18, zL18, FL18, Er_25, En_26, Ez_27, EF_28), ⟨hRLL18.1, hRLL18.2.1, hRLL18.2.2.1, hRLL18.2.2.2⟩, ⟨hrkL, by omega⟩, hP.kept (fun k q hk => h2 q.1 (hP k q hk).lt), va_K.moved hvm hK, hD⟩) hS.2.2 (by omega) (by omega) (by omega) (by omega)
          · skip
            refine lv_iload_n hx hb dX5_told_54 rfl (lv_at hl 2 rfl) ?_
            refine lv_aload_n hx hb dX5_told_55 rfl (lv_at hl 1 rfl) ?_
            refine va_get (D := (dC, dI)) (ci := 5) (v := .ref (o 12)) (C := RX5) (T := TX5) (N := 16) hx hb hts kt_X5 hown hK hP 0 rfl rfl 12 (by decide) (kx_word hG kq_19_xouts_49 rfl) (fun _ h9 => h9) rfl dX5_told_56 ?_
            have hxz_47 : -2147483648 ≤ zL18 18 ∧ zL18 18 < 2147483648 := hRLL18.1.2.2.2.1 18
            refine va_getN (D := (dC, dI)) (ci := 4) (v := .int (iz (zL18 18))) (C := RX4) (T := TX4) (N := 5) hx hb hts kt_X4 hown hK hP 24 rfl rfl 1 (by decide) (va_Nw.use rfl (kx_nf hG kq_21_xcalls_49)) (fun _ h9 => h9) rfl dX5_told_59 ?_
            refine ki_icmp_ge (tgt := 74) hx hb dX5_told_62 (by decide) (by omega) (by omega) (by omega) (by omega) (fun c_48 => ?_) (fun c_48 => ?_)
            · skip
              rw [← hQe]
              exact ky_thr_IOB hx hb hlf hown hG hZ hS (hl.1.trans hml.symm) dX5_told_74 dX5_told_77 dX5_told_78 dX5_told_81 htab (Nat.le_of_ble_eq_true rfl) (Nat.le_of_ble_eq_true rfl) (show cv + 1 ≤ 1200 from (by omega)) (show sv + 6 ≤ 600000 from (by omega)) hlocks (⟨rfl, rs_sE Ez_27, hCb, by have h9 := wr_TE_len (show wr_TE p0 (wr_a (z 12) lv ab (rs_sE Ez_27) pg sn op se (z 12).toNat 0) (zL18 18) (zL18 19) (zL18 20) (zL18 21) from by rw [show (z 12).toNat = k.toNat by omega]; exact hT9); rw [← h9]; omega⟩) (fun t hvm h1 h2 => ⟨(rL18, nL18, zL18, FL18, Er_25, En_26, Ez_27, EF_28), ⟨hRLL18.1, hRLL18.2.1, hRLL18.2.2.1, hRLL18.2.2.2⟩, ⟨hrkL, by omega⟩, hP.kept (fun k q hk => h2 q.1 (hP k q hk).lt), va_K.moved hvm hK, hD⟩) hS.2.2 (by omega) (by omega) (by omega) (by omega)
            · skip
              refine lv_iload_n hx hb dX5_told_65 rfl (lv_at hl 3 rfl) ?_
              refine ki_if_lt (tgt := 74) hx hb dX5_told_66 (by decide) (by omega) (by omega) (fun c_49 => ?_) (fun c_49 => ?_)
              · skip
                rw [← hQe]
                exact ky_thr_IOB hx hb hlf hown hG hZ hS (hl.1.trans hml.symm) dX5_told_74 dX5_told_77 dX5_told_78 dX5_told_81 htab (Nat.le_of_ble_eq_true rfl) (Nat.le_of_ble_eq_true rfl) (show cv + 1 ≤ 1200 from (by omega)) (show sv + 6 ≤ 600000 from (by omega)) hlocks (⟨rfl, rs_sE Ez_27, hCb, by have h9 := wr_TE_len (show wr_TE p0 (wr_a (z 12) lv ab (rs_sE Ez_27) pg sn op se (z 12).toNat 0) (zL18 18) (zL18 19) (zL18 20) (zL18 21) from by rw [show (z 12).toNat = k.toNat by omega]; exact hT9); rw [← h9]; omega⟩) (fun t hvm h1 h2 => ⟨(rL18, nL18, zL18, FL18, Er_25, En_26, Ez_27, EF_28), ⟨hRLL18.1, hRLL18.2.1, hRLL18.2.2.1, hRLL18.2.2.2⟩, ⟨hrkL, by omega⟩, hP.kept (fun k q hk => h2 q.1 (hP k q hk).lt), va_K.moved hvm hK, hD⟩) hS.2.2 (by omega) (by omega) (by omega) (by omega)
              · skip
                refine lv_iload_n hx hb dX5_told_69 rfl (lv_at hl 3 rfl) ?_
                refine lv_iconst (v := iz 2) hx hb dX5_told_70 (by decide) ?_
                refine ki_icmp_le (tgt := 82) hx hb dX5_told_71 (by decide) (by omega) (by omega) (by omega) (by omega) (fun c_50 => ?_) (fun c_50 => ?_)
                · skip
                  refine lv_iload_n hx hb dX5_told_82 rfl (lv_at hl 3 rfl) ?_
                  refine ki_if_ne (tgt := 94) hx hb dX5_told_83 (by decide) (by omega) (by omega) (fun c_51 => ?_) (fun c_51 => ?_)
                  · skip
                    refine lv_iload_n hx hb dX5_told_94 rfl (lv_at hl 3 rfl) ?_
                    refine lv_iconst (v := iz 1) hx hb dX5_told_95 (by decide) ?_
                    refine ki_icmp_ne (tgt := 109) hx hb dX5_told_96 (by decide) (by omega) (by omega) (by omega) (by omega) (fun c_52 => ?_) (fun c_52 => ?_)
                    · skip
                      refine lv_aload_n hx hb dX5_told_109 rfl (lv_at hl 1 rfl) ?_
                      refine va_get (D := (dC, dI)) (ci := 5) (v := .ref (o 12)) (C := RX5) (T := TX5) (N := 16) hx hb hts kt_X5 hown hK hP 0 rfl rfl 12 (by decide) (kx_word hG kq_19_xouts_49 rfl) (fun _ h9 => h9) rfl dX5_told_110 ?_
                      have hxz_53 : -2147483648 ≤ zL18 21 ∧ zL18 21 < 2147483648 := hRLL18.1.2.2.2.1 21
                      refine va_getN (D := (dC, dI)) (ci := 4) (v := .int (iz (zL18 21))) (C := RX4) (T := TX4) (N := 5) hx hb hts kt_X4 hown hK hP 24 rfl rfl 4 (by decide) (va_Nw.use rfl (kx_nf hG kq_21_xcalls_50)) (fun _ h9 => h9) rfl dX5_told_113 ?_
                      rw [← hQe]
                      refine vx_ret ?_
                      exact xk_iret (ov := (fun u : (Int) × (Nat → Nat) × (Nat → Nat) × (Nat → Int) × (Nat → Int → Int) × (Nat → Nat → Nat) × (Nat → Nat → Nat) × (Nat → Nat → Int) × (Nat → Nat → Int → Int) => match u with | (q, r', n', z', F', Er', En', Ez', EF') => some (.int (iz q)))) (post := (fun (u : (Int) × (Nat → Nat) × (Nat → Nat) × (Nat → Int) × (Nat → Int → Int) × (Nat → Nat → Nat) × (Nat → Nat → Nat) × (Nat → Nat → Int) × (Nat → Nat → Int → Int)) (dn dm : Nat) => match u with | (q, r', n', z', F', Er', En', Ez', EF') => xR [0, 1, 15, 17, 18, 19, 20, 21] [0, 1] [10, 11, 12, 13] [] N z F En Ez EF n' z' F' En' Ez' EF' ∧ (dn + xg n' ≤ xg n + 0 ∧ dm + xp n' ≤ xp n + 0) ∧ (rs_RK z' F' Ez' lv ab Wd cm ∧ z' 15 = 1 ∧ ∃ nn kd av mv : Int, wr_TE p0 (wr_a (z 12) lv ab (rs_sE Ez') pg sn op se (z 12).toNat 0) nn kd av mv ∧ ¬ (¬ p0 = -1 ∧ (¬ (0 ≤ p0 ∧ p0 < nn) ∨ p1 < 0 ∨ 2 < p1)) ∧ q = (if p0 = -1 then nn else if p1 = 0 then kd else if p1 = 1 then av else mv)))) (ws := (fun u : (Int) × (Nat → Nat) × (Nat → Nat) × (Nat → Int) × (Nat → Int → Int) × (Nat → Nat → Nat) × (Nat → Nat → Nat) × (Nat → Nat → Int) × (Nat → Nat → Int → Int) => match u with | (q, r', n', z', F', Er', En', Ez', EF') => (xU cI cB cE o r' n' z' F' G (Eo 0 0) ++ eP cI N Eo Er' En' Ez' EF'))) (tys := xT cI cB cE) (z := zL18 21) (zL18 21, rL18, nL18, zL18, FL18, Er_25, En_26, Ez_27, EF_28) hx hb hr rfl hlocks rfl hP hD hK hS dX5_told_116 (fun dn dm hdn hdm => ⟨⟨hRLL18.1, hRLL18.2.1, hRLL18.2.2.1, hRLL18.2.2.2⟩, ⟨by omega, by omega⟩, ⟨hrkL, by omega, zL18 18, zL18 19, zL18 20, zL18 21, (show wr_TE p0 (wr_a (z 12) lv ab (rs_sE Ez_27) pg sn op se (z 12).toNat 0) (zL18 18) (zL18 19) (zL18 20) (zL18 21) from by rw [show (z 12).toNat = k.toNat by omega]; exact hT9), by omega, by first | (rw [if_pos (by omega)]) | (rw [if_neg (by omega), if_pos (by omega)]) | (rw [if_neg (by omega), if_neg (by omega), if_pos (by omega)]) | (rw [if_neg (by omega), if_neg (by omega), if_neg (by omega)])⟩⟩) (by omega) (by omega)
                    · skip
                      refine lv_aload_n hx hb dX5_told_99 rfl (lv_at hl 1 rfl) ?_
                      refine va_get (D := (dC, dI)) (ci := 5) (v := .ref (o 12)) (C := RX5) (T := TX5) (N := 16) hx hb hts kt_X5 hown hK hP 0 rfl rfl 12 (by decide) (kx_word hG kq_19_xouts_49 rfl) (fun _ h9 => h9) rfl dX5_told_100 ?_
                      have hxz_54 : -2147483648 ≤ zL18 20 ∧ zL18 20 < 2147483648 := hRLL18.1.2.2.2.1 20
                      refine va_getN (D := (dC, dI)) (ci := 4) (v := .int (iz (zL18 20))) (C := RX4) (T := TX4) (N := 5) hx hb hts kt_X4 hown hK hP 24 rfl rfl 3 (by decide) (va_Nw.use rfl (kx_nf hG kq_21_xcalls_51)) (fun _ h9 => h9) rfl dX5_told_103 ?_
                      refine lv_goto (tgt := 116) hx hb dX5_told_106 (by decide) ?_
                      rw [← hQe]
                      refine vx_ret ?_
                      exact xk_iret (ov := (fun u : (Int) × (Nat → Nat) × (Nat → Nat) × (Nat → Int) × (Nat → Int → Int) × (Nat → Nat → Nat) × (Nat → Nat → Nat) × (Nat → Nat → Int) × (Nat → Nat → Int → Int) => match u with | (q, r', n', z', F', Er', En', Ez', EF') => some (.int (iz q)))) (post := (fun (u : (Int) × (Nat → Nat) × (Nat → Nat) × (Nat → Int) × (Nat → Int → Int) × (Nat → Nat → Nat) × (Nat → Nat → Nat) × (Nat → Nat → Int) × (Nat → Nat → Int → Int)) (dn dm : Nat) => match u with | (q, r', n', z', F', Er', En', Ez', EF') => xR [0, 1, 15, 17, 18, 19, 20, 21] [0, 1] [10, 11, 12, 13] [] N z F En Ez EF n' z' F' En' Ez' EF' ∧ (dn + xg n' ≤ xg n + 0 ∧ dm + xp n' ≤ xp n + 0) ∧ (rs_RK z' F' Ez' lv ab Wd cm ∧ z' 15 = 1 ∧ ∃ nn kd av mv : Int, wr_TE p0 (wr_a (z 12) lv ab (rs_sE Ez') pg sn op se (z 12).toNat 0) nn kd av mv ∧ ¬ (¬ p0 = -1 ∧ (¬ (0 ≤ p0 ∧ p0 < nn) ∨ p1 < 0 ∨ 2 < p1)) ∧ q = (if p0 = -1 then nn else if p1 = 0 then kd else if p1 = 1 then av else mv)))) (ws := (fun u : (Int) × (Nat → Nat) × (Nat → Nat) × (Nat → Int) × (Nat → Int → Int) × (Nat → Nat → Nat) × (Nat → Nat → Nat) × (Nat → Nat → Int) × (Nat → Nat → Int → Int) => match u with | (q, r', n', z', F', Er', En', Ez', EF') => (xU cI cB cE o r' n' z' F' G (Eo 0 0) ++ eP cI N Eo Er' En' Ez' EF'))) (tys := xT cI cB cE) (z := zL18 20) (zL18 20, rL18, nL18, zL18, FL18, Er_25, En_26, Ez_27, EF_28) hx hb hr rfl hlocks rfl hP hD hK hS dX5_told_116 (fun dn dm hdn hdm => ⟨⟨hRLL18.1, hRLL18.2.1, hRLL18.2.2.1, hRLL18.2.2.2⟩, ⟨by omega, by omega⟩, ⟨hrkL, by omega, zL18 18, zL18 19, zL18 20, zL18 21, (show wr_TE p0 (wr_a (z 12) lv ab (rs_sE Ez_27) pg sn op se (z 12).toNat 0) (zL18 18) (zL18 19) (zL18 20) (zL18 21) from by rw [show (z 12).toNat = k.toNat by omega]; exact hT9), by omega, by first | (rw [if_pos (by omega)]) | (rw [if_neg (by omega), if_pos (by omega)]) | (rw [if_neg (by omega), if_neg (by omega), if_pos (by omega)]) | (rw [if_neg (by omega), if_neg (by omega), if_neg (by omega)])⟩⟩) (by omega) (by omega)
                  · skip
                    refine lv_aload_n hx hb dX5_told_86 rfl (lv_at hl 1 rfl) ?_
                    refine va_get (D := (dC, dI)) (ci := 5) (v := .ref (o 12)) (C := RX5) (T := TX5) (N := 16) hx hb hts kt_X5 hown hK hP 0 rfl rfl 12 (by decide) (kx_word hG kq_19_xouts_49 rfl) (fun _ h9 => h9) rfl dX5_told_87 ?_
                    have hxz_55 : -2147483648 ≤ zL18 19 ∧ zL18 19 < 2147483648 := hRLL18.1.2.2.2.1 19
                    refine va_getN (D := (dC, dI)) (ci := 4) (v := .int (iz (zL18 19))) (C := RX4) (T := TX4) (N := 5) hx hb hts kt_X4 hown hK hP 24 rfl rfl 2 (by decide) (va_Nw.use rfl (kx_nf hG kq_21_xcalls_52)) (fun _ h9 => h9) rfl dX5_told_90 ?_
                    rw [← hQe]
                    refine vx_ret ?_
                    exact xk_iret (ov := (fun u : (Int) × (Nat → Nat) × (Nat → Nat) × (Nat → Int) × (Nat → Int → Int) × (Nat → Nat → Nat) × (Nat → Nat → Nat) × (Nat → Nat → Int) × (Nat → Nat → Int → Int) => match u with | (q, r', n', z', F', Er', En', Ez', EF') => some (.int (iz q)))) (post := (fun (u : (Int) × (Nat → Nat) × (Nat → Nat) × (Nat → Int) × (Nat → Int → Int) × (Nat → Nat → Nat) × (Nat → Nat → Nat) × (Nat → Nat → Int) × (Nat → Nat → Int → Int)) (dn dm : Nat) => match u with | (q, r', n', z', F', Er', En', Ez', EF') => xR [0, 1, 15, 17, 18, 19, 20, 21] [0, 1] [10, 11, 12, 13] [] N z F En Ez EF n' z' F' En' Ez' EF' ∧ (dn + xg n' ≤ xg n + 0 ∧ dm + xp n' ≤ xp n + 0) ∧ (rs_RK z' F' Ez' lv ab Wd cm ∧ z' 15 = 1 ∧ ∃ nn kd av mv : Int, wr_TE p0 (wr_a (z 12) lv ab (rs_sE Ez') pg sn op se (z 12).toNat 0) nn kd av mv ∧ ¬ (¬ p0 = -1 ∧ (¬ (0 ≤ p0 ∧ p0 < nn) ∨ p1 < 0 ∨ 2 < p1)) ∧ q = (if p0 = -1 then nn else if p1 = 0 then kd else if p1 = 1 then av else mv)))) (ws := (fun u : (Int) × (Nat → Nat) × (Nat → Nat) × (Nat → Int) × (Nat → Int → Int) × (Nat → Nat → Nat) × (Nat → Nat → Nat) × (Nat → Nat → Int) × (Nat → Nat → Int → Int) => match u with | (q, r', n', z', F', Er', En', Ez', EF') => (xU cI cB cE o r' n' z' F' G (Eo 0 0) ++ eP cI N Eo Er' En' Ez' EF'))) (tys := xT cI cB cE) (z := zL18 19) (zL18 19, rL18, nL18, zL18, FL18, Er_25, En_26, Ez_27, EF_28) hx hb hr rfl hlocks rfl hP hD hK hS dX5_told_93 (fun dn dm hdn hdm => ⟨⟨hRLL18.1, hRLL18.2.1, hRLL18.2.2.1, hRLL18.2.2.2⟩, ⟨by omega, by omega⟩, ⟨hrkL, by omega, zL18 18, zL18 19, zL18 20, zL18 21, (show wr_TE p0 (wr_a (z 12) lv ab (rs_sE Ez_27) pg sn op se (z 12).toNat 0) (zL18 18) (zL18 19) (zL18 20) (zL18 21) from by rw [show (z 12).toNat = k.toNat by omega]; exact hT9), by omega, by first | (rw [if_pos (by omega)]) | (rw [if_neg (by omega), if_pos (by omega)]) | (rw [if_neg (by omega), if_neg (by omega), if_pos (by omega)]) | (rw [if_neg (by omega), if_neg (by omega), if_neg (by omega)])⟩⟩) (by omega) (by omega)
                · skip
                  rw [← hQe]
                  exact ky_thr_IOB hx hb hlf hown hG hZ hS (hl.1.trans hml.symm) dX5_told_74 dX5_told_77 dX5_told_78 dX5_told_81 htab (Nat.le_of_ble_eq_true rfl) (Nat.le_of_ble_eq_true rfl) (show cv + 1 ≤ 1200 from (by omega)) (show sv + 6 ≤ 600000 from (by omega)) hlocks (⟨rfl, rs_sE Ez_27, hCb, by have h9 := wr_TE_len (show wr_TE p0 (wr_a (z 12) lv ab (rs_sE Ez_27) pg sn op se (z 12).toNat 0) (zL18 18) (zL18 19) (zL18 20) (zL18 21) from by rw [show (z 12).toNat = k.toNat by omega]; exact hT9); rw [← h9]; omega⟩) (fun t hvm h1 h2 => ⟨(rL18, nL18, zL18, FL18, Er_25, En_26, Ez_27, EF_28), ⟨hRLL18.1, hRLL18.2.1, hRLL18.2.2.1, hRLL18.2.2.2⟩, ⟨hrkL, by omega⟩, hP.kept (fun k q hk => h2 q.1 (hP k q hk).lt), va_K.moved hvm hK, hD⟩) hS.2.2 (by omega) (by omega) (by omega) (by omega)
        · skip
          refine lv_aload_n hx hb dX5_told_42 rfl (lv_at hl 1 rfl) ?_
          refine va_get (D := (dC, dI)) (ci := 5) (v := .ref (o 12)) (C := RX5) (T := TX5) (N := 16) hx hb hts kt_X5 hown hK hP 0 rfl rfl 12 (by decide) (kx_word hG kq_19_xouts_49 rfl) (fun _ h9 => h9) rfl dX5_told_43 ?_
          have hxz_56 : -2147483648 ≤ zL18 18 ∧ zL18 18 < 2147483648 := hRLL18.1.2.2.2.1 18
          refine va_getN (D := (dC, dI)) (ci := 4) (v := .int (iz (zL18 18))) (C := RX4) (T := TX4) (N := 5) hx hb hts kt_X4 hown hK hP 24 rfl rfl 1 (by decide) (va_Nw.use rfl (kx_nf hG kq_21_xcalls_49)) (fun _ h9 => h9) rfl dX5_told_46 ?_
          rw [← hQe]
          refine vx_ret ?_
          exact xk_iret (ov := (fun u : (Int) × (Nat → Nat) × (Nat → Nat) × (Nat → Int) × (Nat → Int → Int) × (Nat → Nat → Nat) × (Nat → Nat → Nat) × (Nat → Nat → Int) × (Nat → Nat → Int → Int) => match u with | (q, r', n', z', F', Er', En', Ez', EF') => some (.int (iz q)))) (post := (fun (u : (Int) × (Nat → Nat) × (Nat → Nat) × (Nat → Int) × (Nat → Int → Int) × (Nat → Nat → Nat) × (Nat → Nat → Nat) × (Nat → Nat → Int) × (Nat → Nat → Int → Int)) (dn dm : Nat) => match u with | (q, r', n', z', F', Er', En', Ez', EF') => xR [0, 1, 15, 17, 18, 19, 20, 21] [0, 1] [10, 11, 12, 13] [] N z F En Ez EF n' z' F' En' Ez' EF' ∧ (dn + xg n' ≤ xg n + 0 ∧ dm + xp n' ≤ xp n + 0) ∧ (rs_RK z' F' Ez' lv ab Wd cm ∧ z' 15 = 1 ∧ ∃ nn kd av mv : Int, wr_TE p0 (wr_a (z 12) lv ab (rs_sE Ez') pg sn op se (z 12).toNat 0) nn kd av mv ∧ ¬ (¬ p0 = -1 ∧ (¬ (0 ≤ p0 ∧ p0 < nn) ∨ p1 < 0 ∨ 2 < p1)) ∧ q = (if p0 = -1 then nn else if p1 = 0 then kd else if p1 = 1 then av else mv)))) (ws := (fun u : (Int) × (Nat → Nat) × (Nat → Nat) × (Nat → Int) × (Nat → Int → Int) × (Nat → Nat → Nat) × (Nat → Nat → Nat) × (Nat → Nat → Int) × (Nat → Nat → Int → Int) => match u with | (q, r', n', z', F', Er', En', Ez', EF') => (xU cI cB cE o r' n' z' F' G (Eo 0 0) ++ eP cI N Eo Er' En' Ez' EF'))) (tys := xT cI cB cE) (z := zL18 18) (zL18 18, rL18, nL18, zL18, FL18, Er_25, En_26, Ez_27, EF_28) hx hb hr rfl hlocks rfl hP hD hK hS dX5_told_49 (fun dn dm hdn hdm => ⟨⟨hRLL18.1, hRLL18.2.1, hRLL18.2.2.1, hRLL18.2.2.2⟩, ⟨by omega, by omega⟩, ⟨hrkL, by omega, zL18 18, zL18 19, zL18 20, zL18 21, (show wr_TE p0 (wr_a (z 12) lv ab (rs_sE Ez_27) pg sn op se (z 12).toNat 0) (zL18 18) (zL18 19) (zL18 20) (zL18 21) from by rw [show (z 12).toNat = k.toNat by omega]; exact hT9), by omega, by first | (rw [if_pos (by omega)]) | (rw [if_neg (by omega), if_pos (by omega)]) | (rw [if_neg (by omega), if_neg (by omega), if_pos (by omega)]) | (rw [if_neg (by omega), if_neg (by omega), if_neg (by omega)])⟩⟩) (by omega) (by omega)
      · skip
        refine lv_aload_n hx hb dX5_told_26 rfl (lv_at hl 1 rfl) ?_
        refine lv_iload_n hx hb dX5_told_27 rfl (lv_at hl 0 rfl) ?_
        have hxG9 : xG N (zL18 12) G Eo := ⟨by omega, by omega, by omega, fun e9 h9 => hN4 e9 (by omega)⟩
        have hP : va_P (dC, dI) kxCl (xU cI cB cE o rL18 nL18 zL18 FL18 G (Eo 0 0) ++ eP cI N Eo Er_25 En_26 Ez_27 EF_28) H := hP
        have hD : va_D A (xU cI cB cE o rL18 nL18 zL18 FL18 G (Eo 0 0) ++ eP cI N Eo Er_25 En_26 Ez_27 EF_28) := hD
        have hFc := xw_free hD hS hA
        refine xk_call (va_runV (As := [.int (iz k)]) (rest := []) ⟨hx, hb, hml, hown, hts⟩ (y_warnOf2 l dC dI cI cB cE o rL18 nL18 zL18 FL18 G N Eo Er_25 En_26 Ez_27 EF_28 k lv ab pg sn op se H.size hRLL18.1 hxG9 hRLL18.2.2.1 (by show rs_lv lv ab (zL18 12); rw [show zL18 12 = z 12 by omega]; exact hLB) (by show ∀ e, 0 ≤ e → e < zL18 12 → Ez_27 ((e + 1).toNat) 8 = ab e; rw [show zL18 12 = z 12 by omega]; exact h8B) (by show wr_H (zL18 12) Ez_27 EF_28 pg sn op se; rw [show zL18 12 = z 12 by omega]; exact wHB) (by show ∀ e, 0 ≤ e → e < zL18 12 → 0 ≤ rs_sE Ez_27 e ∧ rs_sE Ez_27 e ≤ e; rw [show zL18 12 = z 12 by omega]; exact hsB) (show zL18 12 ≤ 78 by omega) (by show ∀ r, 0 ≤ r → r < zL18 12 → wr_N (zL18 12) Ez_27 r; rw [show zL18 12 = z 12 by omega]; exact hNc) (by omega) (by omega)) (cwV 1 hts (kx_gV kq_21_xcalls_53 kq_21_xcalls_54 kq_21_xcalls_55 kq_18_xrows_4 kq_21_xcalls_56 rfl) rfl rfl rfl (by decide +kernel) ⟨Nat.le_of_ble_eq_true rfl, Nat.le_of_ble_eq_true rfl⟩) ⟨kx_blind, va_recv hK hP (ci := 5) (q0 := 0) rfl rfl, kx_give (ws := []) (tys := []) hP hD hK hG hZ hS hFc⟩ rfl rfl hl.1 rfl (lv_room (Nat.le_of_ble_eq_true rfl)) dX5_told_28 ⟨show cv + 100 ≤ 1200 from (by omega), show sv + 42000 ≤ 600000 from (by omega)⟩) hS (fun q _ h => hFc q h) hFc (fun u dn_59 dm_60 t H locs ht hvm hq_57 hB hk1 hS => ?_)
        obtain ⟨r_61, n_62, z_63, F_64, Er_65, En_66, Ez_67, EF_68⟩ := u
        obtain ⟨hP, hK1, hD1⟩ := hB
        rw [ht] at hP
        have hD := hD1.weaken (fun _ q _ h => hFc _ h)
        obtain ⟨hR69, hC69, hq_57⟩ := hq_57
        have hok69 := hR69.1
        have hfr69 := hRLL18.2.1.tr (hR69.2.1.mono (S' := [0, 1, 15, 17, 18, 19, 20, 21]) (T' := [0, 1]) (by decide) (by decide))
        have hPE69 := hR69.2.2.1
        have hef69 := hRLL18.2.2.2.tr (hR69.2.2.2.mono (S' := [10, 11, 12, 13]) (T' := []) (by decide) (by decide))
        have hz69 : z_63 12 = (zL18 12) := hR69.2.1.1 12 (by decide)
        have hkr69_15 : z_63 15 = zL18 15 := hR69.2.1.1 15 (by decide)
        refine W.eq (g2 := F0 m 31 ls []) rfl ?_
        try dsimp only at hq_57
        have hrk71 : rs_RK z_63 F_64 Ez_67 lv ab Wd cm := rs_RK.fr hrkL (hR69.2.1.1 15 (by decide)) (hR69.2.1.1 12 (by decide)) (hR69.2.1.1 1 (by decide)) (hR69.2.1.2 1 (by decide)) (fun j => hR69.2.2.2.1 j 10 (by decide))
        obtain ⟨hg17, hg18, hgX, hpp9⟩ := hq_57
        obtain ⟨rfl, rfl, rfl, rfl⟩ := hpp9
        rw [h17, hZLL18] at hgX
        refine lv_iinc (v := iz (k + 1)) (lv' := [(3, .int (iz (k + 1))), (0, .ref (o 15)), (1, .int (iz p0)), (2, .int (iz p1))]) hx hb dX5_told_31 hl (k := 0) rfl (iz_add k 1) (by decide) rfl (fun ls hl => ?_)
        refine lv_goto (tgt := 18) hx hb dX5_told_34 (by decide) ?_
        exact ih18 (k + 1) r_61 n_62 z_63 F_64 (cv + dn_59) (sv + dm_60) ⟨⟨hok69, hfr69, hPE69, hef69⟩, ⟨by omega, by omega⟩, (show z_63 12 = z 12 by omega), by omega, by omega, by omega, by omega, (by obtain ⟨x9, y9, u9, h9⟩ := hT9; exact ⟨x9, y9, u9, by rw [wr_a_s (by omega)]; exact hgX _ _ _ _ h9⟩), hrk71⟩ (by omega) _ _ hP hD hS ls (lv_sub hl [0, 1, 2, 3] rfl)
  exact lp18 _ 0 r_21 n_22 (va_up (va_up z_23 17 z1_39) 18 z2_40) F_24 (((0 + dn_4) + dn_19) + 0) (((0 + dm_5) + dm_20) + 0) ⟨⟨hok42, hfr42, hPE29, hef29⟩, ⟨by omega, by omega⟩, (show z_23 12 = z 12 by omega), by omega, (show z1_39 = p0 by omega), (show z_23 15 = 1 by omega), (show 0 ≤ z2_40 ∧ z2_40 ≤ 7 * 0 by omega), ⟨z_23 19, z_23 20, z_23 21, (by show wr_T p0 [] (z_23 19) (z_23 20) (z_23 21) (z2_40) (z_23 19) (z_23 20) (z_23 21); rw [show z2_40 = 0 by omega]; exact wr_T_nil p0 _ _ _)⟩, hrk30⟩ (Nat.lt_succ_self _) _ _ hP hD hS ls (lv_sub hl [0, 1, 2, 3] rfl)
