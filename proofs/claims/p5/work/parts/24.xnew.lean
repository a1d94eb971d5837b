/-! the landed object: print, entry -/
abbrev eNo (h0 q1 q2 q3 q4 q5 q6 q7 q8 : Nat) : Nat → Nat := fun k => if k = 0 then h0 else if k = 1 then q1 else if k = 2 then q2 else if k = 3 then q3 else if k = 4 then q4 else if k = 5 then q5 else if k = 6 then q6 else if k = 7 then q7 else q8
abbrev eNr (a0 a1 a2 a3 a4 a5 a6 : Nat) : Nat → Nat := fun k => if k = 0 then a0 else if k = 1 then a1 else if k = 2 then a2 else if k = 3 then a3 else if k = 4 then a4 else if k = 5 then a5 else a6
abbrev eNz (lv ab : Int) : Nat → Int := fun k => if k = 7 then lv else if k = 8 then ab else if k = 9 then -1 else if k = 10 then -1 else 0
theorem eN_eq {cI : ClassId} {h0 q1 q2 q3 q4 q5 q6 q7 q8 a0 a1 a2 a3 a4 a5 a6 : Nat} {lv ab : Int} : [(h0, .inr (0, [.int (iz lv), .int (iz ab), .ref q1, .ref q2, .ref q3, .ref q5, .ref q4, .int (-1), .int (-1), .int 0, .int 0, .int 0])), (q1, .inr (1, [.int 20, .ref a0, .int 0])), (a0, .inl (cI, 0, .inl (fun _ => 0))), (q2, .inr (1, [.int 20, .ref a1, .int 0])), (a1, .inl (cI, 0, .inl (fun _ => 0))), (q3, .inr (1, [.int 40, .ref a2, .int 0])), (a2, .inl (cI, 0, .inl (fun _ => 0))), (q4, .inr (1, [.int 5, .ref a3, .int 0])), (a3, .inl (cI, 0, .inl (fun _ => 0))), (q5, .inr (3, [.ref q6, .ref q7, .ref q8])), (q6, .inr (1, [.int 20, .ref a4, .int 0])), (a4, .inl (cI, 0, .inl (fun _ => 0))), (q7, .inr (1, [.int 20, .ref a5, .int 0])), (a5, .inl (cI, 0, .inl (fun _ => 0))), (q8, .inr (1, [.int 20, .ref a6, .int 0])), (a6, .inl (cI, 0, .inl (fun _ => 0)))] = eU cI (eNo h0 q1 q2 q3 q4 q5 q6 q7 q8) (eNr a0 a1 a2 a3 a4 a5 a6) (fun _ => 0) (eNz lv ab) (fun _ _ => 0) := by
  have e20 : (20 : Int32) = iz 20 := by decide
  have e40 : (40 : Int32) = iz 40 := by decide
  have e5 : (5 : Int32) = iz 5 := by decide
  have e0 : (0 : Int32) = iz 0 := by decide
  have em : (-1 : Int32) = iz (-1) := by decide
  rw [e20, e40, e5, e0, em]
  rfl
theorem eN_ok (lv ab : Int) (h1 : -2147483648 ≤ lv ∧ lv < 2147483648) (h2 : -2147483648 ≤ ab ∧ ab < 2147483648) : eOk (fun _ => 0) (eNz lv ab) (fun _ _ => 0) := by
  refine ⟨fun k hk => ?_, fun k => iB_0, fun k => ?_⟩
  · have hl : 0 ≤ eL k := by unfold eL; split <;> (try split) <;> omega
    have e : eNz lv ab k = 0 := by
      show (if k = 7 then lv else if k = 8 then ab else if k = 9 then -1 else if k = 10 then -1 else 0) = 0
      rw [if_neg (by omega), if_neg (by omega), if_neg (by omega), if_neg (by omega)]
    rw [e]
    exact ⟨Int.le_refl 0, Int.le_refl 0, hl⟩
  · show -2147483648 ≤ (if k = 7 then lv else if k = 8 then ab else if k = 9 then -1 else if k = 10 then -1 else 0) ∧ (if k = 7 then lv else if k = 8 then ab else if k = 9 then -1 else if k = 10 then -1 else 0) < 2147483648
    split
    · exact h1
    · split
      · exact h2
      · split
        · omega
        · split <;> omega
theorem eA.push {N : Nat} {En : Nat → Nat → Nat} {Ez : Nat → Nat → Int} {EF : Nat → Nat → Int → Int} {n : Nat → Nat} {z : Nat → Int} {F : Nat → Int → Int} (h : eA N En Ez EF) (h1 : eOk n z F) : eA (N + 1) (va_up En N n) (va_up Ez N z) (va_up EF N F) := by
  intro j hj
  by_cases e : j = N
  · subst e; rw [va_up_self, va_up_self, va_up_self]; exact h1
  · rw [va_up_ne _ _ e, va_up_ne _ _ e, va_up_ne _ _ e]; exact h j (by omega)
theorem eN_G {N : Nat} {z12 : Int} {G : Nat → Option Nat} {Eo : Nat → Nat → Nat} {o : Nat → Nat} (h1 : 0 ≤ z12) (h3 : (N : Int) = z12 + 1) (h4 : ∀ e : Nat, (e : Int) < z12 → G e = some (Eo (e + 1) 0)) : ∀ e : Nat, (e : Int) < z12 + 1 → va_up G z12.toNat (some (o 0)) e = some (va_up Eo N o (e + 1) 0) := by
  intro e he
  by_cases c : e = z12.toNat
  · rw [c, va_up_self, show z12.toNat + 1 = N by omega, va_up_self]
  · rw [va_up_ne _ _ c, va_up_ne _ _ (show e + 1 ≠ N by omega)]
    exact h4 e (by omega)
theorem kq_24_xnew_0 : (Cond.methodLink RX5 218 yX5_firstFault) ∈ lw_tbl := by decide +kernel
theorem kq_24_xnew_1 : (Cond.instanceMethod yX5_firstFault) ∈ lw_tbl := by decide +kernel
theorem kq_24_xnew_2 : (Cond.selects RX5 yX5_firstFault yX5_firstFault) ∈ lw_tbl := by decide +kernel
theorem kq_24_xnew_3 : (Cond.code yX5_firstFault cX5_firstFault 4 (some .int)) ∈ lw_tbl := by decide +kernel
theorem kq_24_xnew_4 : (Cond.methodLink RX5 221 yX2_clear) ∈ lw_tbl := by decide +kernel
theorem kq_24_xnew_5 : (Cond.instanceMethod yX2_clear) ∈ lw_tbl := by decide +kernel
theorem kq_24_xnew_6 : (Cond.selects RX2 yX2_clear yX2_clear) ∈ lw_tbl := by decide +kernel
theorem kq_24_xnew_7 : (Cond.code yX2_clear cX2_clear 1 none) ∈ lw_tbl := by decide +kernel
theorem kq_24_xnew_8 : (Cond.fieldLinkNest RX5 222 "IndexSort$Paper" "tooLong" "Z" "IndexSort") ∈ lw_tbl := by decide +kernel
theorem kq_24_xnew_9 : (Cond.methodLink RX5 225 yX5_writePart) ∈ lw_tbl := by decide +kernel
theorem kq_24_xnew_10 : (Cond.instanceMethod yX5_writePart) ∈ lw_tbl := by decide +kernel
theorem kq_24_xnew_11 : (Cond.selects RX5 yX5_writePart yX5_writePart) ∈ lw_tbl := by decide +kernel
theorem kq_24_xnew_12 : (Cond.code yX5_writePart cX5_writePart 7 none) ∈ lw_tbl := by decide +kernel
theorem kq_24_xnew_13 : (Cond.methodLink RX5 91 yX5_isLevelBefore) ∈ lw_tbl := by decide +kernel
theorem kq_24_xnew_14 : (Cond.instanceMethod yX5_isLevelBefore) ∈ lw_tbl := by decide +kernel
theorem kq_24_xnew_15 : (Cond.selects RX5 yX5_isLevelBefore yX5_isLevelBefore) ∈ lw_tbl := by decide +kernel
theorem kq_24_xnew_16 : (Cond.code yX5_isLevelBefore cX5_isLevelBefore 3 (some .boolean)) ∈ lw_tbl := by decide +kernel
set_option maxHeartbeats 4000000 in
set_option maxRecDepth 100000 in
theorem y_print (l : Launch) (hlf : l.stackTraces = false) (dC : Nat → ClassId) (dI : Nat → Nat → Nat) (cI cB cE : ClassId) (o r n : Nat → Nat) (z : Nat → Int) (F : Nat → Int → Int) (G : Nat → Option Nat) (N : Nat) (Eo Er En : Nat → Nat → Nat) (Ez : Nat → Nat → Int) (EF : Nat → Nat → Int → Int) (sz : Nat) (hok : xOk n z F) (hxG : xG N (z 12) G Eo) (hPE : eA N En Ez EF) : vx_Met l yX5_print [.code yX5_print cX5_print 7 (some .int)] ({ frames := 7, cells := 1200, slots := 600000, locals := 196 }) (va_Pc [.ref (o 15)] (kx_Pre dC dI (xU cI cB cE o r n z F G (Eo 0 0) ++ eP cI N Eo Er En Ez EF) (xT cI cB cE) sz)) (xQ (fun u : (Int) × (Nat → Nat) × (Nat → Nat) × (Nat → Nat) × (Nat → Int) × (Nat → Int → Int) × (Nat → Nat → Nat) × (Nat → Nat → Nat) × (Nat → Nat → Int) × (Nat → Nat → Int → Int) => match u with | (q, o', r', n', z', F', Er', En', Ez', EF') => some (.int (iz q))) (fun (u : (Int) × (Nat → Nat) × (Nat → Nat) × (Nat → Nat) × (Nat → Int) × (Nat → Int → Int) × (Nat → Nat → Nat) × (Nat → Nat → Nat) × (Nat → Nat → Int) × (Nat → Nat → Int → Int)) (dn dm : Nat) => match u with | (q, o', r', n', z', F', Er', En', Ez', EF') => xR [0, 1, 2, 4, 5, 6, 7, 8, 9, 10, 11, 15, 16, 22, 23] [0, 1, 2, 4, 5, 6, 7, 8, 9, 10, 11] [10] [] N z F En Ez EF n' z' F' En' Ez' EF' ∧ (dn + xg n' ≤ xg n + 0 ∧ dm + xp n' ≤ xp n + 0) ∧ (∀ k, k ≠ 10 → k ≠ 11 → o' k = o k)) (fun u t => kx_At dC dI (va_A (xU cI cB cE o r n z F G (Eo 0 0) ++ eP cI N Eo Er En Ez EF) sz) ((fun u : (Int) × (Nat → Nat) × (Nat → Nat) × (Nat → Nat) × (Nat → Int) × (Nat → Int → Int) × (Nat → Nat → Nat) × (Nat → Nat → Nat) × (Nat → Nat → Int) × (Nat → Nat → Int → Int) => match u with | (q, o', r', n', z', F', Er', En', Ez', EF') => (xU cI cB cE o' r' n' z' F' G (Eo 0 0) ++ eP cI N Eo Er' En' Ez' EF')) u) (xT cI cB cE) t) (va_A (xU cI cB cE o r n z F G (Eo 0 0) ++ eP cI N Eo Er En Ez EF) sz)) (yX (fun E => (E = "java/lang/UnsupportedOperationException" ∧ (True))) 100 42000 (fun t => ∃ u : (Nat → Nat) × (Nat → Nat) × (Nat → Int) × (Nat → Int → Int) × (Nat → Nat → Nat) × (Nat → Nat → Nat) × (Nat → Nat → Int) × (Nat → Nat → Int → Int), match u with | (r', n', z', F', Er', En', Ez', EF') => xR [0, 1, 2, 4, 5, 6, 7, 8, 9, 10, 11, 15, 16, 22, 23] [0, 1, 2, 4, 5, 6, 7, 8, 9, 10, 11] [10] [] N z F En Ez EF n' z' F' En' Ez' EF' ∧ kx_At dC dI (va_A (xU cI cB cE o r n z F G (Eo 0 0) ++ eP cI N Eo Er En Ez EF) sz) (xU cI cB cE o r' n' z' F' G (Eo 0 0) ++ eP cI N Eo Er' En' Ez' EF') (xT cI cB cE) t) (va_A (xU cI cB cE o r n z F G (Eo 0 0) ++ eP cI N Eo Er En Ez EF) sz)) 1200 600000 (va_A (xU cI cB cE o r n z F G (Eo 0 0) ++ eP cI N Eo Er En Ez EF) sz) := by
  refine vx_ofW (cc := cX5_print) (maxL := 7) (ret := (some .int)) (by decide) rfl ?_
  intro p e s m args below meth c s₁ B hml htab hv
  obtain ⟨rfl, hsz, hP, hK, hD0, hG, hZ⟩ := hv
  have hx := B.exec
  have hb := B.bytes
  have hr := B.returns
  have hts := kx_hts (a := ([.ref (o 15)] : List Value).toArray) hG
  have hown : s.vm.findClass RX5 = some m.cls := findClass_of_methodNamed B.named
  have hlocks := B.notSynchronized
  subst hsz
  have hD := hD0.self (sz := s.heap.size)
  generalize hAe : va_A (xU cI cB cE o r n z F G (Eo 0 0) ++ eP cI N Eo Er En Ez EF) s.heap.size = A at hD hZ ⊢
  have hA : ∀ q : Nat, s.heap.size ≤ q → A q := fun q h => by rw [← hAe]; exact Or.inr h
  have hS : va_S A s.heap s.heap [] := va_S.rf
  have hl := lv_entry ([.ref (o 15)]) (n := 7) (Nat.le_of_ble_eq_true rfl)
  rw [lg_entry_eq]
  generalize (lg_sl ([.ref (o 15)]) ++ List.replicate (7 - (lg_sl ([.ref (o 15)])).length) Slot.unset).toArray = ls at hl ⊢
  obtain ⟨hN1, hN2, hN3, hN4⟩ := hxG
  have hef : eFr [10] [] En Ez EF En Ez EF := eFr.rf
  have hfr : xFr [0, 1, 2, 4, 5, 6, 7, 8, 9, 10, 11, 15, 16, 22, 23] [0, 1, 2, 4, 5, 6, 7, 8, 9, 10, 11] z F z F := xFr.rf
  have hxgl := xg_le n
  have hxpl := xp_le n
  have hl : lv_has ls 7 [(0, .ref (o 15))] := hl
  generalize hQe : vx_MQ below (xQ (fun u : (Int) × (Nat → Nat) × (Nat → Nat) × (Nat → Nat) × (Nat → Int) × (Nat → Int → Int) × (Nat → Nat → Nat) × (Nat → Nat → Nat) × (Nat → Nat → Int) × (Nat → Nat → Int → Int) => match u with | (q, o', r', n', z', F', Er', En', Ez', EF') => some (.int (iz q))) (fun (u : (Int) × (Nat → Nat) × (Nat → Nat) × (Nat → Nat) × (Nat → Int) × (Nat → Int → Int) × (Nat → Nat → Nat) × (Nat → Nat → Nat) × (Nat → Nat → Int) × (Nat → Nat → Int → Int)) (dn dm : Nat) => match u with | (q, o', r', n', z', F', Er', En', Ez', EF') => xR [0, 1, 2, 4, 5, 6, 7, 8, 9, 10, 11, 15, 16, 22, 23] [0, 1, 2, 4, 5, 6, 7, 8, 9, 10, 11] [10] [] N z F En Ez EF n' z' F' En' Ez' EF' ∧ (dn + xg n' ≤ xg n + 0 ∧ dm + xp n' ≤ xp n + 0) ∧ (∀ k, k ≠ 10 → k ≠ 11 → o' k = o k)) (fun u t => kx_At dC dI A ((fun u : (Int) × (Nat → Nat) × (Nat → Nat) × (Nat → Nat) × (Nat → Int) × (Nat → Int → Int) × (Nat → Nat → Nat) × (Nat → Nat → Nat) × (Nat → Nat → Int) × (Nat → Nat → Int → Int) => match u with | (q, o', r', n', z', F', Er', En', Ez', EF') => (xU cI cB cE o' r' n' z' F' G (Eo 0 0) ++ eP cI N Eo Er' En' Ez' EF')) u) (xT cI cB cE) t) A) (yX (fun E => (E = "java/lang/UnsupportedOperationException" ∧ (True))) 100 42000 (fun t => ∃ u : (Nat → Nat) × (Nat → Nat) × (Nat → Int) × (Nat → Int → Int) × (Nat → Nat → Nat) × (Nat → Nat → Nat) × (Nat → Nat → Int) × (Nat → Nat → Int → Int), match u with | (r', n', z', F', Er', En', Ez', EF') => xR [0, 1, 2, 4, 5, 6, 7, 8, 9, 10, 11, 15, 16, 22, 23] [0, 1, 2, 4, 5, 6, 7, 8, 9, 10, 11] [10] [] N z F En Ez EF n' z' F' En' Ez' EF' ∧ kx_At dC dI A (xU cI cB cE o r' n' z' F' G (Eo 0 0) ++ eP cI N Eo Er' En' Ez' EF') (xT cI cB cE) t) A) ([.ref (o 15)] : List Value).toArray s 1200 600000 A = QQ
  refine lv_aload_n hx hb dX5_print_0 rfl (lv_at hl 0 rfl) ?_
  have hxz_1 : -2147483648 ≤ z 12 ∧ z 12 < 2147483648 := hok.2.2.2.1 12
  have hxG9 : xG N (z 12) G Eo := ⟨by omega, by omega, by omega, fun e9 h9 => hN4 e9 (by omega)⟩
  have hP : va_P (dC, dI) kxCl (xU cI cB cE o r n z F G (Eo 0 0) ++ eP cI N Eo Er En Ez EF) s.heap := hP
  refine xk_pure (va_runV (As := []) (rest := []) ⟨hx, hb, hml, hown, hts⟩ (y_firstFault l dC dI cI cB cE o r n z F G N Eo Er En Ez EF  s.heap.size hok hxG9 hPE ) (cwV 0 hts (kx_gV kq_24_xnew_0 kq_24_xnew_1 kq_24_xnew_2 kq_18_xrows_4 kq_24_xnew_3 rfl) rfl rfl rfl (by decide +kernel) ⟨Nat.le_of_ble_eq_true rfl, Nat.le_of_ble_eq_true rfl⟩) ⟨pPre_blind, va_recv hK hP (ci := 5) (q0 := 0) rfl rfl, pPre_give hP hK hG⟩ rfl rfl hl.1 rfl (lv_room (Nat.le_of_ble_eq_true rfl)) dX5_print_1 ⟨show 0 + 0 ≤ 1200 from (by omega), show 0 + 0 ≤ 600000 from (by omega)⟩) hS (fun z_3 locs hq_2 hS => ?_)
  refine W.eq (g2 := F0 m 4 ls [.int (iz z_3)]) rfl ?_
  try dsimp only at hq_2
  refine lv_istore_n (lv' := [(1, .int (iz z_3)), (0, .ref (o 15))]) hx hb dX5_print_4 rfl hl (by decide) rfl (fun ls hl => ?_)
  refine lv_iload_n hx hb dX5_print_5 rfl (lv_at hl 0 rfl) ?_
  refine ki_if_lt (tgt := 13) hx hb dX5_print_6 (by decide) (by omega) (by omega) (fun c_4 => ?_) (fun c_4 => ?_)
  · skip
    refine lv_aload_n hx hb dX5_print_13 rfl (lv_at hl 1 rfl) ?_
    have hxG9 : xG N (z 12) G Eo := ⟨by omega, by omega, by omega, fun e9 h9 => hN4 e9 (by omega)⟩
    have hP : va_P (dC, dI) kxCl (xU cI cB cE o r n z F G (Eo 0 0) ++ eP cI N Eo Er En Ez EF) s.heap := hP
    have hD : va_D A (xU cI cB cE o r n z F G (Eo 0 0) ++ eP cI N Eo Er En Ez EF) := hD
    have hFc := xw_free hD hS hA
    refine xk_call (va_runV (As := []) (rest := []) ⟨hx, hb, hml, hown, hts⟩ (y_findRows l dC dI cI cB cE o r n z F G N Eo Er En Ez EF  s.heap.size hok hxG9 hPE ) (cwV 0 hts (kx_gV kq_21_xcalls_25 kq_21_xcalls_26 kq_21_xcalls_27 kq_18_xrows_4 kq_21_xcalls_28 rfl) rfl rfl rfl (by decide +kernel) ⟨Nat.le_of_ble_eq_true rfl, Nat.le_of_ble_eq_true rfl⟩) ⟨kx_blind, va_recv hK hP (ci := 5) (q0 := 0) rfl rfl, kx_give (ws := []) (tys := []) hP hD hK hG hZ hS hFc⟩ rfl rfl hl.1 rfl (lv_room (Nat.le_of_ble_eq_true rfl)) dX5_print_14 ⟨show 0 + 600 ≤ 1200 from (by omega), show 0 + 300000 ≤ 600000 from (by omega)⟩) hS (fun q _ h => hFc q h) hFc (fun u dn_7 dm_8 t H locs ht hvm hq_5 hB hk1 hS => ?_)
    obtain ⟨r_9, n_10, z_11, F_12, Er_13, En_14, Ez_15, EF_16⟩ := u
    obtain ⟨hP, hK1, hD1⟩ := hB
    rw [ht] at hP
    have hD := hD1.weaken (fun _ q _ h => hFc _ h)
    obtain ⟨hR17, hC17, hq_5⟩ := hq_5
    have hok17 := hR17.1
    have hfr17 := hfr.tr (hR17.2.1.mono (S' := [0, 1, 2, 4, 5, 6, 7, 8, 9, 10, 11, 15, 16, 22, 23]) (T' := [0, 1, 2, 4, 5, 6, 7, 8, 9, 10, 11]) (by decide) (by decide))
    have hPE17 := hR17.2.2.1
    have hef17 := hef.tr (hR17.2.2.2.mono (S' := [10]) (T' := []) (by decide) (by decide))
    have hz17 : z_11 12 = (z 12) := hR17.2.1.1 12 (by decide)
    refine W.eq (g2 := F0 m 17 ls []) rfl ?_
    try dsimp only at hq_5
    refine lv_aload_n hx hb dX5_print_17 rfl (lv_at hl 1 rfl) ?_
    refine va_get (D := (dC, dI)) (ci := 5) (v := .ref (o 11)) (C := RX5) (T := TX5) (N := 16) hx hb hts kt_X5 hown hK hP 0 rfl rfl 15 (by decide) (kx_word hG kq_19_xouts_60 rfl) (fun _ h9 => h9) rfl dX5_print_18 ?_
    have hxp_18 : 0 ≤ z_11 11 ∧ z_11 11 ≤ ((n_10 11 : Nat) : Int) ∧ (n_10 11 = 0 ∨ n_10 11 = 6000) := hok17.2.1 11 (by decide)
    have hxz_19 : -2147483648 ≤ z_11 23 ∧ z_11 23 < 2147483648 := hok17.2.2.2.1 23
    have hxb_20 : z_11 23 = 0 ∨ z_11 23 = 1 := hok17.2.2.2.2 23 (by decide)
    have hPc := hP.sub (ws' := (pU cB (o 11) (r_9 11) (n_10 11) (z_11 11) (z_11 23) (F_12 11))) [27, 28] rfl
    have hDc := hD.sub (ws' := (pU cB (o 11) (r_9 11) (n_10 11) (z_11 11) (z_11 23) (F_12 11))) [27, 28] (by decide) rfl
    have hFc := va_free (wc := (pU cB (o 11) (r_9 11) (n_10 11) (z_11 11) (z_11 23) (F_12 11))) hD hS hA [27, 28] rfl
    refine xk_call (va_runV (As := []) (rest := []) ⟨hx, hb, hml, hown, hts⟩ (x_pclear l dC dI cI cB cE (o 11) (r_9 11) (n_10 11) (z_11 11) (z_11 23) (F_12 11)  H.size (by omega) (by omega) (hok17.2.2.1 11)) (cwV 0 hts (kx_gV kq_24_xnew_4 kq_24_xnew_5 kq_24_xnew_6 kq_15_xspan_17 kq_24_xnew_7 rfl) rfl rfl rfl (by decide +kernel) ⟨Nat.le_of_ble_eq_true rfl, Nat.le_of_ble_eq_true rfl⟩) ⟨kx_blind, va_recv hK hPc (ci := 2) (q0 := 0) rfl rfl, kx_give (ws := []) (tys := []) hPc hDc hK hG hZ hS hFc⟩ rfl rfl hl.1 rfl (lv_room (Nat.le_of_ble_eq_true rfl)) dX5_print_21 ⟨show (0 + dn_7) + 1 ≤ 1200 from (by omega), show (0 + dm_8) + 6000 ≤ 600000 from (by omega)⟩) hS (fun q _ h => hFc q h) hFc (fun u dn_22 dm_23 t H locs ht hvm hq_21 hB hk1 hS => ?_)
    obtain ⟨r_24, n_25, z_26, tl_27, F_28⟩ := u
    obtain ⟨hP1, hK1, hD1⟩ := hB
    rw [ht] at hP1
    obtain ⟨hP, hD⟩ := xj_pool (wr := [(o 15, .inr (5, [.ref (o 16), .ref (Eo 0 0), .int (iz (z_11 12)), .int (iz (z_11 13)), .int (iz (z_11 14)), .ref (o 0), .ref (o 1), .int (iz (z_11 15)), .ref (o 13), .ref (o 14), .int (iz (z_11 16)), .ref (o 2), .ref (o 12), .ref (o 3), .ref (o 10), .ref (o 11)])), (o 16, .inl (cE, 80, .inr (.inr (.inr (.inr G))))), (o 0, .inr (1, [.int (iz 80), .ref (r_9 0), .int (iz (z_11 0))])), (r_9 0, .inl (cI, n_10 0, .inl (iA (F_12 0)))), (o 1, .inr (1, [.int (iz 80), .ref (r_9 1), .int (iz (z_11 1))])), (r_9 1, .inl (cI, n_10 1, .inl (iA (F_12 1)))), (o 2, .inr (1, [.int (iz 80), .ref (r_9 2), .int (iz (z_11 2))])), (r_9 2, .inl (cI, n_10 2, .inl (iA (F_12 2)))), (o 3, .inr (1, [.int (iz 80), .ref (r_9 3), .int (iz (z_11 3))])), (r_9 3, .inl (cI, n_10 3, .inl (iA (F_12 3)))), (o 13, .inr (3, [.ref (o 4), .ref (o 5), .ref (o 6)])), (o 4, .inr (1, [.int (iz 1600), .ref (r_9 4), .int (iz (z_11 4))])), (r_9 4, .inl (cI, n_10 4, .inl (iA (F_12 4)))), (o 5, .inr (1, [.int (iz 1600), .ref (r_9 5), .int (iz (z_11 5))])), (r_9 5, .inl (cI, n_10 5, .inl (iA (F_12 5)))), (o 6, .inr (1, [.int (iz 1600), .ref (r_9 6), .int (iz (z_11 6))])), (r_9 6, .inl (cI, n_10 6, .inl (iA (F_12 6)))), (o 14, .inr (3, [.ref (o 7), .ref (o 8), .ref (o 9)])), (o 7, .inr (1, [.int (iz 1600), .ref (r_9 7), .int (iz (z_11 7))])), (r_9 7, .inl (cI, n_10 7, .inl (iA (F_12 7)))), (o 8, .inr (1, [.int (iz 1600), .ref (r_9 8), .int (iz (z_11 8))])), (r_9 8, .inl (cI, n_10 8, .inl (iA (F_12 8)))), (o 9, .inr (1, [.int (iz 1600), .ref (r_9 9), .int (iz (z_11 9))])), (r_9 9, .inl (cI, n_10 9, .inl (iA (F_12 9)))), (o 12, .inr (4, [.int (iz (z_11 17)), .int (iz (z_11 18)), .int (iz (z_11 19)), .int (iz (z_11 20)), .int (iz (z_11 21))])), (o 10, .inr (2, [.ref (r_9 10), .int (iz (z_11 10)), .int (iz (z_11 22))])), (r_9 10, .inl (cB, n_10 10, .inl (iA (F_12 10))))]) (w1 := (pU cB (o 11) r_24 n_25 z_26 tl_27 F_28)) (ws' := (xU cI cB cE o (va_up r_9 11 r_24) (va_up n_10 11 n_25) (va_up (va_up z_11 11 z_26) 23 tl_27) (va_up F_12 11 F_28) G (Eo 0 0))) hP hD [27, 28] [0, 1, 2, 3, 4, 5, 6, 7, 8, 9, 10, 11, 12, 13, 14, 15, 16, 17, 18, 19, 20, 21, 22, 23, 24, 25, 26] [0, 1, 2, 3, 4, 5, 6, 7, 8, 9, 10, 11, 12, 13, 14, 15, 16, 17, 18, 19, 20, 21, 22, 23, 24, 25, 26, 27, 28] rfl rfl (by decide) (by decide) hk1 hFc hP1 hD1 rfl (by decide)
    refine W.eq (g2 := F0 m 24 ls []) rfl ?_
    try dsimp only at hq_21
    obtain ⟨hc29, hz29, ht29, hn29, hF29⟩ := hq_21
    refine lv_iconst (v := iz (-1)) hx hb dX5_print_24 (by decide) ?_
    refine lv_istore_n (lv' := [(2, .int (iz (-1))), (1, .int (iz z_3)), (0, .ref (o 15))]) hx hb dX5_print_25 rfl hl (by decide) rfl (fun ls hl => ?_)
    refine lv_iconst (v := iz 0) hx hb dX5_print_26 (by decide) ?_
    refine lv_istore_n (lv' := [(3, .int (iz 0)), (2, .int (iz (-1))), (1, .int (iz z_3)), (0, .ref (o 15))]) hx hb dX5_print_27 rfl hl (by decide) rfl (fun ls hl => ?_)
    have hok30 : xOk (va_up n_10 11 n_25) (va_up (va_up z_11 11 z_26) 23 tl_27) (va_up F_12 11 F_28) := ((hok17.p 11 (by decide) (show 0 ≤ z_26 ∧ z_26 ≤ ((n_25 : Nat) : Int) ∧ (n_25 = 0 ∨ n_25 = 6000) by omega) hF29).s 23 (by decide) (show -2147483648 ≤ tl_27 ∧ tl_27 < 2147483648 by omega) (by omega))
    have hfr30 : xFr [0, 1, 2, 4, 5, 6, 7, 8, 9, 10, 11, 15, 16, 22, 23] [0, 1, 2, 4, 5, 6, 7, 8, 9, 10, 11] z F (va_up (va_up z_11 11 z_26) 23 tl_27) (va_up F_12 11 F_28) := (((hfr17.uz 11 (by decide) _).uz 23 (by decide) _).uf 11 (by decide) _)
    have hcg30 : (dn_22) + xg (va_up n_10 11 n_25) ≤ xg n_10 := by unfold xg; simp (decide := true) only [va_ev, ↓reduceIte]; omega
    have hcp30 : (dm_23) + xp (va_up n_10 11 n_25) ≤ xp n_10 := by unfold xp; simp (decide := true) only [va_ev, ↓reduceIte]; omega
    have lp28 : ∀ (n0 : Nat) (gv : Int) (k : Int) (rL28 : Nat → Nat) (nL28 : Nat → Nat) (zL28 : Nat → Int) (FL28 : Nat → Int → Int) (ErL28 : Nat → Nat → Nat) (EnL28 : Nat → Nat → Nat) (EzL28 : Nat → Nat → Int) (EFL28 : Nat → Nat → Int → Int) (cv : Nat) (sv : Nat), ((xR [0, 1, 2, 4, 5, 6, 7, 8, 9, 10, 11, 15, 16, 22, 23] [0, 1, 2, 4, 5, 6, 7, 8, 9, 10, 11] [10] [] N z F En Ez EF nL28 zL28 FL28 EnL28 EzL28 EFL28) ∧ (cv + xg nL28 ≤ xg n + (0) ∧ sv + xp nL28 ≤ xp n + (0)) ∧ (zL28 12 = z 12) ∧ (-2147483648 ≤ gv ∧ gv < 2147483648) ∧ (0 ≤ k ∧ k ≤ 81)) → (zL28 1 - k).toNat < n0 → ∀ (H : Heap) (locs : List Loc), va_P (dC, dI) kxCl ((xU cI cB cE o rL28 nL28 zL28 FL28 G (Eo 0 0)) ++ (eP cI N Eo ErL28 EnL28 EzL28 EFL28)) H → va_D A ((xU cI cB cE o rL28 nL28 zL28 FL28 G (Eo 0 0)) ++ (eP cI N Eo ErL28 EnL28 EzL28 EFL28)) → va_S A s.heap H locs → ∀ ls : Array Slot, lv_has ls 7 [(3, .int (iz k)), (2, .int (iz gv)), (1, .int (iz z_3)), (0, .ref (o 15))] → W p l e (headSpec [.code yX5_print cX5_print 7 (some .int)] ({ frames := 7, cells := 1200, slots := 600000, locals := 196 })).room s m ([.ref (o 15)] : List Value).toArray below meth c H locs cv sv QQ (F0 m 28 ls []) := by
      intro n0
      induction n0 with
      | zero => intro gv k rL28 nL28 zL28 FL28 ErL28 EnL28 EzL28 EFL28 cv sv hinv hm0; exact absurd hm0 (Nat.not_lt_zero _)
      | succ n0 ih28 =>
        intro gv k rL28 nL28 zL28 FL28 ErL28 EnL28 EzL28 EFL28 cv sv hinv hm0 H locs hP hD hS ls hl
        obtain ⟨hRLL28, hCLL28, hZLL28, hgv, hk⟩ := hinv
        have hz1 : 0 ≤ zL28 1 ∧ zL28 1 ≤ (nL28 1 : Int) ∧ (nL28 1 : Int) ≤ 80 := hRLL28.1.1 1 (by decide)
        refine lv_iload_n hx hb dX5_print_28 rfl (lv_at hl 0 rfl) ?_
        refine lv_aload_n hx hb dX5_print_29 rfl (lv_at hl 3 rfl) ?_
        refine va_get (D := (dC, dI)) (ci := 5) (v := .ref (o 1)) (C := RX5) (T := TX5) (N := 16) hx hb hts kt_X5 hown hK hP 0 rfl rfl 6 (by decide) (kx_word hG kq_18_xrows_47 rfl) (fun _ h9 => h9) rfl dX5_print_30 ?_
        have hxi_31 : 0 ≤ zL28 1 ∧ zL28 1 ≤ ((nL28 1 : Nat) : Int) ∧ ((nL28 1 : Nat) : Int) ≤ 80 := hRLL28.1.1 1 (by decide)
        have hPc := hP.sub (ws' := (iU cI 80 (o 1) (rL28 1) (nL28 1) (zL28 1) (FL28 1))) [4, 5] rfl
        refine xk_pure (va_runV (As := []) (rest := [.int (iz k)]) ⟨hx, hb, hml, hown, hts⟩ (x_size l dC dI cI cB cE 80 (o 1) (rL28 1) (nL28 1) (zL28 1) (FL28 1)  H.size ) (cwV 0 hts (kx_gV kq_18_xrows_40 kq_15_xspan_10 kq_15_xspan_11 kq_13_xints_6 kq_15_xspan_12 rfl) rfl rfl rfl (by decide +kernel) ⟨Nat.le_of_ble_eq_true rfl, Nat.le_of_ble_eq_true rfl⟩) ⟨pPre_blind, va_recv hK hPc (ci := 1) (q0 := 0) rfl rfl, pPre_give hPc hK hG⟩ rfl rfl hl.1 rfl (lv_room (Nat.le_of_ble_eq_true rfl)) dX5_print_33 ⟨show cv + 0 ≤ 1200 from (by omega), show sv + 0 ≤ 600000 from (by omega)⟩) hS (fun z_33 locs hq_32 hS => ?_)
        refine W.eq (g2 := F0 m 36 ls [.int (iz z_33), .int (iz k)]) rfl ?_
        try dsimp only at hq_32
        have hq_32 := hq_32.symm
        subst hq_32
        refine ki_icmp_ge (tgt := 131) hx hb dX5_print_36 (by decide) (by omega) (by omega) (by omega) (by omega) (fun c_34 => ?_) (fun c_34 => ?_)
        · skip
          refine lv_aload_n hx hb dX5_print_131 rfl (lv_at hl 3 rfl) ?_
          refine va_get (D := (dC, dI)) (ci := 5) (v := .ref (o 11)) (C := RX5) (T := TX5) (N := 16) hx hb hts kt_X5 hown hK hP 0 rfl rfl 15 (by decide) (kx_word hG kq_19_xouts_60 rfl) (fun _ h9 => h9) rfl dX5_print_132 ?_
          have hxz_35 : -2147483648 ≤ zL28 23 ∧ zL28 23 < 2147483648 := hRLL28.1.2.2.2.1 23
          have hxb_36 : zL28 23 = 0 ∨ zL28 23 = 1 := hRLL28.1.2.2.2.2 23 (by decide)
          refine va_getN (D := (dC, dI)) (ci := 2) (v := .int (iz (zL28 23))) (C := RX2) (T := TX2) (N := 3) hx hb hts kt_X2 hown hK hP 27 rfl rfl 2 (by decide) (va_Nw.use rfl (kx_nf hG kq_24_xnew_8)) (fun _ h9 => h9) rfl dX5_print_135 ?_
          refine ki_if_eq (tgt := 149) hx hb dX5_print_138 (by decide) (by omega) (by omega) (fun c_37 => ?_) (fun c_37 => ?_)
          · skip
            refine lv_aload_n hx hb dX5_print_149 rfl (lv_at hl 3 rfl) ?_
            refine va_get (D := (dC, dI)) (ci := 5) (v := .ref (o 10)) (C := RX5) (T := TX5) (N := 16) hx hb hts kt_X5 hown hK hP 0 rfl rfl 14 (by decide) (kx_word hG kq_21_xcalls_57 rfl) (fun _ h9 => h9) rfl dX5_print_150 ?_
            refine lv_astore_n (lv' := [(3, .ref (o 10)), (2, .int (iz gv)), (1, .int (iz z_3)), (0, .ref (o 15))]) hx hb dX5_print_153 rfl hl (by decide) rfl (fun ls hl => ?_)
            have hxp_38 : 0 ≤ zL28 10 ∧ zL28 10 ≤ ((nL28 10 : Nat) : Int) ∧ (nL28 10 = 0 ∨ nL28 10 = 6000) := hRLL28.1.2.1 10 (by decide)
            have hxp_39 : 0 ≤ zL28 11 ∧ zL28 11 ≤ ((nL28 11 : Nat) : Int) ∧ (nL28 11 = 0 ∨ nL28 11 = 6000) := hRLL28.1.2.1 11 (by decide)
            have hxz_40 : -2147483648 ≤ zL28 22 ∧ zL28 22 < 2147483648 := hRLL28.1.2.2.2.1 22
            have hxb_41 : zL28 22 = 0 ∨ zL28 22 = 1 := hRLL28.1.2.2.2.2 22 (by decide)
            refine lv_aload_n hx hb dX5_print_154 rfl (lv_at hl 3 rfl) ?_
            refine lv_aload_n hx hb dX5_print_155 rfl (lv_at hl 3 rfl) ?_
            refine va_get (D := (dC, dI)) (ci := 5) (v := .ref (o 11)) (C := RX5) (T := TX5) (N := 16) hx hb hts kt_X5 hown hK hP 0 rfl rfl 15 (by decide) (kx_word hG kq_19_xouts_60 rfl) (fun _ h9 => h9) rfl dX5_print_156 ?_
            refine va_put (D := (dC, dI)) (ci := 5) (v := .ref (o 11)) (ty := .object RX2) (C := RX5) (T := TX5) (N := 16) hx hb hts kt_X5 tyX5 tyX5_ok nmX5 hown hK hP hD hS 0 rfl rfl 14 (by decide) (kx_word hG kq_21_xcalls_57 rfl) (fun _ h9 => h9) rfl (by decide +kernel) rfl rfl (Nat.le_of_ble_eq_true rfl) dX5_print_159 (fun H locs hP hD hS => ?_)
            refine lv_aload_n hx hb dX5_print_162 rfl (lv_at hl 3 rfl) ?_
            refine lv_aload_n hx hb dX5_print_163 rfl (lv_at hl 0 rfl) ?_
            refine va_put (D := (dC, dI)) (ci := 5) (v := .ref (o 10)) (ty := .object RX2) (C := RX5) (T := TX5) (N := 16) hx hb hts kt_X5 tyX5 tyX5_ok nmX5 hown hK hP hD hS 0 rfl rfl 15 (by decide) (kx_word hG kq_19_xouts_60 rfl) (fun _ h9 => h9) rfl (by decide +kernel) rfl rfl (Nat.le_of_ble_eq_true rfl) dX5_print_164 (fun H locs hP hD hS => ?_)
            have hP : va_P (dC, dI) kxCl ([(o 15, .inr (5, [.ref (o 16), .ref (Eo 0 0), .int (iz (zL28 12)), .int (iz (zL28 13)), .int (iz (zL28 14)), .ref (o 0), .ref (o 1), .int (iz (zL28 15)), .ref (o 13), .ref (o 14), .int (iz (zL28 16)), .ref (o 2), .ref (o 12), .ref (o 3), .ref (o 11), .ref (o 10)])), (o 16, .inl (cE, 80, .inr (.inr (.inr (.inr G))))), (o 0, .inr (1, [.int (iz 80), .ref (rL28 0), .int (iz (zL28 0))])), (rL28 0, .inl (cI, nL28 0, .inl (iA (FL28 0)))), (o 1, .inr (1, [.int (iz 80), .ref (rL28 1), .int (iz (zL28 1))])), (rL28 1, .inl (cI, nL28 1, .inl (iA (FL28 1)))), (o 2, .inr (1, [.int (iz 80), .ref (rL28 2), .int (iz (zL28 2))])), (rL28 2, .inl (cI, nL28 2, .inl (iA (FL28 2)))), (o 3, .inr (1, [.int (iz 80), .ref (rL28 3), .int (iz (zL28 3))])), (rL28 3, .inl (cI, nL28 3, .inl (iA (FL28 3)))), (o 13, .inr (3, [.ref (o 4), .ref (o 5), .ref (o 6)])), (o 4, .inr (1, [.int (iz 1600), .ref (rL28 4), .int (iz (zL28 4))])), (rL28 4, .inl (cI, nL28 4, .inl (iA (FL28 4)))), (o 5, .inr (1, [.int (iz 1600), .ref (rL28 5), .int (iz (zL28 5))])), (rL28 5, .inl (cI, nL28 5, .inl (iA (FL28 5)))), (o 6, .inr (1, [.int (iz 1600), .ref (rL28 6), .int (iz (zL28 6))])), (rL28 6, .inl (cI, nL28 6, .inl (iA (FL28 6)))), (o 14, .inr (3, [.ref (o 7), .ref (o 8), .ref (o 9)])), (o 7, .inr (1, [.int (iz 1600), .ref (rL28 7), .int (iz (zL28 7))])), (rL28 7, .inl (cI, nL28 7, .inl (iA (FL28 7)))), (o 8, .inr (1, [.int (iz 1600), .ref (rL28 8), .int (iz (zL28 8))])), (rL28 8, .inl (cI, nL28 8, .inl (iA (FL28 8)))), (o 9, .inr (1, [.int (iz 1600), .ref (rL28 9), .int (iz (zL28 9))])), (rL28 9, .inl (cI, nL28 9, .inl (iA (FL28 9)))), (o 12, .inr (4, [.int (iz (zL28 17)), .int (iz (zL28 18)), .int (iz (zL28 19)), .int (iz (zL28 20)), .int (iz (zL28 21))])), (o 10, .inr (2, [.ref (rL28 10), .int (iz (zL28 10)), .int (iz (zL28 22))])), (rL28 10, .inl (cB, nL28 10, .inl (iA (FL28 10)))), (o 11, .inr (2, [.ref (rL28 11), .int (iz (zL28 11)), .int (iz (zL28 23))])), (rL28 11, .inl (cB, nL28 11, .inl (iA (FL28 11))))] ++ (eP cI N Eo ErL28 EnL28 EzL28 EFL28)) H := hP
            have hD : va_D A ([(o 15, .inr (5, [.ref (o 16), .ref (Eo 0 0), .int (iz (zL28 12)), .int (iz (zL28 13)), .int (iz (zL28 14)), .ref (o 0), .ref (o 1), .int (iz (zL28 15)), .ref (o 13), .ref (o 14), .int (iz (zL28 16)), .ref (o 2), .ref (o 12), .ref (o 3), .ref (o 11), .ref (o 10)])), (o 16, .inl (cE, 80, .inr (.inr (.inr (.inr G))))), (o 0, .inr (1, [.int (iz 80), .ref (rL28 0), .int (iz (zL28 0))])), (rL28 0, .inl (cI, nL28 0, .inl (iA (FL28 0)))), (o 1, .inr (1, [.int (iz 80), .ref (rL28 1), .int (iz (zL28 1))])), (rL28 1, .inl (cI, nL28 1, .inl (iA (FL28 1)))), (o 2, .inr (1, [.int (iz 80), .ref (rL28 2), .int (iz (zL28 2))])), (rL28 2, .inl (cI, nL28 2, .inl (iA (FL28 2)))), (o 3, .inr (1, [.int (iz 80), .ref (rL28 3), .int (iz (zL28 3))])), (rL28 3, .inl (cI, nL28 3, .inl (iA (FL28 3)))), (o 13, .inr (3, [.ref (o 4), .ref (o 5), .ref (o 6)])), (o 4, .inr (1, [.int (iz 1600), .ref (rL28 4), .int (iz (zL28 4))])), (rL28 4, .inl (cI, nL28 4, .inl (iA (FL28 4)))), (o 5, .inr (1, [.int (iz 1600), .ref (rL28 5), .int (iz (zL28 5))])), (rL28 5, .inl (cI, nL28 5, .inl (iA (FL28 5)))), (o 6, .inr (1, [.int (iz 1600), .ref (rL28 6), .int (iz (zL28 6))])), (rL28 6, .inl (cI, nL28 6, .inl (iA (FL28 6)))), (o 14, .inr (3, [.ref (o 7), .ref (o 8), .ref (o 9)])), (o 7, .inr (1, [.int (iz 1600), .ref (rL28 7), .int (iz (zL28 7))])), (rL28 7, .inl (cI, nL28 7, .inl (iA (FL28 7)))), (o 8, .inr (1, [.int (iz 1600), .ref (rL28 8), .int (iz (zL28 8))])), (rL28 8, .inl (cI, nL28 8, .inl (iA (FL28 8)))), (o 9, .inr (1, [.int (iz 1600), .ref (rL28 9), .int (iz (zL28 9))])), (rL28 9, .inl (cI, nL28 9, .inl (iA (FL28 9)))), (o 12, .inr (4, [.int (iz (zL28 17)), .int (iz (zL28 18)), .int (iz (zL28 19)), .int (iz (zL28 20)), .int (iz (zL28 21))])), (o 10, .inr (2, [.ref (rL28 10), .int (iz (zL28 10)), .int (iz (zL28 22))])), (rL28 10, .inl (cB, nL28 10, .inl (iA (FL28 10)))), (o 11, .inr (2, [.ref (rL28 11), .int (iz (zL28 11)), .int (iz (zL28 23))])), (rL28 11, .inl (cB, nL28 11, .inl (iA (FL28 11))))] ++ (eP cI N Eo ErL28 EnL28 EzL28 EFL28)) := hD
            have hP : va_P (dC, dI) kxCl ((xU cI cB cE (va_up (va_up o 10 (o 11)) 11 (o 10)) (va_up (va_up rL28 10 (rL28 11)) 11 (rL28 10)) (va_up (va_up nL28 10 (nL28 11)) 11 (nL28 10)) (va_up (va_up (va_up (va_up zL28 10 (zL28 11)) 11 (zL28 10)) 22 (zL28 23)) 23 (zL28 22)) (va_up (va_up FL28 10 (FL28 11)) 11 (FL28 10)) G (Eo 0 0)) ++ (eP cI N Eo ErL28 EnL28 EzL28 EFL28)) H := va_P.part (cx := (xU cI cB cE (va_up (va_up o 10 (o 11)) 11 (o 10)) (va_up (va_up rL28 10 (rL28 11)) 11 (rL28 10)) (va_up (va_up nL28 10 (nL28 11)) 11 (nL28 10)) (va_up (va_up (va_up (va_up zL28 10 (zL28 11)) 11 (zL28 10)) 22 (zL28 23)) 23 (zL28 22)) (va_up (va_up FL28 10 (FL28 11)) 11 (FL28 10)) G (Eo 0 0))) hP [0, 1, 2, 3, 4, 5, 6, 7, 8, 9, 10, 11, 12, 13, 14, 15, 16, 17, 18, 19, 20, 21, 22, 23, 24, 27, 28, 25, 26] rfl
            have hD : va_D A ((xU cI cB cE (va_up (va_up o 10 (o 11)) 11 (o 10)) (va_up (va_up rL28 10 (rL28 11)) 11 (rL28 10)) (va_up (va_up nL28 10 (nL28 11)) 11 (nL28 10)) (va_up (va_up (va_up (va_up zL28 10 (zL28 11)) 11 (zL28 10)) 22 (zL28 23)) 23 (zL28 22)) (va_up (va_up FL28 10 (FL28 11)) 11 (FL28 10)) G (Eo 0 0)) ++ (eP cI N Eo ErL28 EnL28 EzL28 EFL28)) := va_D.part (cx := (xU cI cB cE (va_up (va_up o 10 (o 11)) 11 (o 10)) (va_up (va_up rL28 10 (rL28 11)) 11 (rL28 10)) (va_up (va_up nL28 10 (nL28 11)) 11 (nL28 10)) (va_up (va_up (va_up (va_up zL28 10 (zL28 11)) 11 (zL28 10)) 22 (zL28 23)) 23 (zL28 22)) (va_up (va_up FL28 10 (FL28 11)) 11 (FL28 10)) G (Eo 0 0))) hD [0, 1, 2, 3, 4, 5, 6, 7, 8, 9, 10, 11, 12, 13, 14, 15, 16, 17, 18, 19, 20, 21, 22, 23, 24, 27, 28, 25, 26] (by decide) rfl
            refine lv_aload_n hx hb dX5_print_167 rfl (lv_at hl 3 rfl) ?_
            refine va_get (D := (dC, dI)) (ci := 5) (v := .ref (o 11)) (C := RX5) (T := TX5) (N := 16) hx hb hts kt_X5 hown hK hP 0 rfl rfl 14 (by decide) (kx_word hG kq_21_xcalls_57 rfl) (fun _ h9 => h9) rfl dX5_print_168 ?_
            have hPc := hP.sub (ws' := (pU cB (o 11) (rL28 11) (nL28 11) (zL28 11) (zL28 23) (FL28 11))) [25, 26] rfl
            refine xk_pure (va_runV (As := []) (rest := []) ⟨hx, hb, hml, hown, hts⟩ (x_psize l dC dI cI cB cE (o 11) (rL28 11) (nL28 11) (zL28 11) (zL28 23) (FL28 11)  H.size ) (cwV 0 hts (kx_gV kq_21_xcalls_58 kq_21_xcalls_59 kq_21_xcalls_60 kq_15_xspan_17 kq_21_xcalls_61 rfl) rfl rfl rfl (by decide +kernel) ⟨Nat.le_of_ble_eq_true rfl, Nat.le_of_ble_eq_true rfl⟩) ⟨pPre_blind, va_recv hK hPc (ci := 2) (q0 := 0) rfl rfl, pPre_give hPc hK hG⟩ rfl rfl hl.1 rfl (lv_room (Nat.le_of_ble_eq_true rfl)) dX5_print_171 ⟨show cv + 0 ≤ 1200 from (by omega), show sv + 0 ≤ 600000 from (by omega)⟩) hS (fun z_43 locs hq_42 hS => ?_)
            refine W.eq (g2 := F0 m 174 ls [.int (iz z_43)]) rfl ?_
            try dsimp only at hq_42
            have hq_42 := hq_42.symm
            subst hq_42
            have hok44 : xOk (va_up (va_up nL28 10 (nL28 11)) 11 (nL28 10)) (va_up (va_up (va_up (va_up zL28 10 (zL28 11)) 11 (zL28 10)) 22 (zL28 23)) 23 (zL28 22)) (va_up (va_up FL28 10 (FL28 11)) 11 (FL28 10)) := ((((hRLL28.1.p 10 (by decide) (show 0 ≤ zL28 11 ∧ zL28 11 ≤ ((nL28 11 : Nat) : Int) ∧ (nL28 11 = 0 ∨ nL28 11 = 6000) by omega) (hRLL28.1.2.2.1 11)).p 11 (by decide) (show 0 ≤ zL28 10 ∧ zL28 10 ≤ ((nL28 10 : Nat) : Int) ∧ (nL28 10 = 0 ∨ nL28 10 = 6000) by omega) (hRLL28.1.2.2.1 10)).s 22 (by decide) (show -2147483648 ≤ zL28 23 ∧ zL28 23 < 2147483648 by omega) (by omega)).s 23 (by decide) (show -2147483648 ≤ zL28 22 ∧ zL28 22 < 2147483648 by omega) (by omega))
            have hfr44 : xFr [0, 1, 2, 4, 5, 6, 7, 8, 9, 10, 11, 15, 16, 22, 23] [0, 1, 2, 4, 5, 6, 7, 8, 9, 10, 11] z F (va_up (va_up (va_up (va_up zL28 10 (zL28 11)) 11 (zL28 10)) 22 (zL28 23)) 23 (zL28 22)) (va_up (va_up FL28 10 (FL28 11)) 11 (FL28 10)) := ((((((hRLL28.2.1.uz 10 (by decide) _).uz 11 (by decide) _).uz 22 (by decide) _).uz 23 (by decide) _).uf 10 (by decide) _).uf 11 (by decide) _)
            have hcg44 : (0) + xg (va_up (va_up nL28 10 (nL28 11)) 11 (nL28 10)) ≤ xg nL28 := by unfold xg; simp (decide := true) only [va_ev, ↓reduceIte]; omega
            have hcp44 : (0) + xp (va_up (va_up nL28 10 (nL28 11)) 11 (nL28 10)) ≤ xp nL28 := by unfold xp; simp (decide := true) only [va_ev, ↓reduceIte]; omega
            rw [← hQe]
            refine vx_ret ?_
            exact xk_iret (ov := (fun u : (Int) × (Nat → Nat) × (Nat → Nat) × (Nat → Nat) × (Nat → Int) × (Nat → Int → Int) × (Nat → Nat → Nat) × (Nat → Nat → Nat) × (Nat → Nat → Int) × (Nat → Nat → Int → Int) => match u with | (q, o', r', n', z', F', Er', En', Ez', EF') => some (.int (iz q)))) (post := (fun (u : (Int) × (Nat → Nat) × (Nat → Nat) × (Nat → Nat) × (Nat → Int) × (Nat → Int → Int) × (Nat → Nat → Nat) × (Nat → Nat → Nat) × (Nat → Nat → Int) × (Nat → Nat → Int → Int)) (dn dm : Nat) => match u with | (q, o', r', n', z', F', Er', En', Ez', EF') => xR [0, 1, 2, 4, 5, 6, 7, 8, 9, 10, 11, 15, 16, 22, 23] [0, 1, 2, 4, 5, 6, 7, 8, 9, 10, 11] [10] [] N z F En Ez EF n' z' F' En' Ez' EF' ∧ (dn + xg n' ≤ xg n + 0 ∧ dm + xp n' ≤ xp n + 0) ∧ (∀ k, k ≠ 10 → k ≠ 11 → o' k = o k))) (ws := (fun u : (Int) × (Nat → Nat) × (Nat → Nat) × (Nat → Nat) × (Nat → Int) × (Nat → Int → Int) × (Nat → Nat → Nat) × (Nat → Nat → Nat) × (Nat → Nat → Int) × (Nat → Nat → Int → Int) => match u with | (q, o', r', n', z', F', Er', En', Ez', EF') => (xU cI cB cE o' r' n' z' F' G (Eo 0 0) ++ eP cI N Eo Er' En' Ez' EF'))) (tys := xT cI cB cE) (z := zL28 11) (zL28 11, (va_up (va_up o 10 (o 11)) 11 (o 10)), (va_up (va_up rL28 10 (rL28 11)) 11 (rL28 10)), (va_up (va_up nL28 10 (nL28 11)) 11 (nL28 10)), (va_up (va_up (va_up (va_up zL28 10 (zL28 11)) 11 (zL28 10)) 22 (zL28 23)) 23 (zL28 22)), (va_up (va_up FL28 10 (FL28 11)) 11 (FL28 10)), ErL28, EnL28, EzL28, EFL28) hx hb hr rfl hlocks rfl hP hD hK hS dX5_print_174 (fun dn dm hdn hdm => ⟨⟨hok44, hfr44, hRLL28.2.2.1, hRLL28.2.2.2⟩, ⟨by omega, by omega⟩, fun k h1 h2 => by rw [va_ev, if_neg h2, va_ev, if_neg h1]⟩) (by omega) (by omega)
          · skip
            rw [← hQe]
            exact ky_thr_UOE hx hb hlf hown hG hZ hS (hl.1.trans hml.symm) dX5_print_141 dX5_print_144 dX5_print_145 dX5_print_148 htab (Nat.le_of_ble_eq_true rfl) (Nat.le_of_ble_eq_true rfl) (show cv + 1 ≤ 1200 from (by omega)) (show sv + 6 ≤ 600000 from (by omega)) hlocks (⟨rfl, by first | trivial | omega⟩) (fun t hvm h1 h2 => ⟨(rL28, nL28, zL28, FL28, ErL28, EnL28, EzL28, EFL28), ⟨hRLL28.1, hRLL28.2.1, hRLL28.2.2.1, hRLL28.2.2.2⟩, hP.kept (fun k q hk => h2 q.1 (hP k q hk).lt), va_K.moved hvm hK, hD⟩) hS.2.2 (by omega) (by omega) (by omega) (by omega)
        · skip
          refine lv_aload_n hx hb dX5_print_39 rfl (lv_at hl 3 rfl) ?_
          refine va_get (D := (dC, dI)) (ci := 5) (v := .ref (o 11)) (C := RX5) (T := TX5) (N := 16) hx hb hts kt_X5 hown hK hP 0 rfl rfl 15 (by decide) (kx_word hG kq_19_xouts_60 rfl) (fun _ h9 => h9) rfl dX5_print_40 ?_
          have hxz_45 : -2147483648 ≤ zL28 23 ∧ zL28 23 < 2147483648 := hRLL28.1.2.2.2.1 23
          have hxb_46 : zL28 23 = 0 ∨ zL28 23 = 1 := hRLL28.1.2.2.2.2 23 (by decide)
          refine va_getN (D := (dC, dI)) (ci := 2) (v := .int (iz (zL28 23))) (C := RX2) (T := TX2) (N := 3) hx hb hts kt_X2 hown hK hP 27 rfl rfl 2 (by decide) (va_Nw.use rfl (kx_nf hG kq_24_xnew_8)) (fun _ h9 => h9) rfl dX5_print_43 ?_
          refine ki_if_ne (tgt := 131) hx hb dX5_print_46 (by decide) (by omega) (by omega) (fun c_47 => ?_) (fun c_47 => ?_)
          · skip
            refine lv_aload_n hx hb dX5_print_131 rfl (lv_at hl 3 rfl) ?_
            refine va_get (D := (dC, dI)) (ci := 5) (v := .ref (o 11)) (C := RX5) (T := TX5) (N := 16) hx hb hts kt_X5 hown hK hP 0 rfl rfl 15 (by decide) (kx_word hG kq_19_xouts_60 rfl) (fun _ h9 => h9) rfl dX5_print_132 ?_
            refine va_getN (D := (dC, dI)) (ci := 2) (v := .int (iz (zL28 23))) (C := RX2) (T := TX2) (N := 3) hx hb hts kt_X2 hown hK hP 27 rfl rfl 2 (by decide) (va_Nw.use rfl (kx_nf hG kq_24_xnew_8)) (fun _ h9 => h9) rfl dX5_print_135 ?_
            refine ki_if_eq (tgt := 149) hx hb dX5_print_138 (by decide) (by omega) (by omega) (fun c_48 => ?_) (fun c_48 => ?_)
            · omega
            · skip
              rw [← hQe]
              exact ky_thr_UOE hx hb hlf hown hG hZ hS (hl.1.trans hml.symm) dX5_print_141 dX5_print_144 dX5_print_145 dX5_print_148 htab (Nat.le_of_ble_eq_true rfl) (Nat.le_of_ble_eq_true rfl) (show cv + 1 ≤ 1200 from (by omega)) (show sv + 6 ≤ 600000 from (by omega)) hlocks (⟨rfl, by first | trivial | omega⟩) (fun t hvm h1 h2 => ⟨(rL28, nL28, zL28, FL28, ErL28, EnL28, EzL28, EFL28), ⟨hRLL28.1, hRLL28.2.1, hRLL28.2.2.1, hRLL28.2.2.2⟩, hP.kept (fun k q hk => h2 q.1 (hP k q hk).lt), va_K.moved hvm hK, hD⟩) hS.2.2 (by omega) (by omega) (by omega) (by omega)
          · skip
            refine lv_aload_n hx hb dX5_print_49 rfl (lv_at hl 3 rfl) ?_
            refine va_get (D := (dC, dI)) (ci := 5) (v := .ref (o 1)) (C := RX5) (T := TX5) (N := 16) hx hb hts kt_X5 hown hK hP 0 rfl rfl 6 (by decide) (kx_word hG kq_18_xrows_47 rfl) (fun _ h9 => h9) rfl dX5_print_50 ?_
            refine lv_iload_n hx hb dX5_print_53 rfl (lv_at hl 0 rfl) ?_
            have hPc := hP.sub (ws' := (iU cI 80 (o 1) (rL28 1) (nL28 1) (zL28 1) (FL28 1))) [4, 5] rfl
            refine xk_pure (va_runV (As := [.int (iz k)]) (rest := []) ⟨hx, hb, hml, hown, hts⟩ (x_get l dC dI cI cB cE 80 (o 1) (rL28 1) (nL28 1) (zL28 1) (FL28 1) k H.size (by omega) (hRLL28.1.2.2.1 1) (by omega) (by omega)) (cwV 1 hts (kx_gV kq_18_xrows_41 kq_13_xints_4 kq_13_xints_5 kq_13_xints_6 kq_13_xints_7 rfl) rfl rfl rfl (by decide +kernel) ⟨Nat.le_of_ble_eq_true rfl, Nat.le_of_ble_eq_true rfl⟩) ⟨pPre_blind, va_recv hK hPc (ci := 1) (q0 := 0) rfl rfl, pPre_give hPc hK hG⟩ rfl rfl hl.1 rfl (lv_room (Nat.le_of_ble_eq_true rfl)) dX5_print_54 ⟨show cv + 0 ≤ 1200 from (by omega), show sv + 0 ≤ 600000 from (by omega)⟩) hS (fun z_50 locs hq_49 hS => ?_)
            refine W.eq (g2 := F0 m 57 ls [.int (iz z_50)]) rfl ?_
            try dsimp only at hq_49
            refine lv_istore (lv' := [(4, .int (iz z_50)), (3, .int (iz k)), (2, .int (iz gv)), (1, .int (iz z_3)), (0, .ref (o 15))]) hx hb dX5_print_57 hl (by decide) rfl (fun ls hl => ?_)
            refine lv_aload_n hx hb dX5_print_59 rfl (lv_at hl 4 rfl) ?_
            refine lv_iload hx hb dX5_print_60 (lv_at hl 0 rfl) ?_
            have hxz_51 : -2147483648 ≤ zL28 12 ∧ zL28 12 < 2147483648 := hRLL28.1.2.2.2.1 12
            have hxG9 : xG N (zL28 12) G Eo := ⟨by omega, by omega, by omega, fun e9 h9 => hN4 e9 (by omega)⟩
            have hP : va_P (dC, dI) kxCl (xU cI cB cE o rL28 nL28 zL28 FL28 G (Eo 0 0) ++ eP cI N Eo ErL28 EnL28 EzL28 EFL28) H := hP
            refine xk_pure (va_runV (As := [.int (iz z_50)]) (rest := []) ⟨hx, hb, hml, hown, hts⟩ (y_known l dC dI cI cB cE o rL28 nL28 zL28 FL28 G N Eo ErL28 EnL28 EzL28 EFL28 z_50 H.size hRLL28.1 hxG9 hRLL28.2.2.1 (by omega) (by omega)) (cwV 1 hts (kx_gV kq_18_xrows_8 kq_18_xrows_9 kq_18_xrows_10 kq_18_xrows_4 kq_18_xrows_11 rfl) rfl rfl rfl (by decide +kernel) ⟨Nat.le_of_ble_eq_true rfl, Nat.le_of_ble_eq_true rfl⟩) ⟨pPre_blind, va_recv hK hP (ci := 5) (q0 := 0) rfl rfl, pPre_give hP hK hG⟩ rfl rfl hl.1 rfl (lv_room (Nat.le_of_ble_eq_true rfl)) dX5_print_62 ⟨show cv + 0 ≤ 1200 from (by omega), show sv + 0 ≤ 600000 from (by omega)⟩) hS (fun z_53 locs hq_52 hS => ?_)
            refine W.eq (g2 := F0 m 65 ls [.ref z_53.toNat]) rfl ?_
            try dsimp only at hq_52
            obtain ⟨j54, hj54, ez54, hje54⟩ := hq_52
            subst ez54
            refine W.eq (g2 := F0 m 65 ls [.ref (Eo j54 0)]) rfl ?_
            have hP := eP_foc hj54 hP
            have hD := eD_foc hj54 hD
            have hez_55 : -2147483648 ≤ EzL28 j54 7 ∧ EzL28 j54 7 < 2147483648 := (hRLL28.2.2.1 j54 hj54).2.2 7
            refine va_getN (D := (dC, dI)) (ci := 0) (v := .int (iz (EzL28 j54 7))) (C := RX0) (T := TX0) (N := 12) hx hb hts kt_X0 hown hK hP 29 rfl rfl 0 (by decide) (va_Nw.use rfl (kx_nf hG kq_18_xrows_12)) (fun _ h9 => h9) rfl dX5_print_65 ?_
            refine lv_istore (lv' := [(5, .int (iz (EzL28 j54 7))), (4, .int (iz z_50)), (3, .int (iz k)), (2, .int (iz gv)), (1, .int (iz z_3)), (0, .ref (o 15))]) hx hb dX5_print_68 hl (by decide) rfl (fun ls hl => ?_)
            refine lv_aload_n hx hb dX5_print_70 rfl (lv_at hl 5 rfl) ?_
            refine lv_iload hx hb dX5_print_71 (lv_at hl 1 rfl) ?_
            have hP := eP_un0 hj54 hP
            have hD := eD_un0 hj54 hD
            have hxG9 : xG N (zL28 12) G Eo := ⟨by omega, by omega, by omega, fun e9 h9 => hN4 e9 (by omega)⟩
            have hP : va_P (dC, dI) kxCl (xU cI cB cE o rL28 nL28 zL28 FL28 G (Eo 0 0) ++ eP cI N Eo ErL28 EnL28 EzL28 EFL28) H := hP
            refine xk_pure (va_runV (As := [.int (iz z_50)]) (rest := []) ⟨hx, hb, hml, hown, hts⟩ (y_groupOf l dC dI cI cB cE o rL28 nL28 zL28 FL28 G N Eo ErL28 EnL28 EzL28 EFL28 z_50 H.size hRLL28.1 hxG9 hRLL28.2.2.1 (by omega) (by omega)) (cwV 1 hts (kx_gV kq_21_xcalls_37 kq_21_xcalls_38 kq_21_xcalls_39 kq_18_xrows_4 kq_21_xcalls_40 rfl) rfl rfl rfl (by decide +kernel) ⟨Nat.le_of_ble_eq_true rfl, Nat.le_of_ble_eq_true rfl⟩) ⟨pPre_blind, va_recv hK hP (ci := 5) (q0 := 0) rfl rfl, pPre_give hP hK hG⟩ rfl rfl hl.1 rfl (lv_room (Nat.le_of_ble_eq_true rfl)) dX5_print_73 ⟨show cv + 0 ≤ 1200 from (by omega), show sv + 0 ≤ 600000 from (by omega)⟩) hS (fun z_57 locs hq_56 hS => ?_)
            refine W.eq (g2 := F0 m 76 ls [.int (iz z_57)]) rfl ?_
            try dsimp only at hq_56
            refine lv_istore (lv' := [(6, .int (iz z_57)), (5, .int (iz (EzL28 j54 7))), (4, .int (iz z_50)), (3, .int (iz k)), (2, .int (iz gv)), (1, .int (iz z_3)), (0, .ref (o 15))]) hx hb dX5_print_76 hl (by decide) rfl (fun ls hl => ?_)
            refine lv_aload_n hx hb dX5_print_78 rfl (lv_at hl 6 rfl) ?_
            refine lv_iload hx hb dX5_print_79 (lv_at hl 2 rfl) ?_
            have hxG9 : xG N (zL28 12) G Eo := ⟨by omega, by omega, by omega, fun e9 h9 => hN4 e9 (by omega)⟩
            have hP : va_P (dC, dI) kxCl (xU cI cB cE o rL28 nL28 zL28 FL28 G (Eo 0 0) ++ eP cI N Eo ErL28 EnL28 EzL28 EFL28) H := hP
            have hD : va_D A (xU cI cB cE o rL28 nL28 zL28 FL28 G (Eo 0 0) ++ eP cI N Eo ErL28 EnL28 EzL28 EFL28) := hD
            have hFc := xw_free hD hS hA
            refine xk_call (va_runV (As := [.int (iz z_50)]) (rest := []) ⟨hx, hb, hml, hown, hts⟩ (y_findLocators l dC dI cI cB cE o rL28 nL28 zL28 FL28 G N Eo ErL28 EnL28 EzL28 EFL28 z_50 H.size hRLL28.1 hxG9 hRLL28.2.2.1 (by omega) (by omega)) (cwV 1 hts (kx_gV kq_21_xcalls_29 kq_21_xcalls_30 kq_21_xcalls_31 kq_18_xrows_4 kq_21_xcalls_32 rfl) rfl rfl rfl (by decide +kernel) ⟨Nat.le_of_ble_eq_true rfl, Nat.le_of_ble_eq_true rfl⟩) ⟨kx_blind, va_recv hK hP (ci := 5) (q0 := 0) rfl rfl, kx_give (ws := []) (tys := []) hP hD hK hG hZ hS hFc⟩ rfl rfl hl.1 rfl (lv_room (Nat.le_of_ble_eq_true rfl)) dX5_print_81 ⟨show cv + 400 ≤ 1200 from (by omega), show sv + 170000 ≤ 600000 from (by omega)⟩) hS (fun q _ h => hFc q h) hFc (fun u dn_60 dm_61 t H locs ht hvm hq_58 hB hk1 hS => ?_)
            obtain ⟨r_62, n_63, z_64, F_65, Er_66, En_67, Ez_68, EF_69⟩ := u
            obtain ⟨hP, hK1, hD1⟩ := hB
            rw [ht] at hP
            have hD := hD1.weaken (fun _ q _ h => hFc _ h)
            obtain ⟨hR70, hC70, hq_58⟩ := hq_58
            have hok70 := hR70.1
            have hfr70 := hRLL28.2.1.tr (hR70.2.1.mono (S' := [0, 1, 2, 4, 5, 6, 7, 8, 9, 10, 11, 15, 16, 22, 23]) (T' := [0, 1, 2, 4, 5, 6, 7, 8, 9, 10, 11]) (by decide) (by decide))
            have hPE70 := hR70.2.2.1
            have hef70 := hRLL28.2.2.2.tr (hR70.2.2.2.mono (S' := [10]) (T' := []) (by decide) (by decide))
            have hz70 : z_64 12 = (zL28 12) := hR70.2.1.1 12 (by decide)
            have hkr70_1 : z_64 1 = zL28 1 := hR70.2.1.1 1 (by decide)
            refine W.eq (g2 := F0 m 84 ls []) rfl ?_
            try dsimp only at hq_58
            refine lv_aload_n hx hb dX5_print_84 rfl (lv_at hl 6 rfl) ?_
            refine lv_iload hx hb dX5_print_85 (lv_at hl 2 rfl) ?_
            have hxz_71 : -2147483648 ≤ z_64 12 ∧ z_64 12 < 2147483648 := hok70.2.2.2.1 12
            have hxG9 : xG N (z_64 12) G Eo := ⟨by omega, by omega, by omega, fun e9 h9 => hN4 e9 (by omega)⟩
            have hP : va_P (dC, dI) kxCl (xU cI cB cE o r_62 n_63 z_64 F_65 G (Eo 0 0) ++ eP cI N Eo Er_66 En_67 Ez_68 EF_69) H := hP
            have hD : va_D A (xU cI cB cE o r_62 n_63 z_64 F_65 G (Eo 0 0) ++ eP cI N Eo Er_66 En_67 Ez_68 EF_69) := hD
            have hFc := xw_free hD hS hA
            refine xk_call (va_runV (As := [.int (iz z_50)]) (rest := []) ⟨hx, hb, hml, hown, hts⟩ (y_findSeen l dC dI cI cB cE o r_62 n_63 z_64 F_65 G N Eo Er_66 En_67 Ez_68 EF_69 z_50 H.size hok70 hxG9 hPE70 (by omega) (by omega)) (cwV 1 hts (kx_gV kq_21_xcalls_33 kq_21_xcalls_34 kq_21_xcalls_35 kq_18_xrows_4 kq_21_xcalls_36 rfl) rfl rfl rfl (by decide +kernel) ⟨Nat.le_of_ble_eq_true rfl, Nat.le_of_ble_eq_true rfl⟩) ⟨kx_blind, va_recv hK hP (ci := 5) (q0 := 0) rfl rfl, kx_give (ws := []) (tys := []) hP hD hK hG hZ hS hFc⟩ rfl rfl hl.1 rfl (lv_room (Nat.le_of_ble_eq_true rfl)) dX5_print_87 ⟨show (cv + dn_60) + 260 ≤ 1200 from (by omega), show (sv + dm_61) + 110000 ≤ 600000 from (by omega)⟩) hS (fun q _ h => hFc q h) hFc (fun u dn_74 dm_75 t H locs ht hvm hq_72 hB hk1 hS => ?_)
            obtain ⟨r_76, n_77, z_78, F_79, Er_80, En_81, Ez_82, EF_83⟩ := u
            obtain ⟨hP, hK1, hD1⟩ := hB
            rw [ht] at hP
            have hD := hD1.weaken (fun _ q _ h => hFc _ h)
            obtain ⟨hR84, hC84, hq_72⟩ := hq_72
            have hok84 := hR84.1
            have hfr84 := hfr70.tr (hR84.2.1.mono (S' := [0, 1, 2, 4, 5, 6, 7, 8, 9, 10, 11, 15, 16, 22, 23]) (T' := [0, 1, 2, 4, 5, 6, 7, 8, 9, 10, 11]) (by decide) (by decide))
            have hPE84 := hR84.2.2.1
            have hef84 := hef70.tr (hR84.2.2.2.mono (S' := [10]) (T' := []) (by decide) (by decide))
            have hz84 : z_78 12 = (z_64 12) := hR84.2.1.1 12 (by decide)
            have hkr84_1 : z_78 1 = z_64 1 := hR84.2.1.1 1 (by decide)
            refine W.eq (g2 := F0 m 90 ls []) rfl ?_
            try dsimp only at hq_72
            refine lv_iload hx hb dX5_print_90 (lv_at hl 1 rfl) ?_
            refine ki_if_ne (tgt := 113) hx hb dX5_print_92 (by decide) (by omega) (by omega) (fun c_85 => ?_) (fun c_85 => ?_)
            · skip
              refine lv_aload_n hx hb dX5_print_113 rfl (lv_at hl 6 rfl) ?_
              refine lv_iconst (v := iz 1) hx hb dX5_print_114 (by decide) ?_
              refine lv_iload hx hb dX5_print_115 (lv_at hl 1 rfl) ?_
              refine ki_iadd hx hb dX5_print_117 ?_
              refine ki_any (fun z_86 hz_86a hz_86b => ?_)
              refine lv_iload hx hb dX5_print_118 (lv_at hl 2 rfl) ?_
              refine lv_iload hx hb dX5_print_120 (lv_at hl 0 rfl) ?_
              have hxz_87 : -2147483648 ≤ z_78 12 ∧ z_78 12 < 2147483648 := hok84.2.2.2.1 12
              have hxG9 : xG N (z_78 12) G Eo := ⟨by omega, by omega, by omega, fun e9 h9 => hN4 e9 (by omega)⟩
              have hP : va_P (dC, dI) kxCl (xU cI cB cE o r_76 n_77 z_78 F_79 G (Eo 0 0) ++ eP cI N Eo Er_80 En_81 Ez_82 EF_83) H := hP
              have hD : va_D A (xU cI cB cE o r_76 n_77 z_78 F_79 G (Eo 0 0) ++ eP cI N Eo Er_80 En_81 Ez_82 EF_83) := hD
              have hFc := xw_free hD hS hA
              refine xk_call (va_runV (As := [.int (iz z_86), .int (iz z_50), .int (iz z_57)]) (rest := []) ⟨hx, hb, hml, hown, hts⟩ (y_writePart l dC dI cI cB cE o r_76 n_77 z_78 F_79 G N Eo Er_80 En_81 Ez_82 EF_83 z_86 z_50 z_57 H.size hok84 hxG9 hPE84 (by omega) (by omega) (by omega) (by omega) (by omega) (by omega)) (cwV 3 hts (kx_gV kq_24_xnew_9 kq_24_xnew_10 kq_24_xnew_11 kq_18_xrows_4 kq_24_xnew_12 rfl) rfl rfl rfl (by decide +kernel) ⟨Nat.le_of_ble_eq_true rfl, Nat.le_of_ble_eq_true rfl⟩) ⟨kx_blind, va_recv hK hP (ci := 5) (q0 := 0) rfl rfl, kx_give (ws := []) (tys := []) hP hD hK hG hZ hS hFc⟩ rfl rfl hl.1 rfl (lv_room (Nat.le_of_ble_eq_true rfl)) dX5_print_122 ⟨show ((cv + dn_60) + dn_74) + 200 ≤ 1200 from (by omega), show ((sv + dm_61) + dm_75) + 85000 ≤ 600000 from (by omega)⟩) hS (fun q _ h => hFc q h) hFc (fun u dn_90 dm_91 t H locs ht hvm hq_88 hB hk1 hS => ?_)
              obtain ⟨r_92, n_93, z_94, F_95, Er_96, En_97, Ez_98, EF_99⟩ := u
              obtain ⟨hP, hK1, hD1⟩ := hB
              rw [ht] at hP
              have hD := hD1.weaken (fun _ q _ h => hFc _ h)
              obtain ⟨hR100, hC100, hq_88⟩ := hq_88
              have hok100 := hR100.1
              have hfr100 := hfr84.tr (hR100.2.1.mono (S' := [0, 1, 2, 4, 5, 6, 7, 8, 9, 10, 11, 15, 16, 22, 23]) (T' := [0, 1, 2, 4, 5, 6, 7, 8, 9, 10, 11]) (by decide) (by decide))
              have hPE100 := hR100.2.2.1
              have hef100 := hef84.tr (hR100.2.2.2.mono (S' := [10]) (T' := []) (by decide) (by decide))
              have hz100 : z_94 12 = (z_78 12) := hR100.2.1.1 12 (by decide)
              have hkr100_1 : z_94 1 = z_78 1 := hR100.2.1.1 1 (by decide)
              refine W.eq (g2 := F0 m 125 ls []) rfl ?_
              try dsimp only at hq_88
              refine lv_iinc (v := iz (k + 1)) (lv' := [(3, .int (iz (k + 1))), (6, .int (iz z_57)), (5, .int (iz (EzL28 j54 7))), (4, .int (iz z_50)), (2, .int (iz gv)), (1, .int (iz z_3)), (0, .ref (o 15))]) hx hb dX5_print_125 hl (k := 3) rfl (iz_add k 1) (by decide) rfl (fun ls hl => ?_)
              refine lv_goto (tgt := 28) hx hb dX5_print_128 (by decide) ?_
              exact ih28 gv (k + 1) r_92 n_93 z_94 F_95 Er_96 En_97 Ez_98 EF_99 (((cv + dn_60) + dn_74) + dn_90) (((sv + dm_61) + dm_75) + dm_91) ⟨⟨hok100, hfr100, hPE100, hef100⟩, ⟨by omega, by omega⟩, (show z_94 12 = z 12 by omega), by omega, by omega⟩ (by omega) _ _ hP hD hS ls (lv_sub hl [0, 4, 5, 6] rfl)
            · skip
              refine lv_iload hx hb dX5_print_95 (lv_at hl 0 rfl) ?_
              refine lv_iload_n hx hb dX5_print_97 rfl (lv_at hl 4 rfl) ?_
              refine ki_icmp_eq (tgt := 113) hx hb dX5_print_98 (by decide) (by omega) (by omega) (by omega) (by omega) (fun c_101 => ?_) (fun c_101 => ?_)
              · skip
                refine lv_aload_n hx hb dX5_print_113 rfl (lv_at hl 6 rfl) ?_
                refine lv_iconst (v := iz 1) hx hb dX5_print_114 (by decide) ?_
                refine lv_iload hx hb dX5_print_115 (lv_at hl 1 rfl) ?_
                refine ki_iadd hx hb dX5_print_117 ?_
                refine ki_any (fun z_102 hz_102a hz_102b => ?_)
                refine lv_iload hx hb dX5_print_118 (lv_at hl 2 rfl) ?_
                refine lv_iload hx hb dX5_print_120 (lv_at hl 0 rfl) ?_
                have hxz_103 : -2147483648 ≤ z_78 12 ∧ z_78 12 < 2147483648 := hok84.2.2.2.1 12
                have hxG9 : xG N (z_78 12) G Eo := ⟨by omega, by omega, by omega, fun e9 h9 => hN4 e9 (by omega)⟩
                have hP : va_P (dC, dI) kxCl (xU cI cB cE o r_76 n_77 z_78 F_79 G (Eo 0 0) ++ eP cI N Eo Er_80 En_81 Ez_82 EF_83) H := hP
                have hD : va_D A (xU cI cB cE o r_76 n_77 z_78 F_79 G (Eo 0 0) ++ eP cI N Eo Er_80 En_81 Ez_82 EF_83) := hD
                have hFc := xw_free hD hS hA
                refine xk_call (va_runV (As := [.int (iz z_102), .int (iz z_50), .int (iz z_57)]) (rest := []) ⟨hx, hb, hml, hown, hts⟩ (y_writePart l dC dI cI cB cE o r_76 n_77 z_78 F_79 G N Eo Er_80 En_81 Ez_82 EF_83 z_102 z_50 z_57 H.size hok84 hxG9 hPE84 (by omega) (by omega) (by omega) (by omega) (by omega) (by omega)) (cwV 3 hts (kx_gV kq_24_xnew_9 kq_24_xnew_10 kq_24_xnew_11 kq_18_xrows_4 kq_24_xnew_12 rfl) rfl rfl rfl (by decide +kernel) ⟨Nat.le_of_ble_eq_true rfl, Nat.le_of_ble_eq_true rfl⟩) ⟨kx_blind, va_recv hK hP (ci := 5) (q0 := 0) rfl rfl, kx_give (ws := []) (tys := []) hP hD hK hG hZ hS hFc⟩ rfl rfl hl.1 rfl (lv_room (Nat.le_of_ble_eq_true rfl)) dX5_print_122 ⟨show ((cv + dn_60) + dn_74) + 200 ≤ 1200 from (by omega), show ((sv + dm_61) + dm_75) + 85000 ≤ 600000 from (by omega)⟩) hS (fun q _ h => hFc q h) hFc (fun u dn_106 dm_107 t H locs ht hvm hq_104 hB hk1 hS => ?_)
                obtain ⟨r_108, n_109, z_110, F_111, Er_112, En_113, Ez_114, EF_115⟩ := u
                obtain ⟨hP, hK1, hD1⟩ := hB
                rw [ht] at hP
                have hD := hD1.weaken (fun _ q _ h => hFc _ h)
                obtain ⟨hR116, hC116, hq_104⟩ := hq_104
                have hok116 := hR116.1
                have hfr116 := hfr84.tr (hR116.2.1.mono (S' := [0, 1, 2, 4, 5, 6, 7, 8, 9, 10, 11, 15, 16, 22, 23]) (T' := [0, 1, 2, 4, 5, 6, 7, 8, 9, 10, 11]) (by decide) (by decide))
                have hPE116 := hR116.2.2.1
                have hef116 := hef84.tr (hR116.2.2.2.mono (S' := [10]) (T' := []) (by decide) (by decide))
                have hz116 : z_110 12 = (z_78 12) := hR116.2.1.1 12 (by decide)
                have hkr116_1 : z_110 1 = z_78 1 := hR116.2.1.1 1 (by decide)
                refine W.eq (g2 := F0 m 125 ls []) rfl ?_
                try dsimp only at hq_104
                refine lv_iinc (v := iz (k + 1)) (lv' := [(3, .int (iz (k + 1))), (6, .int (iz z_57)), (5, .int (iz (EzL28 j54 7))), (4, .int (iz z_50)), (2, .int (iz gv)), (1, .int (iz z_3)), (0, .ref (o 15))]) hx hb dX5_print_125 hl (k := 3) rfl (iz_add k 1) (by decide) rfl (fun ls hl => ?_)
                refine lv_goto (tgt := 28) hx hb dX5_print_128 (by decide) ?_
                exact ih28 gv (k + 1) r_108 n_109 z_110 F_111 Er_112 En_113 Ez_114 EF_115 (((cv + dn_60) + dn_74) + dn_106) (((sv + dm_61) + dm_75) + dm_107) ⟨⟨hok116, hfr116, hPE116, hef116⟩, ⟨by omega, by omega⟩, (show z_110 12 = z 12 by omega), by omega, by omega⟩ (by omega) _ _ hP hD hS ls (lv_sub hl [0, 4, 5, 6] rfl)
              · skip
                refine lv_aload_n hx hb dX5_print_101 rfl (lv_at hl 6 rfl) ?_
                refine lv_iconst (v := iz 0) hx hb dX5_print_102 (by decide) ?_
                refine lv_iload hx hb dX5_print_103 (lv_at hl 2 rfl) ?_
                refine lv_iload hx hb dX5_print_105 (lv_at hl 0 rfl) ?_
                have hxz_117 : -2147483648 ≤ z_78 12 ∧ z_78 12 < 2147483648 := hok84.2.2.2.1 12
                have hxG9 : xG N (z_78 12) G Eo := ⟨by omega, by omega, by omega, fun e9 h9 => hN4 e9 (by omega)⟩
                have hP : va_P (dC, dI) kxCl (xU cI cB cE o r_76 n_77 z_78 F_79 G (Eo 0 0) ++ eP cI N Eo Er_80 En_81 Ez_82 EF_83) H := hP
                have hD : va_D A (xU cI cB cE o r_76 n_77 z_78 F_79 G (Eo 0 0) ++ eP cI N Eo Er_80 En_81 Ez_82 EF_83) := hD
                have hFc := xw_free hD hS hA
                refine xk_call (va_runV (As := [.int (iz 0), .int (iz z_50), .int (iz z_57)]) (rest := []) ⟨hx, hb, hml, hown, hts⟩ (y_writePart l dC dI cI cB cE o r_76 n_77 z_78 F_79 G N Eo Er_80 En_81 Ez_82 EF_83 0 z_50 z_57 H.size hok84 hxG9 hPE84 (by omega) (by omega) (by omega) (by omega) (by omega) (by omega)) (cwV 3 hts (kx_gV kq_24_xnew_9 kq_24_xnew_10 kq_24_xnew_11 kq_18_xrows_4 kq_24_xnew_12 rfl) rfl rfl rfl (by decide +kernel) ⟨Nat.le_of_ble_eq_true rfl, Nat.le_of_ble_eq_true rfl⟩) ⟨kx_blind, va_recv hK hP (ci := 5) (q0 := 0) rfl rfl, kx_give (ws := []) (tys := []) hP hD hK hG hZ hS hFc⟩ rfl rfl hl.1 rfl (lv_room (Nat.le_of_ble_eq_true rfl)) dX5_print_107 ⟨show ((cv + dn_60) + dn_74) + 200 ≤ 1200 from (by omega), show ((sv + dm_61) + dm_75) + 85000 ≤ 600000 from (by omega)⟩) hS (fun q _ h => hFc q h) hFc (fun u dn_120 dm_121 t H locs ht hvm hq_118 hB hk1 hS => ?_)
                obtain ⟨r_122, n_123, z_124, F_125, Er_126, En_127, Ez_128, EF_129⟩ := u
                obtain ⟨hP, hK1, hD1⟩ := hB
                rw [ht] at hP
                have hD := hD1.weaken (fun _ q _ h => hFc _ h)
                obtain ⟨hR130, hC130, hq_118⟩ := hq_118
                have hok130 := hR130.1
                have hfr130 := hfr84.tr (hR130.2.1.mono (S' := [0, 1, 2, 4, 5, 6, 7, 8, 9, 10, 11, 15, 16, 22, 23]) (T' := [0, 1, 2, 4, 5, 6, 7, 8, 9, 10, 11]) (by decide) (by decide))
                have hPE130 := hR130.2.2.1
                have hef130 := hef84.tr (hR130.2.2.2.mono (S' := [10]) (T' := []) (by decide) (by decide))
                have hz130 : z_124 12 = (z_78 12) := hR130.2.1.1 12 (by decide)
                have hkr130_1 : z_124 1 = z_78 1 := hR130.2.1.1 1 (by decide)
                refine W.eq (g2 := F0 m 110 ls []) rfl ?_
                try dsimp only at hq_118
                refine lv_iload hx hb dX5_print_110 (lv_at hl 0 rfl) ?_
                refine lv_istore_n (lv' := [(2, .int (iz z_57)), (6, .int (iz z_57)), (5, .int (iz (EzL28 j54 7))), (4, .int (iz z_50)), (3, .int (iz k)), (1, .int (iz z_3)), (0, .ref (o 15))]) hx hb dX5_print_112 rfl hl (by decide) rfl (fun ls hl => ?_)
                refine lv_aload_n hx hb dX5_print_113 rfl (lv_at hl 6 rfl) ?_
                refine lv_iconst (v := iz 1) hx hb dX5_print_114 (by decide) ?_
                refine lv_iload hx hb dX5_print_115 (lv_at hl 2 rfl) ?_
                refine ki_iadd hx hb dX5_print_117 ?_
                refine ki_any (fun z_131 hz_131a hz_131b => ?_)
                refine lv_iload hx hb dX5_print_118 (lv_at hl 3 rfl) ?_
                refine lv_iload hx hb dX5_print_120 (lv_at hl 1 rfl) ?_
                have hxz_132 : -2147483648 ≤ z_124 12 ∧ z_124 12 < 2147483648 := hok130.2.2.2.1 12
                have hxG9 : xG N (z_124 12) G Eo := ⟨by omega, by omega, by omega, fun e9 h9 => hN4 e9 (by omega)⟩
                have hP : va_P (dC, dI) kxCl (xU cI cB cE o r_122 n_123 z_124 F_125 G (Eo 0 0) ++ eP cI N Eo Er_126 En_127 Ez_128 EF_129) H := hP
                have hD : va_D A (xU cI cB cE o r_122 n_123 z_124 F_125 G (Eo 0 0) ++ eP cI N Eo Er_126 En_127 Ez_128 EF_129) := hD
                have hFc := xw_free hD hS hA
                refine xk_call (va_runV (As := [.int (iz z_131), .int (iz z_50), .int (iz z_57)]) (rest := []) ⟨hx, hb, hml, hown, hts⟩ (y_writePart l dC dI cI cB cE o r_122 n_123 z_124 F_125 G N Eo Er_126 En_127 Ez_128 EF_129 z_131 z_50 z_57 H.size hok130 hxG9 hPE130 (by omega) (by omega) (by omega) (by omega) (by omega) (by omega)) (cwV 3 hts (kx_gV kq_24_xnew_9 kq_24_xnew_10 kq_24_xnew_11 kq_18_xrows_4 kq_24_xnew_12 rfl) rfl rfl rfl (by decide +kernel) ⟨Nat.le_of_ble_eq_true rfl, Nat.le_of_ble_eq_true rfl⟩) ⟨kx_blind, va_recv hK hP (ci := 5) (q0 := 0) rfl rfl, kx_give (ws := []) (tys := []) hP hD hK hG hZ hS hFc⟩ rfl rfl hl.1 rfl (lv_room (Nat.le_of_ble_eq_true rfl)) dX5_print_122 ⟨show (((cv + dn_60) + dn_74) + dn_120) + 200 ≤ 1200 from (by omega), show (((sv + dm_61) + dm_75) + dm_121) + 85000 ≤ 600000 from (by omega)⟩) hS (fun q _ h => hFc q h) hFc (fun u dn_135 dm_136 t H locs ht hvm hq_133 hB hk1 hS => ?_)
                obtain ⟨r_137, n_138, z_139, F_140, Er_141, En_142, Ez_143, EF_144⟩ := u
                obtain ⟨hP, hK1, hD1⟩ := hB
                rw [ht] at hP
                have hD := hD1.weaken (fun _ q _ h => hFc _ h)
                obtain ⟨hR145, hC145, hq_133⟩ := hq_133
                have hok145 := hR145.1
                have hfr145 := hfr130.tr (hR145.2.1.mono (S' := [0, 1, 2, 4, 5, 6, 7, 8, 9, 10, 11, 15, 16, 22, 23]) (T' := [0, 1, 2, 4, 5, 6, 7, 8, 9, 10, 11]) (by decide) (by decide))
                have hPE145 := hR145.2.2.1
                have hef145 := hef130.tr (hR145.2.2.2.mono (S' := [10]) (T' := []) (by decide) (by decide))
                have hz145 : z_139 12 = (z_124 12) := hR145.2.1.1 12 (by decide)
                have hkr145_1 : z_139 1 = z_124 1 := hR145.2.1.1 1 (by decide)
                refine W.eq (g2 := F0 m 125 ls []) rfl ?_
                try dsimp only at hq_133
                refine lv_iinc (v := iz (k + 1)) (lv' := [(3, .int (iz (k + 1))), (2, .int (iz z_57)), (6, .int (iz z_57)), (5, .int (iz (EzL28 j54 7))), (4, .int (iz z_50)), (1, .int (iz z_3)), (0, .ref (o 15))]) hx hb dX5_print_125 hl (k := 4) rfl (iz_add k 1) (by decide) rfl (fun ls hl => ?_)
                refine lv_goto (tgt := 28) hx hb dX5_print_128 (by decide) ?_
                exact ih28 z_57 (k + 1) r_137 n_138 z_139 F_140 Er_141 En_142 Ez_143 EF_144 ((((cv + dn_60) + dn_74) + dn_120) + dn_135) ((((sv + dm_61) + dm_75) + dm_121) + dm_136) ⟨⟨hok145, hfr145, hPE145, hef145⟩, ⟨by omega, by omega⟩, (show z_139 12 = z 12 by omega), by omega, by omega⟩ (by omega) _ _ hP hD hS ls (lv_sub hl [0, 1, 5, 6] rfl)
    exact lp28 _ (-1) 0 (va_up r_9 11 r_24) (va_up n_10 11 n_25) (va_up (va_up z_11 11 z_26) 23 tl_27) (va_up F_12 11 F_28) Er_13 En_14 Ez_15 EF_16 ((0 + dn_7) + dn_22) ((0 + dm_8) + dm_23) ⟨⟨hok30, hfr30, hPE17, hef17⟩, ⟨by omega, by omega⟩, (show z_11 12 = z 12 by omega), by omega, by omega⟩ (Nat.lt_succ_self _) _ _ hP hD hS ls (lv_sub hl [0, 1, 2, 3] rfl)
  · skip
    refine lv_iconst (v := iz (-1)) hx hb dX5_print_9 (by decide) ?_
    refine lv_iload_n hx hb dX5_print_10 rfl (lv_at hl 0 rfl) ?_
    refine ki_isub hx hb dX5_print_11 ?_
    rw [← hQe]
    refine vx_ret ?_
    exact xk_iret (ov := (fun u : (Int) × (Nat → Nat) × (Nat → Nat) × (Nat → Nat) × (Nat → Int) × (Nat → Int → Int) × (Nat → Nat → Nat) × (Nat → Nat → Nat) × (Nat → Nat → Int) × (Nat → Nat → Int → Int) => match u with | (q, o', r', n', z', F', Er', En', Ez', EF') => some (.int (iz q)))) (post := (fun (u : (Int) × (Nat → Nat) × (Nat → Nat) × (Nat → Nat) × (Nat → Int) × (Nat → Int → Int) × (Nat → Nat → Nat) × (Nat → Nat → Nat) × (Nat → Nat → Int) × (Nat → Nat → Int → Int)) (dn dm : Nat) => match u with | (q, o', r', n', z', F', Er', En', Ez', EF') => xR [0, 1, 2, 4, 5, 6, 7, 8, 9, 10, 11, 15, 16, 22, 23] [0, 1, 2, 4, 5, 6, 7, 8, 9, 10, 11] [10] [] N z F En Ez EF n' z' F' En' Ez' EF' ∧ (dn + xg n' ≤ xg n + 0 ∧ dm + xp n' ≤ xp n + 0) ∧ (∀ k, k ≠ 10 → k ≠ 11 → o' k = o k))) (ws := (fun u : (Int) × (Nat → Nat) × (Nat → Nat) × (Nat → Nat) × (Nat → Int) × (Nat → Int → Int) × (Nat → Nat → Nat) × (Nat → Nat → Nat) × (Nat → Nat → Int) × (Nat → Nat → Int → Int) => match u with | (q, o', r', n', z', F', Er', En', Ez', EF') => (xU cI cB cE o' r' n' z' F' G (Eo 0 0) ++ eP cI N Eo Er' En' Ez' EF'))) (tys := xT cI cB cE) (z := (-1) - z_3) ((-1) - z_3, o, r, n, z, F, Er, En, Ez, EF) hx hb hr rfl hlocks rfl hP hD hK hS dX5_print_12 (fun dn dm hdn hdm => ⟨⟨hok, hfr, hPE, hef⟩, ⟨by omega, by omega⟩, fun k _ _ => rfl⟩) (by omega) (by omega)
set_option maxHeartbeats 4000000 in
set_option maxRecDepth 100000 in
theorem y_entry (l : Launch) (hlf : l.stackTraces = false) (dC : Nat → ClassId) (dI : Nat → Nat → Nat) (cI cB cE : ClassId) (o r n : Nat → Nat) (z : Nat → Int) (F : Nat → Int → Int) (G : Nat → Option Nat) (N : Nat) (Eo Er En : Nat → Nat → Nat) (Ez : Nat → Nat → Int) (EF : Nat → Nat → Int → Int) (p0 : Int) (p1 : Int) (sz : Nat) (hok : xOk n z F) (hxG : xG N (z 12) G Eo) (hPE : eA N En Ez EF) (hp01 : -2147483648 ≤ p0) (hp02 : p0 < 2147483648) (hp11 : -2147483648 ≤ p1) (hp12 : p1 < 2147483648) (h78 : z 12 ≤ 78) : vx_Met l yX5_entry [.code yX5_entry cX5_entry 3 (some .int)] ({ frames := 7, cells := 60, slots := 200, locals := 100 }) (va_Pc [.ref (o 15), .int (iz p0), .int (iz p1)] (kx_Pre dC dI (xU cI cB cE o r n z F G (Eo 0 0) ++ eP cI N Eo Er En Ez EF) (xT cI cB cE) sz)) (xQ (fun u : (Int) × (Nat → Int) × (Nat → Option Nat) × (Nat → Nat → Nat) × (Nat → Nat → Nat) × (Nat → Nat → Nat) × (Nat → Nat → Int) × (Nat → Nat → Int → Int) => match u with | (q, z', G', Eo', Er', En', Ez', EF') => some (.int (iz q))) (fun (u : (Int) × (Nat → Int) × (Nat → Option Nat) × (Nat → Nat → Nat) × (Nat → Nat → Nat) × (Nat → Nat → Nat) × (Nat → Nat → Int) × (Nat → Nat → Int → Int)) (dn dm : Nat) => match u with | (q, z', G', Eo', Er', En', Ez', EF') => xOk n z' F ∧ xFr [12, 15, 16] [] z F z' F ∧ xG (N + 1) (z' 12) G' Eo' ∧ eA (N + 1) En' Ez' EF' ∧ (dn ≤ 30 ∧ dm ≤ 60) ∧ q = z 12 ∧ z' 12 = z 12 + 1 ∧ ((p0 = 0 ∧ p1 = -1) ∨ ((p0 = 1 ∨ p0 = 2) ∧ 0 ≤ p1 ∧ p1 < z 12 ∧ Ez ((p1 + 1).toNat) 7 = p0 - 1)) ∧ (∀ j, j < N → Ez' j = Ez j ∧ EF' j = EF j) ∧ Ez' N 7 = p0 ∧ Ez' N 0 = 0 ∧ Ez' N 4 = 0 ∧ Ez' N 9 = -1) (fun u t => kx_At dC dI (va_A (xU cI cB cE o r n z F G (Eo 0 0) ++ eP cI N Eo Er En Ez EF) sz) ((fun u : (Int) × (Nat → Int) × (Nat → Option Nat) × (Nat → Nat → Nat) × (Nat → Nat → Nat) × (Nat → Nat → Nat) × (Nat → Nat → Int) × (Nat → Nat → Int → Int) => match u with | (q, z', G', Eo', Er', En', Ez', EF') => (xU cI cB cE o r n z' F G' (Eo' 0 0) ++ eP cI (N + 1) Eo' Er' En' Ez' EF')) u) (xT cI cB cE) t) (va_A (xU cI cB cE o r n z F G (Eo 0 0) ++ eP cI N Eo Er En Ez EF) sz)) (yX (fun E => (E = "java/util/NoSuchElementException" ∧ (¬ p1 = -1 ∧ ¬ (0 ≤ p1 ∧ p1 < z 12))) ∨ (E = "java/lang/IllegalArgumentException" ∧ ((p1 = -1 ∨ (0 ≤ p1 ∧ p1 < z 12)) ∧ ¬ ((p0 = 0 ∧ p1 = -1) ∨ ((p0 = 1 ∨ p0 = 2) ∧ 0 ≤ p1 ∧ p1 < z 12 ∧ Ez ((p1 + 1).toNat) 7 = p0 - 1))))) 2 12 (fun t => ∃ u : (Nat → Nat) × (Nat → Nat) × (Nat → Int) × (Nat → Int → Int) × (Nat → Nat → Nat) × (Nat → Nat → Nat) × (Nat → Nat → Int) × (Nat → Nat → Int → Int), match u with | (r', n', z', F', Er', En', Ez', EF') => xR [] [] [] [] N z F En Ez EF n' z' F' En' Ez' EF' ∧ kx_At dC dI (va_A (xU cI cB cE o r n z F G (Eo 0 0) ++ eP cI N Eo Er En Ez EF) sz) (xU cI cB cE o r' n' z' F' G (Eo 0 0) ++ eP cI N Eo Er' En' Ez' EF') (xT cI cB cE) t) (va_A (xU cI cB cE o r n z F G (Eo 0 0) ++ eP cI N Eo Er En Ez EF) sz)) 60 200 (va_A (xU cI cB cE o r n z F G (Eo 0 0) ++ eP cI N Eo Er En Ez EF) sz) := by
  refine vx_ofW (cc := cX5_entry) (maxL := 3) (ret := (some .int)) (by decide) rfl ?_
  intro p e s m args below meth c s₁ B hml htab hv
  obtain ⟨rfl, hsz, hP, hK, hD0, hG, hZ⟩ := hv
  have hx := B.exec
  have hb := B.bytes
  have hr := B.returns
  have hts := kx_hts (a := ([.ref (o 15), .int (iz p0), .int (iz p1)] : List Value).toArray) hG
  have hown : s.vm.findClass RX5 = some m.cls := findClass_of_methodNamed B.named
  have hlocks := B.notSynchronized
  subst hsz
  have hD := hD0.self (sz := s.heap.size)
  generalize hAe : va_A (xU cI cB cE o r n z F G (Eo 0 0) ++ eP cI N Eo Er En Ez EF) s.heap.size = A at hD hZ ⊢
  have hA : ∀ q : Nat, s.heap.size ≤ q → A q := fun q h => by rw [← hAe]; exact Or.inr h
  have hS : va_S A s.heap s.heap [] := va_S.rf
  have hl := lv_entry ([.ref (o 15), .int (iz p0), .int (iz p1)]) (n := 3) (Nat.le_of_ble_eq_true rfl)
  rw [lg_entry_eq]
  generalize (lg_sl ([.ref (o 15), .int (iz p0), .int (iz p1)]) ++ List.replicate (3 - (lg_sl ([.ref (o 15), .int (iz p0), .int (iz p1)])).length) Slot.unset).toArray = ls at hl ⊢
  obtain ⟨hN1, hN2, hN3, hN4⟩ := hxG
  have hef : eFr [] [] En Ez EF En Ez EF := eFr.rf
  have hfr : xFr [12, 15, 16] [] z F z F := xFr.rf
  have hxgl := xg_le n
  have hxpl := xp_le n
  have hl : lv_has ls 3 [(0, .ref (o 15)), (1, .int (iz p0)), (2, .int (iz p1))] := hl
  refine lv_iload_n hx hb dX5_entry_0 rfl (lv_at hl 2 rfl) ?_
  refine lv_iconst (v := iz (-1)) hx hb dX5_entry_1 (by decide) ?_
  refine ki_icmp_eq (tgt := 21) hx hb dX5_entry_2 (by decide) (by omega) (by omega) (by omega) (by omega) (fun c_1 => ?_) (fun c_1 => ?_)
  · skip
    refine lv_iload_n hx hb dX5_entry_21 rfl (lv_at hl 1 rfl) ?_
    refine ki_if_lt (tgt := 39) hx hb dX5_entry_22 (by decide) (by omega) (by omega) (fun c_2 => ?_) (fun c_2 => ?_)
    · skip
      exact ky_thr_IAE hx hb hlf hown hG hZ hS (hl.1.trans hml.symm) dX5_entry_39 dX5_entry_42 dX5_entry_43 dX5_entry_46 htab (Nat.le_of_ble_eq_true rfl) (Nat.le_of_ble_eq_true rfl) (show 0 + 1 ≤ 60 from (by omega)) (show 0 + 6 ≤ 200 from (by omega)) hlocks (Or.inr (⟨rfl, by first | trivial | omega⟩)) (fun t hvm h1 h2 => ⟨(r, n, z, F, Er, En, Ez, EF), ⟨hok, xFr.rf, hPE, eFr.rf⟩, hP.kept (fun k q hk => h2 q.1 (hP k q hk).lt), va_K.moved hvm hK, hD⟩) hS.2.2 (by omega) (by omega) (by omega) (by omega)
    · skip
      refine lv_iload_n hx hb dX5_entry_25 rfl (lv_at hl 1 rfl) ?_
      refine lv_iconst (v := iz 3) hx hb dX5_entry_26 (by decide) ?_
      refine ki_icmp_ge (tgt := 39) hx hb dX5_entry_27 (by decide) (by omega) (by omega) (by omega) (by omega) (fun c_3 => ?_) (fun c_3 => ?_)
      · skip
        exact ky_thr_IAE hx hb hlf hown hG hZ hS (hl.1.trans hml.symm) dX5_entry_39 dX5_entry_42 dX5_entry_43 dX5_entry_46 htab (Nat.le_of_ble_eq_true rfl) (Nat.le_of_ble_eq_true rfl) (show 0 + 1 ≤ 60 from (by omega)) (show 0 + 6 ≤ 200 from (by omega)) hlocks (Or.inr (⟨rfl, by first | trivial | omega⟩)) (fun t hvm h1 h2 => ⟨(r, n, z, F, Er, En, Ez, EF), ⟨hok, xFr.rf, hPE, eFr.rf⟩, hP.kept (fun k q hk => h2 q.1 (hP k q hk).lt), va_K.moved hvm hK, hD⟩) hS.2.2 (by omega) (by omega) (by omega) (by omega)
      · skip
        refine lv_aload_n hx hb dX5_entry_30 rfl (lv_at hl 0 rfl) ?_
        refine lv_iload_n hx hb dX5_entry_31 rfl (lv_at hl 2 rfl) ?_
        refine lv_iload_n hx hb dX5_entry_32 rfl (lv_at hl 1 rfl) ?_
        have hxz_4 : -2147483648 ≤ z 12 ∧ z 12 < 2147483648 := hok.2.2.2.1 12
        have hxG9 : xG N (z 12) G Eo := ⟨by omega, by omega, by omega, fun e9 h9 => hN4 e9 (by omega)⟩
        have hP : va_P (dC, dI) kxCl (xU cI cB cE o r n z F G (Eo 0 0) ++ eP cI N Eo Er En Ez EF) s.heap := hP
        refine xk_pure (va_runV (As := [.int (iz p1), .int (iz p0)]) (rest := []) ⟨hx, hb, hml, hown, hts⟩ (y_isLevelBefore l dC dI cI cB cE o r n z F G N Eo Er En Ez EF p1 p0 s.heap.size hok hxG9 hPE (by omega) (by omega) (by omega) (by omega)) (cwV 2 hts (kx_gV kq_24_xnew_13 kq_24_xnew_14 kq_24_xnew_15 kq_18_xrows_4 kq_24_xnew_16 rfl) rfl rfl rfl (by decide +kernel) ⟨Nat.le_of_ble_eq_true rfl, Nat.le_of_ble_eq_true rfl⟩) ⟨pPre_blind, va_recv hK hP (ci := 5) (q0 := 0) rfl rfl, pPre_give hP hK hG⟩ rfl rfl hl.1 rfl (lv_room (Nat.le_of_ble_eq_true rfl)) dX5_entry_33 ⟨show 0 + 0 ≤ 60 from (by omega), show 0 + 0 ≤ 200 from (by omega)⟩) hS (fun z_6 locs hq_5 hS => ?_)
        refine W.eq (g2 := F0 m 36 ls [.int (iz z_6)]) rfl ?_
        try dsimp only at hq_5
        rcases hq_5 with ⟨rfl, hq_5⟩ | ⟨rfl, hq_5⟩
        · skip
          refine ki_if_ne (tgt := 47) hx hb dX5_entry_36 (by decide) (by omega) (by omega) (fun c_7 => ?_) (fun c_7 => ?_)
          · skip
            refine lv_aload_n hx hb dX5_entry_47 rfl (lv_at hl 0 rfl) ?_
            refine va_get (D := (dC, dI)) (ci := 5) (v := .int (iz (z 12))) (C := RX5) (T := TX5) (N := 16) hx hb hts kt_X5 hown hK hP 0 rfl rfl 2 (by decide) (kx_word hG kq_18_xrows_0 rfl) (fun _ h9 => h9) rfl dX5_entry_48 ?_
            refine ki_if_lt (tgt := 66) hx hb dX5_entry_51 (by decide) (by omega) (by omega) (fun c_8 => ?_) (fun c_8 => ?_)
            · omega
            · skip
              refine lv_aload_n hx hb dX5_entry_54 rfl (lv_at hl 0 rfl) ?_
              refine va_get (D := (dC, dI)) (ci := 5) (v := .int (iz (z 12))) (C := RX5) (T := TX5) (N := 16) hx hb hts kt_X5 hown hK hP 0 rfl rfl 2 (by decide) (kx_word hG kq_18_xrows_0 rfl) (fun _ h9 => h9) rfl dX5_entry_55 ?_
              refine lv_aload_n hx hb dX5_entry_58 rfl (lv_at hl 0 rfl) ?_
              refine va_get (D := (dC, dI)) (ci := 5) (v := .ref (o 16)) (C := RX5) (T := TX5) (N := 16) hx hb hts kt_X5 hown hK hP 0 rfl rfl 0 (by decide) (kx_word hG kq_18_xrows_6 rfl) (fun _ h9 => h9) rfl dX5_entry_59 ?_
              refine xk_alen hx hb hK hP 1 2 rfl rfl dX5_entry_62 ?_
              refine ki_is (show iz ((80 : Nat) : Int) = iz 80 from rfl) ?_
              refine ki_icmp_lt (tgt := 74) hx hb dX5_entry_63 (by decide) (by omega) (by omega) (by omega) (by omega) (fun c_9 => ?_) (fun c_9 => ?_)
              · skip
                refine lv_aload_n hx hb dX5_entry_74 rfl (lv_at hl 0 rfl) ?_
                refine va_get (D := (dC, dI)) (ci := 5) (v := .ref (o 16)) (C := RX5) (T := TX5) (N := 16) hx hb hts kt_X5 hown hK hP 0 rfl rfl 0 (by decide) (kx_word hG kq_18_xrows_6 rfl) (fun _ h9 => h9) rfl dX5_entry_75 ?_
                refine lv_aload_n hx hb dX5_entry_78 rfl (lv_at hl 0 rfl) ?_
                refine va_get (D := (dC, dI)) (ci := 5) (v := .int (iz (z 12))) (C := RX5) (T := TX5) (N := 16) hx hb hts kt_X5 hown hK hP 0 rfl rfl 2 (by decide) (kx_word hG kq_18_xrows_0 rfl) (fun _ h9 => h9) rfl dX5_entry_79 ?_
                refine va_new (ci := 0) (fs := [.int 0, .int 0, .null, .null, .null, .null, .null, .int 0, .int 0, .int 0, .int 0, .int 0]) (C := RX0) (T := TX0) (N := 12) hx hb hts kt_X0 tyX0 tyX0_ok hown (kx_word hG kq_23_xmake_24 rfl) (kx_word hG kq_23_xmake_26 rfl) (kx_word hG kq_16_xentry_2 rfl) hK hP hD hS hA rfl (fun j hj => by rcases (show j = 0 ∨ j = 1 ∨ j = 2 ∨ j = 3 ∨ j = 4 ∨ j = 5 ∨ j = 6 ∨ j = 7 ∨ j = 8 ∨ j = 9 ∨ j = 10 ∨ j = 11 by omega) with rfl | rfl | rfl | rfl | rfl | rfl | rfl | rfl | rfl | rfl | rfl | rfl <;> rfl) (show 0 + 1 ≤ 60 from (by omega)) (show 0 + 12 ≤ 200 from (by omega)) dX5_entry_82 (fun qn H hP hD hS => ?_)
                have hP : va_P (dC, dI) kxCl (((xU cI cB cE o r n z F G (Eo 0 0)) ++ [(qn, .inr (0, [.int 0, .int 0, .null, .null, .null, .null, .null, .int 0, .int 0, .int 0, .int 0, .int 0]))]) ++ (eP cI N Eo Er En Ez EF)) H := va_P.swap hP
                have hD : va_D A (((xU cI cB cE o r n z F G (Eo 0 0)) ++ [(qn, .inr (0, [.int 0, .int 0, .null, .null, .null, .null, .null, .int 0, .int 0, .int 0, .int 0, .int 0]))]) ++ (eP cI N Eo Er En Ez EF)) := va_D.swap hD
                refine lv_dup hx hb dX5_entry_85 rfl ?_
                refine lv_iload_n hx hb dX5_entry_86 rfl (lv_at hl 1 rfl) ?_
                refine lv_iload_n hx hb dX5_entry_87 rfl (lv_at hl 2 rfl) ?_
                have hPc := hP.sub (ws' := [(qn, .inr (0, [.int 0, .int 0, .null, .null, .null, .null, .null, .int 0, .int 0, .int 0, .int 0, .int 0]))]) [29] rfl
                have hDc := hD.sub (ws' := [(qn, .inr (0, [.int 0, .int 0, .null, .null, .null, .null, .null, .int 0, .int 0, .int 0, .int 0, .int 0]))]) [29] (by decide) rfl
                have hFc := va_free (wc := [(qn, .inr (0, [.int 0, .int 0, .null, .null, .null, .null, .null, .int 0, .int 0, .int 0, .int 0, .int 0]))]) hD hS hA [29] rfl
                refine va_callv (va_runI (As := [.int (iz p0), .int (iz p1)]) (rest := [.ref qn, .int (iz (z 12)), .ref (o 16)]) ⟨hx, hb, hml, hown, hts⟩ (c_Entry_init l hlf dC dI qn (iz p0) (iz p1) cI cB cE H.size) (cwI 2 hts (kx_gI kq_23_xmake_27 rfl) rfl rfl rfl (kx_word hG kq_16_xentry_2 rfl) (kx_word hG kq_23_xmake_28 rfl) (kx_word hG kq_23_xmake_29 rfl) rfl (by decide +kernel) ⟨Nat.le_of_ble_eq_true rfl, Nat.le_of_ble_eq_true rfl⟩) ⟨kx_blind, kx_give (ws := []) (tys := []) hPc hDc hK hG hZ hS hFc⟩ rfl rfl hl.1 rfl (lv_room (Nat.le_of_ble_eq_true rfl)) dX5_entry_88 ⟨show (0 + 1) + 15 ≤ 60 from (by omega), show (0 + 12) + 24 ≤ 200 from (by omega)⟩) hS (fun q _ h => hFc q h) hFc (fun u t H1 locs ht hvm hw hB hz1 hk1 hS => ?_)
                obtain ⟨q1, q2, q3, q4, q5, q6, q7, q8, a0, a1, a2, a3, a4, a5, a6⟩ := u
                obtain ⟨hP1, hK1, hD1⟩ := hB
                rw [ht] at hP1
                obtain ⟨hP, hD⟩ := va_joinQ (wr := (xU cI cB cE o r n z F G (Eo 0 0))) (w1 := [(qn, .inr (0, [.int (iz p0), .int (iz p1), .ref q1, .ref q2, .ref q3, .ref q5, .ref q4, .int (-1), .int (-1), .int 0, .int 0, .int 0])), (q1, .inr (1, [.int 20, .ref a0, .int 0])), (a0, .inl (cI, 0, .inl (fun _ => 0))), (q2, .inr (1, [.int 20, .ref a1, .int 0])), (a1, .inl (cI, 0, .inl (fun _ => 0))), (q3, .inr (1, [.int 40, .ref a2, .int 0])), (a2, .inl (cI, 0, .inl (fun _ => 0))), (q4, .inr (1, [.int 5, .ref a3, .int 0])), (a3, .inl (cI, 0, .inl (fun _ => 0))), (q5, .inr (3, [.ref q6, .ref q7, .ref q8])), (q6, .inr (1, [.int 20, .ref a4, .int 0])), (a4, .inl (cI, 0, .inl (fun _ => 0))), (q7, .inr (1, [.int 20, .ref a5, .int 0])), (a5, .inl (cI, 0, .inl (fun _ => 0))), (q8, .inr (1, [.int 20, .ref a6, .int 0])), (a6, .inl (cI, 0, .inl (fun _ => 0)))]) hP hD [29] [0, 1, 2, 3, 4, 5, 6, 7, 8, 9, 10, 11, 12, 13, 14, 15, 16, 17, 18, 19, 20, 21, 22, 23, 24, 25, 26, 27, 28] rfl rfl (by decide) (by decide) hk1 hFc hP1 hD1
                generalize H1 = H at hP hS ⊢
                have hP : va_P (dC, dI) kxCl (((xU cI cB cE o r n z F G (Eo 0 0)) ++ eU cI (eNo qn q1 q2 q3 q4 q5 q6 q7 q8) (eNr a0 a1 a2 a3 a4 a5 a6) (fun _ => 0) (eNz p0 p1) (fun _ _ => 0)) ++ (eP cI N Eo Er En Ez EF)) H := by rw [← eN_eq]; exact hP
                have hD : va_D A (((xU cI cB cE o r n z F G (Eo 0 0)) ++ eU cI (eNo qn q1 q2 q3 q4 q5 q6 q7 q8) (eNr a0 a1 a2 a3 a4 a5 a6) (fun _ => 0) (eNz p0 p1) (fun _ _ => 0)) ++ (eP cI N Eo Er En Ez EF)) := by rw [← eN_eq]; exact hD
                refine W.eq (g2 := F0 m 91 ls [.ref qn, .int (iz (z 12)), .ref (o 16)]) rfl ?_
                refine va_astq (r := (RX0, TX0, 12)) hx hb hK hP hD hS 1 2 29 0 rfl rfl rfl rfl (iz_in (by omega) (by omega) (by omega)) dX5_entry_91 (fun H locs hP hD hS => ?_)
                rw [iz_clamp (by omega) (by omega)] at hP hD
                have hP : va_P (dC, dI) kxCl (((xU cI cB cE o r n z F (va_up G (z 12).toNat (some qn)) (Eo 0 0)) ++ eU cI (eNo qn q1 q2 q3 q4 q5 q6 q7 q8) (eNr a0 a1 a2 a3 a4 a5 a6) (fun _ => 0) (eNz p0 p1) (fun _ _ => 0)) ++ (eP cI N Eo Er En Ez EF)) H := hP
                have hD : va_D A (((xU cI cB cE o r n z F (va_up G (z 12).toNat (some qn)) (Eo 0 0)) ++ eU cI (eNo qn q1 q2 q3 q4 q5 q6 q7 q8) (eNr a0 a1 a2 a3 a4 a5 a6) (fun _ => 0) (eNz p0 p1) (fun _ _ => 0)) ++ (eP cI N Eo Er En Ez EF)) := hD
                have hP := hP.perm eX_push
                have hD := hD.perm eX_push
                have hnb : va_up Eo N (eNo qn q1 q2 q3 q4 q5 q6 q7 q8) 0 0 = Eo 0 0 := by rw [va_up_ne _ _ (show 0 ≠ N by omega)]
                have hN4b : ∀ e : Nat, (e : Int) < z 12 + 1 → va_up G (z 12).toNat (some qn) e = some (va_up Eo N (eNo qn q1 q2 q3 q4 q5 q6 q7 q8) (e + 1) 0) := eN_G (o := eNo qn q1 q2 q3 q4 q5 q6 q7 q8) hN1 hN3 hN4
                have hPE9 := hPE.push (N := N) (eN_ok p0 p1 (by omega) (by omega))
                rw [← hnb] at hP hD
                have hel : ∀ j, j < N → va_up Ez N (eNz p0 p1) j = Ez j ∧ va_up EF N (fun _ _ => 0) j = EF j := fun j hj => ⟨va_up_ne _ _ (by omega), va_up_ne _ _ (by omega)⟩
                have hen : va_up Ez N (eNz p0 p1) N = eNz p0 p1 := va_up_self _ _ _
                generalize hG9 : va_up G (z 12).toNat (some qn) = G2 at hP hD hN4b
                generalize hEo9 : va_up Eo N (eNo qn q1 q2 q3 q4 q5 q6 q7 q8) = Eo2 at hP hD hN4b
                generalize hEr9 : va_up Er N (eNr a0 a1 a2 a3 a4 a5 a6) = Er2 at hP hD
                generalize hEn9 : va_up En N (fun _ => 0) = En2 at hP hD hPE9
                generalize hEz9 : va_up Ez N (eNz p0 p1) = Ez2 at hP hD hPE9 hel hen
                generalize hEF9 : va_up EF N (fun _ _ => 0) = EF2 at hP hD hPE9 hel
                have hef : eFr [] [] En2 Ez2 EF2 En2 Ez2 EF2 := eFr.rf
                have hP : va_P (dC, dI) kxCl ((xU cI cB cE o r n z F G2 (Eo2 0 0)) ++ (eP cI (N + 1) Eo2 Er2 En2 Ez2 EF2)) H := hP
                have hD : va_D A ((xU cI cB cE o r n z F G2 (Eo2 0 0)) ++ (eP cI (N + 1) Eo2 Er2 En2 Ez2 EF2)) := hD
                refine W.eq (g2 := F0 m 92 ls []) rfl ?_
                refine lv_aload_n hx hb dX5_entry_92 rfl (lv_at hl 0 rfl) ?_
                refine lv_dup hx hb dX5_entry_93 rfl ?_
                have hxz_10 : -2147483648 ≤ z 12 ∧ z 12 < 2147483648 := hok.2.2.2.1 12
                refine va_get (D := (dC, dI)) (ci := 5) (v := .int (iz (z 12))) (C := RX5) (T := TX5) (N := 16) hx hb hts kt_X5 hown hK hP 0 rfl rfl 2 (by decide) (kx_word hG kq_18_xrows_0 rfl) (fun _ h9 => h9) rfl dX5_entry_94 ?_
                refine lv_iconst (v := iz 1) hx hb dX5_entry_97 (by decide) ?_
                refine ki_iadd hx hb dX5_entry_98 ?_
                refine va_put (D := (dC, dI)) (ci := 5) (v := .int (iz ((z 12) + 1))) (ty := .int) (C := RX5) (T := TX5) (N := 16) hx hb hts kt_X5 tyX5 tyX5_ok nmX5 hown hK hP hD hS 0 rfl rfl 2 (by decide) (kx_word hG kq_18_xrows_0 rfl) (fun _ h9 => h9) rfl (by decide +kernel) rfl rfl (Nat.le_of_ble_eq_true rfl) dX5_entry_99 (fun H locs hP hD hS => ?_)
                have hP : va_P (dC, dI) kxCl ((xU cI cB cE o r n (va_up z 12 ((z 12) + 1)) F G2 (Eo2 0 0)) ++ (eP cI (N + 1) Eo2 Er2 En2 Ez2 EF2)) H := hP
                have hD : va_D A ((xU cI cB cE o r n (va_up z 12 ((z 12) + 1)) F G2 (Eo2 0 0)) ++ (eP cI (N + 1) Eo2 Er2 En2 Ez2 EF2)) := hD
                refine lv_aload_n hx hb dX5_entry_102 rfl (lv_at hl 0 rfl) ?_
                have hok11 : xOk n (va_up z 12 ((z 12) + 1)) F := (hok.s 12 (by decide) (show -2147483648 ≤ (z 12) + 1 ∧ (z 12) + 1 < 2147483648 by omega) (by omega))
                have hfr11 : xFr [12, 15, 16] [] z F (va_up z 12 ((z 12) + 1)) F := (hfr.uz 12 (by decide) _)
                have hxG9 : xG (N + 1) ((z 12) + 1) G2 Eo2 := ⟨by omega, by omega, by omega, fun e9 h9 => hN4b e9 (by omega)⟩
                have hP : va_P (dC, dI) kxCl (xU cI cB cE o r n (va_up z 12 ((z 12) + 1)) F G2 (Eo2 0 0) ++ eP cI (N + 1) Eo2 Er2 En2 Ez2 EF2) H := hP
                have hD : va_D A (xU cI cB cE o r n (va_up z 12 ((z 12) + 1)) F G2 (Eo2 0 0) ++ eP cI (N + 1) Eo2 Er2 En2 Ez2 EF2) := hD
                have hFc := xw_free hD hS hA
                refine xk_call (va_runV (As := []) (rest := []) ⟨hx, hb, hml, hown, hts⟩ (y_forgetRows l dC dI cI cB cE o r n (va_up z 12 ((z 12) + 1)) F G2 (N + 1) Eo2 Er2 En2 Ez2 EF2  H.size hok11 hxG9 hPE9 ) (cwV 0 hts (kx_gV kq_21_xcalls_6 kq_21_xcalls_7 kq_21_xcalls_8 kq_18_xrows_4 kq_21_xcalls_9 rfl) rfl rfl rfl (by decide +kernel) ⟨Nat.le_of_ble_eq_true rfl, Nat.le_of_ble_eq_true rfl⟩) ⟨kx_blind, va_recv hK hP (ci := 5) (q0 := 0) rfl rfl, kx_give (ws := []) (tys := []) hP hD hK hG hZ hS hFc⟩ rfl rfl hl.1 rfl (lv_room (Nat.le_of_ble_eq_true rfl)) dX5_entry_103 ⟨show ((0 + 1) + 15) + 0 ≤ 60 from (by omega), show ((0 + 12) + 24) + 0 ≤ 200 from (by omega)⟩) hS (fun q _ h => hFc q h) hFc (fun u dn_14 dm_15 t H locs ht hvm hq_12 hB hk1 hS => ?_)
                obtain ⟨r_16, n_17, z_18, F_19, Er_20, En_21, Ez_22, EF_23⟩ := u
                obtain ⟨hP, hK1, hD1⟩ := hB
                rw [ht] at hP
                have hD := hD1.weaken (fun _ q _ h => hFc _ h)
                obtain ⟨hR24, hC24, hq_12⟩ := hq_12
                obtain ⟨rfl, rfl, rfl, rfl, rfl, rfl, rfl, hq_12⟩ := hq_12
                subst hq_12
                have hP : va_P (dC, dI) kxCl ((xU cI cB cE o r n (va_up (va_up (va_up z 12 ((z 12) + 1)) 15 0) 16 (-1)) F G2 (Eo2 0 0)) ++ (eP cI (N + 1) Eo2 Er2 En2 Ez2 EF2)) H := hP
                have hD : va_D A ((xU cI cB cE o r n (va_up (va_up (va_up z 12 ((z 12) + 1)) 15 0) 16 (-1)) F G2 (Eo2 0 0)) ++ (eP cI (N + 1) Eo2 Er2 En2 Ez2 EF2)) := hD
                refine W.eq (g2 := F0 m 106 ls []) rfl ?_
                refine lv_aload_n hx hb dX5_entry_106 rfl (lv_at hl 0 rfl) ?_
                refine va_get (D := (dC, dI)) (ci := 5) (v := .int (iz ((z 12) + 1))) (C := RX5) (T := TX5) (N := 16) hx hb hts kt_X5 hown hK hP 0 rfl rfl 2 (by decide) (kx_word hG kq_18_xrows_0 rfl) (fun _ h9 => h9) rfl dX5_entry_107 ?_
                refine lv_iconst (v := iz 1) hx hb dX5_entry_110 (by decide) ?_
                refine ki_isub hx hb dX5_entry_111 ?_
                have hxz_25 : -2147483648 ≤ z 15 ∧ z 15 < 2147483648 := hok.2.2.2.1 15
                have hxb_26 : z 15 = 0 ∨ z 15 = 1 := hok.2.2.2.2 15 (by decide)
                have hxz_27 : -2147483648 ≤ z 16 ∧ z 16 < 2147483648 := hok.2.2.2.1 16
                have hok28 : xOk n (va_up (va_up (va_up z 12 ((z 12) + 1)) 15 0) 16 (-1)) F := (((hok.s 12 (by decide) (show -2147483648 ≤ (z 12) + 1 ∧ (z 12) + 1 < 2147483648 by omega) (by omega)).s 15 (by decide) (show -2147483648 ≤ 0 ∧ 0 < 2147483648 by omega) (by omega)).s 16 (by decide) (show -2147483648 ≤ (-1) ∧ (-1) < 2147483648 by omega) (by omega))
                have hfr28 : xFr [12, 15, 16] [] z F (va_up (va_up (va_up z 12 ((z 12) + 1)) 15 0) 16 (-1)) F := (((hfr.uz 12 (by decide) _).uz 15 (by decide) _).uz 16 (by decide) _)
                refine vx_ret ?_
                have hzq : (va_up (va_up (va_up z 12 ((z 12) + 1)) 15 0) 16 (-1)) 12 = z 12 + 1 := rfl
                exact xk_iret (ov := (fun u : (Int) × (Nat → Int) × (Nat → Option Nat) × (Nat → Nat → Nat) × (Nat → Nat → Nat) × (Nat → Nat → Nat) × (Nat → Nat → Int) × (Nat → Nat → Int → Int) => match u with | (q, z', G', Eo', Er', En', Ez', EF') => some (.int (iz q)))) (post := (fun (u : (Int) × (Nat → Int) × (Nat → Option Nat) × (Nat → Nat → Nat) × (Nat → Nat → Nat) × (Nat → Nat → Nat) × (Nat → Nat → Int) × (Nat → Nat → Int → Int)) (dn dm : Nat) => match u with | (q, z', G', Eo', Er', En', Ez', EF') => xOk n z' F ∧ xFr [12, 15, 16] [] z F z' F ∧ xG (N + 1) (z' 12) G' Eo' ∧ eA (N + 1) En' Ez' EF' ∧ (dn ≤ 30 ∧ dm ≤ 60) ∧ q = z 12 ∧ z' 12 = z 12 + 1 ∧ ((p0 = 0 ∧ p1 = -1) ∨ ((p0 = 1 ∨ p0 = 2) ∧ 0 ≤ p1 ∧ p1 < z 12 ∧ Ez ((p1 + 1).toNat) 7 = p0 - 1)) ∧ (∀ j, j < N → Ez' j = Ez j ∧ EF' j = EF j) ∧ Ez' N 7 = p0 ∧ Ez' N 0 = 0 ∧ Ez' N 4 = 0 ∧ Ez' N 9 = -1)) (ws := (fun u : (Int) × (Nat → Int) × (Nat → Option Nat) × (Nat → Nat → Nat) × (Nat → Nat → Nat) × (Nat → Nat → Nat) × (Nat → Nat → Int) × (Nat → Nat → Int → Int) => match u with | (q, z', G', Eo', Er', En', Ez', EF') => (xU cI cB cE o r n z' F G' (Eo' 0 0) ++ eP cI (N + 1) Eo' Er' En' Ez' EF'))) (tys := xT cI cB cE) (z := ((z 12) + 1) - 1) (((z 12) + 1) - 1, (va_up (va_up (va_up z 12 ((z 12) + 1)) 15 0) 16 (-1)), G2, Eo2, Er2, En2, Ez2, EF2) hx hb hr rfl hlocks rfl hP hD hK hS dX5_entry_112 (fun dn dm hdn hdm => ⟨hok28, hfr28, ⟨by omega, by omega, by omega, fun e9 h9 => hN4b e9 (by omega)⟩, hPE9, ⟨by omega, by omega⟩, by omega, by omega, by omega, fun j hj => hel j hj, by rw [hen]; rfl, by rw [hen]; rfl, by rw [hen]; rfl, by rw [hen]; rfl⟩) (by omega) (by omega)
              · omega
          · omega
        · skip
          refine ki_if_ne (tgt := 47) hx hb dX5_entry_36 (by decide) (by omega) (by omega) (fun c_29 => ?_) (fun c_29 => ?_)
          · omega
          · skip
            exact ky_thr_IAE hx hb hlf hown hG hZ hS (hl.1.trans hml.symm) dX5_entry_39 dX5_entry_42 dX5_entry_43 dX5_entry_46 htab (Nat.le_of_ble_eq_true rfl) (Nat.le_of_ble_eq_true rfl) (show 0 + 1 ≤ 60 from (by omega)) (show 0 + 6 ≤ 200 from (by omega)) hlocks (Or.inr (⟨rfl, by first | trivial | omega⟩)) (fun t hvm h1 h2 => ⟨(r, n, z, F, Er, En, Ez, EF), ⟨hok, xFr.rf, hPE, eFr.rf⟩, hP.kept (fun k q hk => h2 q.1 (hP k q hk).lt), va_K.moved hvm hK, hD⟩) hS.2.2 (by omega) (by omega) (by omega) (by omega)
  · skip
    refine lv_aload_n hx hb dX5_entry_5 rfl (lv_at hl 0 rfl) ?_
    refine lv_iload_n hx hb dX5_entry_6 rfl (lv_at hl 2 rfl) ?_
    have hxz_30 : -2147483648 ≤ z 12 ∧ z 12 < 2147483648 := hok.2.2.2.1 12
    have hxG9 : xG N (z 12) G Eo := ⟨by omega, by omega, by omega, fun e9 h9 => hN4 e9 (by omega)⟩
    have hP : va_P (dC, dI) kxCl (xU cI cB cE o r n z F G (Eo 0 0) ++ eP cI N Eo Er En Ez EF) s.heap := hP
    refine xk_pure (va_runV (As := [.int (iz p1)]) (rest := []) ⟨hx, hb, hml, hown, hts⟩ (y_isEntry l dC dI cI cB cE o r n z F G N Eo Er En Ez EF p1 s.heap.size hok hxG9 hPE (by omega) (by omega)) (cwV 1 hts (kx_gV kq_18_xrows_1 kq_18_xrows_2 kq_18_xrows_3 kq_18_xrows_4 kq_18_xrows_5 rfl) rfl rfl rfl (by decide +kernel) ⟨Nat.le_of_ble_eq_true rfl, Nat.le_of_ble_eq_true rfl⟩) ⟨pPre_blind, va_recv hK hP (ci := 5) (q0 := 0) rfl rfl, pPre_give hP hK hG⟩ rfl rfl hl.1 rfl (lv_room (Nat.le_of_ble_eq_true rfl)) dX5_entry_7 ⟨show 0 + 0 ≤ 60 from (by omega), show 0 + 0 ≤ 200 from (by omega)⟩) hS (fun z_32 locs hq_31 hS => ?_)
    refine W.eq (g2 := F0 m 10 ls [.int (iz z_32)]) rfl ?_
    try dsimp only at hq_31
    rcases hq_31 with ⟨rfl, hq_31⟩ | ⟨rfl, hq_31⟩
    · skip
      refine ki_if_ne (tgt := 21) hx hb dX5_entry_10 (by decide) (by omega) (by omega) (fun c_33 => ?_) (fun c_33 => ?_)
      · skip
        refine lv_iload_n hx hb dX5_entry_21 rfl (lv_at hl 1 rfl) ?_
        refine ki_if_lt (tgt := 39) hx hb dX5_entry_22 (by decide) (by omega) (by omega) (fun c_34 => ?_) (fun c_34 => ?_)
        · skip
          exact ky_thr_IAE hx hb hlf hown hG hZ hS (hl.1.trans hml.symm) dX5_entry_39 dX5_entry_42 dX5_entry_43 dX5_entry_46 htab (Nat.le_of_ble_eq_true rfl) (Nat.le_of_ble_eq_true rfl) (show 0 + 1 ≤ 60 from (by omega)) (show 0 + 6 ≤ 200 from (by omega)) hlocks (Or.inr (⟨rfl, by first | trivial | omega⟩)) (fun t hvm h1 h2 => ⟨(r, n, z, F, Er, En, Ez, EF), ⟨hok, xFr.rf, hPE, eFr.rf⟩, hP.kept (fun k q hk => h2 q.1 (hP k q hk).lt), va_K.moved hvm hK, hD⟩) hS.2.2 (by omega) (by omega) (by omega) (by omega)
        · skip
          refine lv_iload_n hx hb dX5_entry_25 rfl (lv_at hl 1 rfl) ?_
          refine lv_iconst (v := iz 3) hx hb dX5_entry_26 (by decide) ?_
          refine ki_icmp_ge (tgt := 39) hx hb dX5_entry_27 (by decide) (by omega) (by omega) (by omega) (by omega) (fun c_35 => ?_) (fun c_35 => ?_)
          · skip
            exact ky_thr_IAE hx hb hlf hown hG hZ hS (hl.1.trans hml.symm) dX5_entry_39 dX5_entry_42 dX5_entry_43 dX5_entry_46 htab (Nat.le_of_ble_eq_true rfl) (Nat.le_of_ble_eq_true rfl) (show 0 + 1 ≤ 60 from (by omega)) (show 0 + 6 ≤ 200 from (by omega)) hlocks (Or.inr (⟨rfl, by first | trivial | omega⟩)) (fun t hvm h1 h2 => ⟨(r, n, z, F, Er, En, Ez, EF), ⟨hok, xFr.rf, hPE, eFr.rf⟩, hP.kept (fun k q hk => h2 q.1 (hP k q hk).lt), va_K.moved hvm hK, hD⟩) hS.2.2 (by omega) (by omega) (by omega) (by omega)
          · skip
            refine lv_aload_n hx hb dX5_entry_30 rfl (lv_at hl 0 rfl) ?_
            refine lv_iload_n hx hb dX5_entry_31 rfl (lv_at hl 2 rfl) ?_
            refine lv_iload_n hx hb dX5_entry_32 rfl (lv_at hl 1 rfl) ?_
            have hxG9 : xG N (z 12) G Eo := ⟨by omega, by omega, by omega, fun e9 h9 => hN4 e9 (by omega)⟩
            have hP : va_P (dC, dI) kxCl (xU cI cB cE o r n z F G (Eo 0 0) ++ eP cI N Eo Er En Ez EF) s.heap := hP
            refine xk_pure (va_runV (As := [.int (iz p1), .int (iz p0)]) (rest := []) ⟨hx, hb, hml, hown, hts⟩ (y_isLevelBefore l dC dI cI cB cE o r n z F G N Eo Er En Ez EF p1 p0 s.heap.size hok hxG9 hPE (by omega) (by omega) (by omega) (by omega)) (cwV 2 hts (kx_gV kq_24_xnew_13 kq_24_xnew_14 kq_24_xnew_15 kq_18_xrows_4 kq_24_xnew_16 rfl) rfl rfl rfl (by decide +kernel) ⟨Nat.le_of_ble_eq_true rfl, Nat.le_of_ble_eq_true rfl⟩) ⟨pPre_blind, va_recv hK hP (ci := 5) (q0 := 0) rfl rfl, pPre_give hP hK hG⟩ rfl rfl hl.1 rfl (lv_room (Nat.le_of_ble_eq_true rfl)) dX5_entry_33 ⟨show 0 + 0 ≤ 60 from (by omega), show 0 + 0 ≤ 200 from (by omega)⟩) hS (fun z_37 locs hq_36 hS => ?_)
            refine W.eq (g2 := F0 m 36 ls [.int (iz z_37)]) rfl ?_
            try dsimp only at hq_36
            rcases hq_36 with ⟨rfl, hq_36⟩ | ⟨rfl, hq_36⟩
            · skip
              refine ki_if_ne (tgt := 47) hx hb dX5_entry_36 (by decide) (by omega) (by omega) (fun c_38 => ?_) (fun c_38 => ?_)
              · skip
                refine lv_aload_n hx hb dX5_entry_47 rfl (lv_at hl 0 rfl) ?_
                refine va_get (D := (dC, dI)) (ci := 5) (v := .int (iz (z 12))) (C := RX5) (T := TX5) (N := 16) hx hb hts kt_X5 hown hK hP 0 rfl rfl 2 (by decide) (kx_word hG kq_18_xrows_0 rfl) (fun _ h9 => h9) rfl dX5_entry_48 ?_
                refine ki_if_lt (tgt := 66) hx hb dX5_entry_51 (by decide) (by omega) (by omega) (fun c_39 => ?_) (fun c_39 => ?_)
                · omega
                · skip
                  refine lv_aload_n hx hb dX5_entry_54 rfl (lv_at hl 0 rfl) ?_
                  refine va_get (D := (dC, dI)) (ci := 5) (v := .int (iz (z 12))) (C := RX5) (T := TX5) (N := 16) hx hb hts kt_X5 hown hK hP 0 rfl rfl 2 (by decide) (kx_word hG kq_18_xrows_0 rfl) (fun _ h9 => h9) rfl dX5_entry_55 ?_
                  refine lv_aload_n hx hb dX5_entry_58 rfl (lv_at hl 0 rfl) ?_
                  refine va_get (D := (dC, dI)) (ci := 5) (v := .ref (o 16)) (C := RX5) (T := TX5) (N := 16) hx hb hts kt_X5 hown hK hP 0 rfl rfl 0 (by decide) (kx_word hG kq_18_xrows_6 rfl) (fun _ h9 => h9) rfl dX5_entry_59 ?_
                  refine xk_alen hx hb hK hP 1 2 rfl rfl dX5_entry_62 ?_
                  refine ki_is (show iz ((80 : Nat) : Int) = iz 80 from rfl) ?_
                  refine ki_icmp_lt (tgt := 74) hx hb dX5_entry_63 (by decide) (by omega) (by omega) (by omega) (by omega) (fun c_40 => ?_) (fun c_40 => ?_)
                  · skip
                    refine lv_aload_n hx hb dX5_entry_74 rfl (lv_at hl 0 rfl) ?_
                    refine va_get (D := (dC, dI)) (ci := 5) (v := .ref (o 16)) (C := RX5) (T := TX5) (N := 16) hx hb hts kt_X5 hown hK hP 0 rfl rfl 0 (by decide) (kx_word hG kq_18_xrows_6 rfl) (fun _ h9 => h9) rfl dX5_entry_75 ?_
                    refine lv_aload_n hx hb dX5_entry_78 rfl (lv_at hl 0 rfl) ?_
                    refine va_get (D := (dC, dI)) (ci := 5) (v := .int (iz (z 12))) (C := RX5) (T := TX5) (N := 16) hx hb hts kt_X5 hown hK hP 0 rfl rfl 2 (by decide) (kx_word hG kq_18_xrows_0 rfl) (fun _ h9 => h9) rfl dX5_entry_79 ?_
                    refine va_new (ci := 0) (fs := [.int 0, .int 0, .null, .null, .null, .null, .null, .int 0, .int 0, .int 0, .int 0, .int 0]) (C := RX0) (T := TX0) (N := 12) hx hb hts kt_X0 tyX0 tyX0_ok hown (kx_word hG kq_23_xmake_24 rfl) (kx_word hG kq_23_xmake_26 rfl) (kx_word hG kq_16_xentry_2 rfl) hK hP hD hS hA rfl (fun j hj => by rcases (show j = 0 ∨ j = 1 ∨ j = 2 ∨ j = 3 ∨ j = 4 ∨ j = 5 ∨ j = 6 ∨ j = 7 ∨ j = 8 ∨ j = 9 ∨ j = 10 ∨ j = 11 by omega) with rfl | rfl | rfl | rfl | rfl | rfl | rfl | rfl | rfl | rfl | rfl | rfl <;> rfl) (show 0 + 1 ≤ 60 from (by omega)) (show 0 + 12 ≤ 200 from (by omega)) dX5_entry_82 (fun qn H hP hD hS => ?_)
                    have hP : va_P (dC, dI) kxCl (((xU cI cB cE o r n z F G (Eo 0 0)) ++ [(qn, .inr (0, [.int 0, .int 0, .null, .null, .null, .null, .null, .int 0, .int 0, .int 0, .int 0, .int 0]))]) ++ (eP cI N Eo Er En Ez EF)) H := va_P.swap hP
                    have hD : va_D A (((xU cI cB cE o r n z F G (Eo 0 0)) ++ [(qn, .inr (0, [.int 0, .int 0, .null, .null, .null, .null, .null, .int 0, .int 0, .int 0, .int 0, .int 0]))]) ++ (eP cI N Eo Er En Ez EF)) := va_D.swap hD
                    refine lv_dup hx hb dX5_entry_85 rfl ?_
                    refine lv_iload_n hx hb dX5_entry_86 rfl (lv_at hl 1 rfl) ?_
                    refine lv_iload_n hx hb dX5_entry_87 rfl (lv_at hl 2 rfl) ?_
                    have hPc := hP.sub (ws' := [(qn, .inr (0, [.int 0, .int 0, .null, .null, .null, .null, .null, .int 0, .int 0, .int 0, .int 0, .int 0]))]) [29] rfl
                    have hDc := hD.sub (ws' := [(qn, .inr (0, [.int 0, .int 0, .null, .null, .null, .null, .null, .int 0, .int 0, .int 0, .int 0, .int 0]))]) [29] (by decide) rfl
                    have hFc := va_free (wc := [(qn, .inr (0, [.int 0, .int 0, .null, .null, .null, .null, .null, .int 0, .int 0, .int 0, .int 0, .int 0]))]) hD hS hA [29] rfl
                    refine va_callv (va_runI (As := [.int (iz p0), .int (iz p1)]) (rest := [.ref qn, .int (iz (z 12)), .ref (o 16)]) ⟨hx, hb, hml, hown, hts⟩ (c_Entry_init l hlf dC dI qn (iz p0) (iz p1) cI cB cE H.size) (cwI 2 hts (kx_gI kq_23_xmake_27 rfl) rfl rfl rfl (kx_word hG kq_16_xentry_2 rfl) (kx_word hG kq_23_xmake_28 rfl) (kx_word hG kq_23_xmake_29 rfl) rfl (by decide +kernel) ⟨Nat.le_of_ble_eq_true rfl, Nat.le_of_ble_eq_true rfl⟩) ⟨kx_blind, kx_give (ws := []) (tys := []) hPc hDc hK hG hZ hS hFc⟩ rfl rfl hl.1 rfl (lv_room (Nat.le_of_ble_eq_true rfl)) dX5_entry_88 ⟨show (0 + 1) + 15 ≤ 60 from (by omega), show (0 + 12) + 24 ≤ 200 from (by omega)⟩) hS (fun q _ h => hFc q h) hFc (fun u t H1 locs ht hvm hw hB hz1 hk1 hS => ?_)
                    obtain ⟨q1, q2, q3, q4, q5, q6, q7, q8, a0, a1, a2, a3, a4, a5, a6⟩ := u
                    obtain ⟨hP1, hK1, hD1⟩ := hB
                    rw [ht] at hP1
                    obtain ⟨hP, hD⟩ := va_joinQ (wr := (xU cI cB cE o r n z F G (Eo 0 0))) (w1 := [(qn, .inr (0, [.int (iz p0), .int (iz p1), .ref q1, .ref q2, .ref q3, .ref q5, .ref q4, .int (-1), .int (-1), .int 0, .int 0, .int 0])), (q1, .inr (1, [.int 20, .ref a0, .int 0])), (a0, .inl (cI, 0, .inl (fun _ => 0))), (q2, .inr (1, [.int 20, .ref a1, .int 0])), (a1, .inl (cI, 0, .inl (fun _ => 0))), (q3, .inr (1, [.int 40, .ref a2, .int 0])), (a2, .inl (cI, 0, .inl (fun _ => 0))), (q4, .inr (1, [.int 5, .ref a3, .int 0])), (a3, .inl (cI, 0, .inl (fun _ => 0))), (q5, .inr (3, [.ref q6, .ref q7, .ref q8])), (q6, .inr (1, [.int 20, .ref a4, .int 0])), (a4, .inl (cI, 0, .inl (fun _ => 0))), (q7, .inr (1, [.int 20, .ref a5, .int 0])), (a5, .inl (cI, 0, .inl (fun _ => 0))), (q8, .inr (1, [.int 20, .ref a6, .int 0])), (a6, .inl (cI, 0, .inl (fun _ => 0)))]) hP hD [29] [0, 1, 2, 3, 4, 5, 6, 7, 8, 9, 10, 11, 12, 13, 14, 15, 16, 17, 18, 19, 20, 21, 22, 23, 24, 25, 26, 27, 28] rfl rfl (by decide) (by decide) hk1 hFc hP1 hD1
                    generalize H1 = H at hP hS ⊢
                    have hP : va_P (dC, dI) kxCl (((xU cI cB cE o r n z F G (Eo 0 0)) ++ eU cI (eNo qn q1 q2 q3 q4 q5 q6 q7 q8) (eNr a0 a1 a2 a3 a4 a5 a6) (fun _ => 0) (eNz p0 p1) (fun _ _ => 0)) ++ (eP cI N Eo Er En Ez EF)) H := by rw [← eN_eq]; exact hP
                    have hD : va_D A (((xU cI cB cE o r n z F G (Eo 0 0)) ++ eU cI (eNo qn q1 q2 q3 q4 q5 q6 q7 q8) (eNr a0 a1 a2 a3 a4 a5 a6) (fun _ => 0) (eNz p0 p1) (fun _ _ => 0)) ++ (eP cI N Eo Er En Ez EF)) := by rw [← eN_eq]; exact hD
                    refine W.eq (g2 := F0 m 91 ls [.ref qn, .int (iz (z 12)), .ref (o 16)]) rfl ?_
                    refine va_astq (r := (RX0, TX0, 12)) hx hb hK hP hD hS 1 2 29 0 rfl rfl rfl rfl (iz_in (by omega) (by omega) (by omega)) dX5_entry_91 (fun H locs hP hD hS => ?_)
                    rw [iz_clamp (by omega) (by omega)] at hP hD
                    have hP : va_P (dC, dI) kxCl (((xU cI cB cE o r n z F (va_up G (z 12).toNat (some qn)) (Eo 0 0)) ++ eU cI (eNo qn q1 q2 q3 q4 q5 q6 q7 q8) (eNr a0 a1 a2 a3 a4 a5 a6) (fun _ => 0) (eNz p0 p1) (fun _ _ => 0)) ++ (eP cI N Eo Er En Ez EF)) H := hP
                    have hD : va_D A (((xU cI cB cE o r n z F (va_up G (z 12).toNat (some qn)) (Eo 0 0)) ++ eU cI (eNo qn q1 q2 q3 q4 q5 q6 q7 q8) (eNr a0 a1 a2 a3 a4 a5 a6) (fun _ => 0) (eNz p0 p1) (fun _ _ => 0)) ++ (eP cI N Eo Er En Ez EF)) := hD
                    have hP := hP.perm eX_push
                    have hD := hD.perm eX_push
                    have hnb : va_up Eo N (eNo qn q1 q2 q3 q4 q5 q6 q7 q8) 0 0 = Eo 0 0 := by rw [va_up_ne _ _ (show 0 ≠ N by omega)]
                    have hN4b : ∀ e : Nat, (e : Int) < z 12 + 1 → va_up G (z 12).toNat (some qn) e = some (va_up Eo N (eNo qn q1 q2 q3 q4 q5 q6 q7 q8) (e + 1) 0) := eN_G (o := eNo qn q1 q2 q3 q4 q5 q6 q7 q8) hN1 hN3 hN4
                    have hPE9 := hPE.push (N := N) (eN_ok p0 p1 (by omega) (by omega))
                    rw [← hnb] at hP hD
                    have hel : ∀ j, j < N → va_up Ez N (eNz p0 p1) j = Ez j ∧ va_up EF N (fun _ _ => 0) j = EF j := fun j hj => ⟨va_up_ne _ _ (by omega), va_up_ne _ _ (by omega)⟩
                    have hen : va_up Ez N (eNz p0 p1) N = eNz p0 p1 := va_up_self _ _ _
                    generalize hG9 : va_up G (z 12).toNat (some qn) = G2 at hP hD hN4b
                    generalize hEo9 : va_up Eo N (eNo qn q1 q2 q3 q4 q5 q6 q7 q8) = Eo2 at hP hD hN4b
                    generalize hEr9 : va_up Er N (eNr a0 a1 a2 a3 a4 a5 a6) = Er2 at hP hD
                    generalize hEn9 : va_up En N (fun _ => 0) = En2 at hP hD hPE9
                    generalize hEz9 : va_up Ez N (eNz p0 p1) = Ez2 at hP hD hPE9 hel hen
                    generalize hEF9 : va_up EF N (fun _ _ => 0) = EF2 at hP hD hPE9 hel
                    have hef : eFr [] [] En2 Ez2 EF2 En2 Ez2 EF2 := eFr.rf
                    have hP : va_P (dC, dI) kxCl ((xU cI cB cE o r n z F G2 (Eo2 0 0)) ++ (eP cI (N + 1) Eo2 Er2 En2 Ez2 EF2)) H := hP
                    have hD : va_D A ((xU cI cB cE o r n z F G2 (Eo2 0 0)) ++ (eP cI (N + 1) Eo2 Er2 En2 Ez2 EF2)) := hD
                    refine W.eq (g2 := F0 m 92 ls []) rfl ?_
                    refine lv_aload_n hx hb dX5_entry_92 rfl (lv_at hl 0 rfl) ?_
                    refine lv_dup hx hb dX5_entry_93 rfl ?_
                    have hxz_41 : -2147483648 ≤ z 12 ∧ z 12 < 2147483648 := hok.2.2.2.1 12
                    refine va_get (D := (dC, dI)) (ci := 5) (v := .int (iz (z 12))) (C := RX5) (T := TX5) (N := 16) hx hb hts kt_X5 hown hK hP 0 rfl rfl 2 (by decide) (kx_word hG kq_18_xrows_0 rfl) (fun _ h9 => h9) rfl dX5_entry_94 ?_
                    refine lv_iconst (v := iz 1) hx hb dX5_entry_97 (by decide) ?_
                    refine ki_iadd hx hb dX5_entry_98 ?_
                    refine va_put (D := (dC, dI)) (ci := 5) (v := .int (iz ((z 12) + 1))) (ty := .int) (C := RX5) (T := TX5) (N := 16) hx hb hts kt_X5 tyX5 tyX5_ok nmX5 hown hK hP hD hS 0 rfl rfl 2 (by decide) (kx_word hG kq_18_xrows_0 rfl) (fun _ h9 => h9) rfl (by decide +kernel) rfl rfl (Nat.le_of_ble_eq_true rfl) dX5_entry_99 (fun H locs hP hD hS => ?_)
                    have hP : va_P (dC, dI) kxCl ((xU cI cB cE o r n (va_up z 12 ((z 12) + 1)) F G2 (Eo2 0 0)) ++ (eP cI (N + 1) Eo2 Er2 En2 Ez2 EF2)) H := hP
                    have hD : va_D A ((xU cI cB cE o r n (va_up z 12 ((z 12) + 1)) F G2 (Eo2 0 0)) ++ (eP cI (N + 1) Eo2 Er2 En2 Ez2 EF2)) := hD
                    refine lv_aload_n hx hb dX5_entry_102 rfl (lv_at hl 0 rfl) ?_
                    have hok42 : xOk n (va_up z 12 ((z 12) + 1)) F := (hok.s 12 (by decide) (show -2147483648 ≤ (z 12) + 1 ∧ (z 12) + 1 < 2147483648 by omega) (by omega))
                    have hfr42 : xFr [12, 15, 16] [] z F (va_up z 12 ((z 12) + 1)) F := (hfr.uz 12 (by decide) _)
                    have hxG9 : xG (N + 1) ((z 12) + 1) G2 Eo2 := ⟨by omega, by omega, by omega, fun e9 h9 => hN4b e9 (by omega)⟩
                    have hP : va_P (dC, dI) kxCl (xU cI cB cE o r n (va_up z 12 ((z 12) + 1)) F G2 (Eo2 0 0) ++ eP cI (N + 1) Eo2 Er2 En2 Ez2 EF2) H := hP
                    have hD : va_D A (xU cI cB cE o r n (va_up z 12 ((z 12) + 1)) F G2 (Eo2 0 0) ++ eP cI (N + 1) Eo2 Er2 En2 Ez2 EF2) := hD
                    have hFc := xw_free hD hS hA
                    refine xk_call (va_runV (As := []) (rest := []) ⟨hx, hb, hml, hown, hts⟩ (y_forgetRows l dC dI cI cB cE o r n (va_up z 12 ((z 12) + 1)) F G2 (N + 1) Eo2 Er2 En2 Ez2 EF2  H.size hok42 hxG9 hPE9 ) (cwV 0 hts (kx_gV kq_21_xcalls_6 kq_21_xcalls_7 kq_21_xcalls_8 kq_18_xrows_4 kq_21_xcalls_9 rfl) rfl rfl rfl (by decide +kernel) ⟨Nat.le_of_ble_eq_true rfl, Nat.le_of_ble_eq_true rfl⟩) ⟨kx_blind, va_recv hK hP (ci := 5) (q0 := 0) rfl rfl, kx_give (ws := []) (tys := []) hP hD hK hG hZ hS hFc⟩ rfl rfl hl.1 rfl (lv_room (Nat.le_of_ble_eq_true rfl)) dX5_entry_103 ⟨show ((0 + 1) + 15) + 0 ≤ 60 from (by omega), show ((0 + 12) + 24) + 0 ≤ 200 from (by omega)⟩) hS (fun q _ h => hFc q h) hFc (fun u dn_45 dm_46 t H locs ht hvm hq_43 hB hk1 hS => ?_)
                    obtain ⟨r_47, n_48, z_49, F_50, Er_51, En_52, Ez_53, EF_54⟩ := u
                    obtain ⟨hP, hK1, hD1⟩ := hB
                    rw [ht] at hP
                    have hD := hD1.weaken (fun _ q _ h => hFc _ h)
                    obtain ⟨hR55, hC55, hq_43⟩ := hq_43
                    obtain ⟨rfl, rfl, rfl, rfl, rfl, rfl, rfl, hq_43⟩ := hq_43
                    subst hq_43
                    have hP : va_P (dC, dI) kxCl ((xU cI cB cE o r n (va_up (va_up (va_up z 12 ((z 12) + 1)) 15 0) 16 (-1)) F G2 (Eo2 0 0)) ++ (eP cI (N + 1) Eo2 Er2 En2 Ez2 EF2)) H := hP
                    have hD : va_D A ((xU cI cB cE o r n (va_up (va_up (va_up z 12 ((z 12) + 1)) 15 0) 16 (-1)) F G2 (Eo2 0 0)) ++ (eP cI (N + 1) Eo2 Er2 En2 Ez2 EF2)) := hD
                    refine W.eq (g2 := F0 m 106 ls []) rfl ?_
                    refine lv_aload_n hx hb dX5_entry_106 rfl (lv_at hl 0 rfl) ?_
                    refine va_get (D := (dC, dI)) (ci := 5) (v := .int (iz ((z 12) + 1))) (C := RX5) (T := TX5) (N := 16) hx hb hts kt_X5 hown hK hP 0 rfl rfl 2 (by decide) (kx_word hG kq_18_xrows_0 rfl) (fun _ h9 => h9) rfl dX5_entry_107 ?_
                    refine lv_iconst (v := iz 1) hx hb dX5_entry_110 (by decide) ?_
                    refine ki_isub hx hb dX5_entry_111 ?_
                    have hxz_56 : -2147483648 ≤ z 15 ∧ z 15 < 2147483648 := hok.2.2.2.1 15
                    have hxb_57 : z 15 = 0 ∨ z 15 = 1 := hok.2.2.2.2 15 (by decide)
                    have hxz_58 : -2147483648 ≤ z 16 ∧ z 16 < 2147483648 := hok.2.2.2.1 16
                    have hok59 : xOk n (va_up (va_up (va_up z 12 ((z 12) + 1)) 15 0) 16 (-1)) F := (((hok.s 12 (by decide) (show -2147483648 ≤ (z 12) + 1 ∧ (z 12) + 1 < 2147483648 by omega) (by omega)).s 15 (by decide) (show -2147483648 ≤ 0 ∧ 0 < 2147483648 by omega) (by omega)).s 16 (by decide) (show -2147483648 ≤ (-1) ∧ (-1) < 2147483648 by omega) (by omega))
                    have hfr59 : xFr [12, 15, 16] [] z F (va_up (va_up (va_up z 12 ((z 12) + 1)) 15 0) 16 (-1)) F := (((hfr.uz 12 (by decide) _).uz 15 (by decide) _).uz 16 (by decide) _)
                    refine vx_ret ?_
                    have hzq : (va_up (va_up (va_up z 12 ((z 12) + 1)) 15 0) 16 (-1)) 12 = z 12 + 1 := rfl
                    exact xk_iret (ov := (fun u : (Int) × (Nat → Int) × (Nat → Option Nat) × (Nat → Nat → Nat) × (Nat → Nat → Nat) × (Nat → Nat → Nat) × (Nat → Nat → Int) × (Nat → Nat → Int → Int) => match u with | (q, z', G', Eo', Er', En', Ez', EF') => some (.int (iz q)))) (post := (fun (u : (Int) × (Nat → Int) × (Nat → Option Nat) × (Nat → Nat → Nat) × (Nat → Nat → Nat) × (Nat → Nat → Nat) × (Nat → Nat → Int) × (Nat → Nat → Int → Int)) (dn dm : Nat) => match u with | (q, z', G', Eo', Er', En', Ez', EF') => xOk n z' F ∧ xFr [12, 15, 16] [] z F z' F ∧ xG (N + 1) (z' 12) G' Eo' ∧ eA (N + 1) En' Ez' EF' ∧ (dn ≤ 30 ∧ dm ≤ 60) ∧ q = z 12 ∧ z' 12 = z 12 + 1 ∧ ((p0 = 0 ∧ p1 = -1) ∨ ((p0 = 1 ∨ p0 = 2) ∧ 0 ≤ p1 ∧ p1 < z 12 ∧ Ez ((p1 + 1).toNat) 7 = p0 - 1)) ∧ (∀ j, j < N → Ez' j = Ez j ∧ EF' j = EF j) ∧ Ez' N 7 = p0 ∧ Ez' N 0 = 0 ∧ Ez' N 4 = 0 ∧ Ez' N 9 = -1)) (ws := (fun u : (Int) × (Nat → Int) × (Nat → Option Nat) × (Nat → Nat → Nat) × (Nat → Nat → Nat) × (Nat → Nat → Nat) × (Nat → Nat → Int) × (Nat → Nat → Int → Int) => match u with | (q, z', G', Eo', Er', En', Ez', EF') => (xU cI cB cE o r n z' F G' (Eo' 0 0) ++ eP cI (N + 1) Eo' Er' En' Ez' EF'))) (tys := xT cI cB cE) (z := ((z 12) + 1) - 1) (((z 12) + 1) - 1, (va_up (va_up (va_up z 12 ((z 12) + 1)) 15 0) 16 (-1)), G2, Eo2, Er2, En2, Ez2, EF2) hx hb hr rfl hlocks rfl hP hD hK hS dX5_entry_112 (fun dn dm hdn hdm => ⟨hok59, hfr59, ⟨by omega, by omega, by omega, fun e9 h9 => hN4b e9 (by omega)⟩, hPE9, ⟨by omega, by omega⟩, by omega, by omega, by omega, fun j hj => hel j hj, by rw [hen]; rfl, by rw [hen]; rfl, by rw [hen]; rfl, by rw [hen]; rfl⟩) (by omega) (by omega)
                  · omega
              · omega
            · skip
              refine ki_if_ne (tgt := 47) hx hb dX5_entry_36 (by decide) (by omega) (by omega) (fun c_60 => ?_) (fun c_60 => ?_)
              · omega
              · skip
                exact ky_thr_IAE hx hb hlf hown hG hZ hS (hl.1.trans hml.symm) dX5_entry_39 dX5_entry_42 dX5_entry_43 dX5_entry_46 htab (Nat.le_of_ble_eq_true rfl) (Nat.le_of_ble_eq_true rfl) (show 0 + 1 ≤ 60 from (by omega)) (show 0 + 6 ≤ 200 from (by omega)) hlocks (Or.inr (⟨rfl, by first | trivial | omega⟩)) (fun t hvm h1 h2 => ⟨(r, n, z, F, Er, En, Ez, EF), ⟨hok, xFr.rf, hPE, eFr.rf⟩, hP.kept (fun k q hk => h2 q.1 (hP k q hk).lt), va_K.moved hvm hK, hD⟩) hS.2.2 (by omega) (by omega) (by omega) (by omega)
      · omega
    · skip
      refine ki_if_ne (tgt := 21) hx hb dX5_entry_10 (by decide) (by omega) (by omega) (fun c_61 => ?_) (fun c_61 => ?_)
      · omega
      · skip
        exact ky_thr_NSE hx hb hlf hown hG hZ hS (hl.1.trans hml.symm) dX5_entry_13 dX5_entry_16 dX5_entry_17 dX5_entry_20 htab (Nat.le_of_ble_eq_true rfl) (Nat.le_of_ble_eq_true rfl) (show 0 + 1 ≤ 60 from (by omega)) (show 0 + 6 ≤ 200 from (by omega)) hlocks (Or.inl ⟨rfl, by first | trivial | omega⟩) (fun t hvm h1 h2 => ⟨(r, n, z, F, Er, En, Ez, EF), ⟨hok, xFr.rf, hPE, eFr.rf⟩, hP.kept (fun k q hk => h2 q.1 (hP k q hk).lt), va_K.moved hvm hK, hD⟩) hS.2.2 (by omega) (by omega) (by omega) (by omega)
