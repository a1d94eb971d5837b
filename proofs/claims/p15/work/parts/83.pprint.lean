/-! the landed object: print, at, style, exact -/

set_option maxHeartbeats 4000000 in
set_option maxRecDepth 100000 in
theorem x_pget2 (l : Launch) (dC : Nat → ClassId) (dI : Nat → Nat → Nat) (cI cB cE : ClassId) (o : Nat) (r : Nat) (n : Nat) (z : Int) (tl : Int) (F : Int → Int) (p0 : Int) (sz : Nat) (hok : 0 ≤ z ∧ z ≤ (n : Int) ∧ (n = 0 ∨ n = 6000)) (ht : tl = 0 ∨ tl = 1) (hF : iB F) (hp01 : -2147483648 ≤ p0) (hp02 : p0 < 2147483648) : Met l yX2_get [.code yX2_get cX2_get 2 (some .int)] ({ frames := 0, cells := 0, slots := 0, locals := 0 }) (va_Pc [.ref o, .int (iz p0)] (pPre dC dI (pU cB o r n z tl F) (xT cI cB cE) sz)) (pQ (fun z => some (.int (iz z))) (fun (q : Int) => ((0 ≤ p0 ∧ p0 < z) ∧ q = pt_u (F p0)) ∨ (¬ (0 ≤ p0 ∧ p0 < z) ∧ q = 0))) 0 0 (fun _ => False) := by
  refine Met.ofW (cc := cX2_get) (maxL := 2) (ret := (some .int)) (by decide) rfl ?_
  intro p e s m args below meth c s₁ B hml hv
  obtain ⟨rfl, hsz, hP, hK, hG⟩ := hv
  have hx := B.exec
  have hb := B.bytes
  have hr := B.returns
  have hts := kx_hts (a := ([.ref o, .int (iz p0)] : List Value).toArray) hG
  have hown : s.vm.findClass RX2 = some m.cls := findClass_of_methodNamed B.named
  have hlocks := B.notSynchronized
  subst hsz
  have hS : va_S (fun _ => False) s.heap s.heap [] := va_S.rf
  have hl := lv_entry ([.ref o, .int (iz p0)]) (n := 2) (Nat.le_of_ble_eq_true rfl)
  rw [lg_entry_eq]
  generalize (lg_sl ([.ref o, .int (iz p0)]) ++ List.replicate (2 - (lg_sl ([.ref o, .int (iz p0)])).length) Slot.unset).toArray = ls at hl ⊢
  have hl : lv_has ls 2 [(0, .ref o), (1, .int (iz p0))] := hl
  refine lv_iload_n hx hb dX2_get_0 rfl (lv_at hl 1 rfl) ?_
  refine ki_if_lt (tgt := 34) hx hb dX2_get_1 (by decide) (by omega) (by omega) (fun c_1 => ?_) (fun c_1 => ?_)
  · skip
    refine lv_iconst (v := iz 0) hx hb dX2_get_34 (by decide) ?_
    exact xp_iret (z := 0) hx hb hr rfl hlocks rfl hS.2.2 dX2_get_35 (Or.inr ⟨by omega, rfl⟩)
  · skip
    refine lv_iload_n hx hb dX2_get_4 rfl (lv_at hl 1 rfl) ?_
    refine lv_aload_n hx hb dX2_get_5 rfl (lv_at hl 0 rfl) ?_
    refine va_get (D := (dC, dI)) (ci := 2) (v := .int (iz z)) (C := RX2) (T := TX2) (N := 3) hx hb hts kt_X2 hown hK hP 0 rfl rfl 1 (by decide) (kx_word hG kq_15_xspan_5 rfl) (fun _ h9 => h9) rfl dX2_get_6 ?_
    refine ki_icmp_ge (tgt := 34) hx hb dX2_get_9 (by decide) (by omega) (by omega) (by omega) (by omega) (fun c_2 => ?_) (fun c_2 => ?_)
    · skip
      refine lv_iconst (v := iz 0) hx hb dX2_get_34 (by decide) ?_
      exact xp_iret (z := 0) hx hb hr rfl hlocks rfl hS.2.2 dX2_get_35 (Or.inr ⟨by omega, rfl⟩)
    · skip
      refine lv_iload_n hx hb dX2_get_12 rfl (lv_at hl 1 rfl) ?_
      refine lv_aload_n hx hb dX2_get_13 rfl (lv_at hl 0 rfl) ?_
      refine va_get (D := (dC, dI)) (ci := 2) (v := .ref r) (C := RX2) (T := TX2) (N := 3) hx hb hts kt_X2 hown hK hP 0 rfl rfl 0 (by decide) (kx_word hG kq_15_xspan_6 rfl) (fun _ h9 => h9) rfl dX2_get_14 ?_
      refine xk_alen hx hb hK hP 1 1 rfl rfl dX2_get_17 ?_
      refine ki_icmp_ge (tgt := 34) hx hb dX2_get_18 (by decide) (by omega) (by omega) (by omega) (by omega) (fun c_3 => ?_) (fun c_3 => ?_)
      · skip
        refine lv_iconst (v := iz 0) hx hb dX2_get_34 (by decide) ?_
        exact xp_iret (z := 0) hx hb hr rfl hlocks rfl hS.2.2 dX2_get_35 (Or.inr ⟨by omega, rfl⟩)
      · skip
        refine lv_aload_n hx hb dX2_get_21 rfl (lv_at hl 0 rfl) ?_
        refine va_get (D := (dC, dI)) (ci := 2) (v := .ref r) (C := RX2) (T := TX2) (N := 3) hx hb hts kt_X2 hown hK hP 0 rfl rfl 0 (by decide) (kx_word hG kq_15_xspan_6 rfl) (fun _ h9 => h9) rfl dX2_get_22 ?_
        refine lv_iload_n hx hb dX2_get_25 rfl (lv_at hl 1 rfl) ?_
        refine ki_bald (F := F) hx hb hK hP 1 1 rfl rfl (by omega) (by omega) (by omega) dX2_get_26 ?_
        refine lv_sipush (v := iz 255) hx hb dX2_get_27 (by decide) ?_
        refine lv_iand hx hb dX2_get_30 ?_
        refine ki_is (z := (iz (F p0) &&& iz 255).toInt) (iz_self _).symm ?_
        refine lv_goto (tgt := 35) hx hb dX2_get_31 (by decide) ?_
        exact xp_iret (z := (iz (F p0) &&& iz 255).toInt) hx hb hr rfl hlocks rfl hS.2.2 dX2_get_35 (Or.inl ⟨by omega, rfl⟩)
set_option maxHeartbeats 4000000 in
set_option maxRecDepth 100000 in
theorem y_at7 (l : Launch) (hlf : l.stackTraces = false) (dC : Nat → ClassId) (dI : Nat → Nat → Nat) (cI cB cE : ClassId) (o r n : Nat → Nat) (z : Nat → Int) (F : Nat → Int → Int) (G : Nat → Option Nat) (N : Nat) (Eo Er En : Nat → Nat → Nat) (Ez : Nat → Nat → Int) (EF : Nat → Nat → Int → Int) (p0 : Int) (sz : Nat) (hok : xOk n z F) (hxG : xG N (z 12) G Eo) (hPE : eA N En Ez EF) (hp01 : -2147483648 ≤ p0) (hp02 : p0 < 2147483648) : vx_Met l yX5_at [.code yX5_at cX5_at 2 (some .int)] ({ frames := 7, cells := 100, slots := 42000, locals := 100 }) (va_Pc [.ref (o 15), .int (iz p0)] (kx_Pre dC dI (xU cI cB cE o r n z F G (Eo 0 0) ++ eP cI N Eo Er En Ez EF) (xT cI cB cE) sz)) (xQ (fun u : (Int) × (Nat → Nat) × (Nat → Nat) × (Nat → Int) × (Nat → Int → Int) × (Nat → Nat → Nat) × (Nat → Nat → Nat) × (Nat → Nat → Int) × (Nat → Nat → Int → Int) => match u with | (q, r', n', z', F', Er', En', Ez', EF') => some (.int (iz q))) (fun (u : (Int) × (Nat → Nat) × (Nat → Nat) × (Nat → Int) × (Nat → Int → Int) × (Nat → Nat → Nat) × (Nat → Nat → Nat) × (Nat → Nat → Int) × (Nat → Nat → Int → Int)) (dn dm : Nat) => match u with | (q, r', n', z', F', Er', En', Ez', EF') => xR [] [] [] [] N z F En Ez EF n' z' F' En' Ez' EF' ∧ (dn + xg n' ≤ xg n + 0 ∧ dm + xp n' ≤ xp n + 0) ∧ ((0 ≤ p0 ∧ p0 < z 10) ∧ q = pt_u (F 10 p0))) (fun u t => kx_At dC dI (va_A (xU cI cB cE o r n z F G (Eo 0 0) ++ eP cI N Eo Er En Ez EF) sz) ((fun u : (Int) × (Nat → Nat) × (Nat → Nat) × (Nat → Int) × (Nat → Int → Int) × (Nat → Nat → Nat) × (Nat → Nat → Nat) × (Nat → Nat → Int) × (Nat → Nat → Int → Int) => match u with | (q, r', n', z', F', Er', En', Ez', EF') => (xU cI cB cE o r' n' z' F' G (Eo 0 0) ++ eP cI N Eo Er' En' Ez' EF')) u) (xT cI cB cE) t) (va_A (xU cI cB cE o r n z F G (Eo 0 0) ++ eP cI N Eo Er En Ez EF) sz)) (yX (fun E => (E = "java/lang/ArrayIndexOutOfBoundsException" ∧ (¬ (0 ≤ p0 ∧ p0 < z 10)))) 1 6 (fun t => ∃ u : (Nat → Nat) × (Nat → Nat) × (Nat → Int) × (Nat → Int → Int) × (Nat → Nat → Nat) × (Nat → Nat → Nat) × (Nat → Nat → Int) × (Nat → Nat → Int → Int), match u with | (r', n', z', F', Er', En', Ez', EF') => xR [] [] [] [] N z F En Ez EF n' z' F' En' Ez' EF' ∧ kx_At dC dI (va_A (xU cI cB cE o r n z F G (Eo 0 0) ++ eP cI N Eo Er En Ez EF) sz) (xU cI cB cE o r' n' z' F' G (Eo 0 0) ++ eP cI N Eo Er' En' Ez' EF') (xT cI cB cE) t) (va_A (xU cI cB cE o r n z F G (Eo 0 0) ++ eP cI N Eo Er En Ez EF) sz)) 100 42000 (va_A (xU cI cB cE o r n z F G (Eo 0 0) ++ eP cI N Eo Er En Ez EF) sz) := by
  refine vx_ofW (cc := cX5_at) (maxL := 2) (ret := (some .int)) (by decide) rfl ?_
  intro p e s m args below meth c s₁ B hml htab hv
  obtain ⟨rfl, hsz, hP, hK, hD0, hG, hZ⟩ := hv
  have hx := B.exec
  have hb := B.bytes
  have hr := B.returns
  have hts := kx_hts (a := ([.ref (o 15), .int (iz p0)] : List Value).toArray) hG
  have hown : s.vm.findClass RX5 = some m.cls := findClass_of_methodNamed B.named
  have hlocks := B.notSynchronized
  subst hsz
  have hD := hD0.self (sz := s.heap.size)
  generalize hAe : va_A (xU cI cB cE o r n z F G (Eo 0 0) ++ eP cI N Eo Er En Ez EF) s.heap.size = A at hD hZ ⊢
  have hA : ∀ q : Nat, s.heap.size ≤ q → A q := fun q h => by rw [← hAe]; exact Or.inr h
  have hS : va_S A s.heap s.heap [] := va_S.rf
  have hl := lv_entry ([.ref (o 15), .int (iz p0)]) (n := 2) (Nat.le_of_ble_eq_true rfl)
  rw [lg_entry_eq]
  generalize (lg_sl ([.ref (o 15), .int (iz p0)]) ++ List.replicate (2 - (lg_sl ([.ref (o 15), .int (iz p0)])).length) Slot.unset).toArray = ls at hl ⊢
  obtain ⟨hN1, hN2, hN3, hN4⟩ := hxG
  have hef : eFr [] [] En Ez EF En Ez EF := eFr.rf
  have hfr : xFr [] [] z F z F := xFr.rf
  have hxgl := xg_le n
  have hxpl := xp_le n
  have hl : lv_has ls 2 [(0, .ref (o 15)), (1, .int (iz p0))] := hl
  refine lv_iload_n hx hb dX5_at_0 rfl (lv_at hl 1 rfl) ?_
  refine ki_if_lt (tgt := 15) hx hb dX5_at_1 (by decide) (by omega) (by omega) (fun c_1 => ?_) (fun c_1 => ?_)
  · skip
    exact ky_thr_AOB hx hb hlf hown hG hZ hS (hl.1.trans hml.symm) dX5_at_15 dX5_at_18 dX5_at_19 dX5_at_22 htab (Nat.le_of_ble_eq_true rfl) (Nat.le_of_ble_eq_true rfl) (show 0 + 1 ≤ 100 from (by omega)) (show 0 + 6 ≤ 42000 from (by omega)) hlocks (⟨rfl, by first | trivial | omega⟩) (fun t hvm h1 h2 => ⟨(r, n, z, F, Er, En, Ez, EF), ⟨hok, hfr, hPE, hef⟩, hP.kept (fun k q hk => h2 q.1 (hP k q hk).lt), va_K.moved hvm hK, hD⟩) hS.2.2 (by omega) (by omega) (by omega) (by omega)
  · skip
    refine lv_iload_n hx hb dX5_at_4 rfl (lv_at hl 1 rfl) ?_
    refine lv_aload_n hx hb dX5_at_5 rfl (lv_at hl 0 rfl) ?_
    refine va_get (D := (dC, dI)) (ci := 5) (v := .ref (o 10)) (C := RX5) (T := TX5) (N := 16) hx hb hts kt_X5 hown hK hP 0 rfl rfl 14 (by decide) (kx_word hG kq_21_xcalls_57 rfl) (fun _ h9 => h9) rfl dX5_at_6 ?_
    have hxp_2 : 0 ≤ z 10 ∧ z 10 ≤ ((n 10 : Nat) : Int) ∧ (n 10 = 0 ∨ n 10 = 6000) := hok.2.1 10 (by decide)
    have hxz_3 : -2147483648 ≤ z 22 ∧ z 22 < 2147483648 := hok.2.2.2.1 22
    have hxb_4 : z 22 = 0 ∨ z 22 = 1 := hok.2.2.2.2 22 (by decide)
    have hPc := hP.sub (ws' := (pU cB (o 10) (r 10) (n 10) (z 10) (z 22) (F 10))) [25, 26] rfl
    refine xk_pure (va_runV (As := []) (rest := [.int (iz p0)]) ⟨hx, hb, hml, hown, hts⟩ (x_psize l dC dI cI cB cE (o 10) (r 10) (n 10) (z 10) (z 22) (F 10)  s.heap.size ) (cwV 0 hts (kx_gV kq_21_xcalls_58 kq_21_xcalls_59 kq_21_xcalls_60 kq_15_xspan_17 kq_21_xcalls_61 rfl) rfl rfl rfl (by decide +kernel) ⟨Nat.le_of_ble_eq_true rfl, Nat.le_of_ble_eq_true rfl⟩) ⟨pPre_blind, va_recv hK hPc (ci := 2) (q0 := 0) rfl rfl, pPre_give hPc hK hG⟩ rfl rfl hl.1 rfl (lv_room (Nat.le_of_ble_eq_true rfl)) dX5_at_9 ⟨show 0 + 0 ≤ 100 from (by omega), show 0 + 0 ≤ 42000 from (by omega)⟩) hS (fun z_6 locs hq_5 hS => ?_)
    refine W.eq (g2 := F0 m 12 ls [.int (iz z_6), .int (iz p0)]) rfl ?_
    try dsimp only at hq_5
    have hq_5 := hq_5.symm
    subst hq_5
    refine ki_icmp_lt (tgt := 23) hx hb dX5_at_12 (by decide) (by omega) (by omega) (by omega) (by omega) (fun c_7 => ?_) (fun c_7 => ?_)
    · skip
      refine lv_aload_n hx hb dX5_at_23 rfl (lv_at hl 0 rfl) ?_
      refine va_get (D := (dC, dI)) (ci := 5) (v := .ref (o 10)) (C := RX5) (T := TX5) (N := 16) hx hb hts kt_X5 hown hK hP 0 rfl rfl 14 (by decide) (kx_word hG kq_21_xcalls_57 rfl) (fun _ h9 => h9) rfl dX5_at_24 ?_
      refine lv_iload_n hx hb dX5_at_27 rfl (lv_at hl 1 rfl) ?_
      have hPc := hP.sub (ws' := (pU cB (o 10) (r 10) (n 10) (z 10) (z 22) (F 10))) [25, 26] rfl
      refine xk_pure (va_runV (As := [.int (iz p0)]) (rest := []) ⟨hx, hb, hml, hown, hts⟩ (x_pget2 l dC dI cI cB cE (o 10) (r 10) (n 10) (z 10) (z 22) (F 10) p0 s.heap.size (by omega) (by omega) (hok.2.2.1 10) (by omega) (by omega)) (cwV 1 hts (kx_gV kq_21_xcalls_62 kq_21_xcalls_63 kq_21_xcalls_64 kq_15_xspan_17 kq_21_xcalls_65 rfl) rfl rfl rfl (by decide +kernel) ⟨Nat.le_of_ble_eq_true rfl, Nat.le_of_ble_eq_true rfl⟩) ⟨pPre_blind, va_recv hK hPc (ci := 2) (q0 := 0) rfl rfl, pPre_give hPc hK hG⟩ rfl rfl hl.1 rfl (lv_room (Nat.le_of_ble_eq_true rfl)) dX5_at_28 ⟨show 0 + 0 ≤ 100 from (by omega), show 0 + 0 ≤ 42000 from (by omega)⟩) hS (fun z_9 locs hq_8 hS => ?_)
      refine W.eq (g2 := F0 m 31 ls [.int (iz z_9)]) rfl ?_
      try dsimp only at hq_8
      refine vx_ret ?_
      exact xk_iret (ov := (fun u : (Int) × (Nat → Nat) × (Nat → Nat) × (Nat → Int) × (Nat → Int → Int) × (Nat → Nat → Nat) × (Nat → Nat → Nat) × (Nat → Nat → Int) × (Nat → Nat → Int → Int) => match u with | (q, r', n', z', F', Er', En', Ez', EF') => some (.int (iz q)))) (post := (fun (u : (Int) × (Nat → Nat) × (Nat → Nat) × (Nat → Int) × (Nat → Int → Int) × (Nat → Nat → Nat) × (Nat → Nat → Nat) × (Nat → Nat → Int) × (Nat → Nat → Int → Int)) (dn dm : Nat) => match u with | (q, r', n', z', F', Er', En', Ez', EF') => xR [] [] [] [] N z F En Ez EF n' z' F' En' Ez' EF' ∧ (dn + xg n' ≤ xg n + 0 ∧ dm + xp n' ≤ xp n + 0) ∧ ((0 ≤ p0 ∧ p0 < z 10) ∧ q = pt_u (F 10 p0)))) (ws := (fun u : (Int) × (Nat → Nat) × (Nat → Nat) × (Nat → Int) × (Nat → Int → Int) × (Nat → Nat → Nat) × (Nat → Nat → Nat) × (Nat → Nat → Int) × (Nat → Nat → Int → Int) => match u with | (q, r', n', z', F', Er', En', Ez', EF') => (xU cI cB cE o r' n' z' F' G (Eo 0 0) ++ eP cI N Eo Er' En' Ez' EF'))) (tys := xT cI cB cE) (z := z_9) (z_9, r, n, z, F, Er, En, Ez, EF) hx hb hr rfl hlocks rfl hP hD hK hS dX5_at_31 (fun dn dm hdn hdm => ⟨⟨hok, hfr, hPE, hef⟩, ⟨by omega, by omega⟩, ⟨by omega, (by rcases hq_8 with h9 | h9; exact h9.2; exact absurd (show 0 ≤ p0 ∧ p0 < z 10 by omega) h9.1)⟩⟩) (by omega) (by omega)
    · skip
      exact ky_thr_AOB hx hb hlf hown hG hZ hS (hl.1.trans hml.symm) dX5_at_15 dX5_at_18 dX5_at_19 dX5_at_22 htab (Nat.le_of_ble_eq_true rfl) (Nat.le_of_ble_eq_true rfl) (show 0 + 1 ≤ 100 from (by omega)) (show 0 + 6 ≤ 42000 from (by omega)) hlocks (⟨rfl, by first | trivial | omega⟩) (fun t hvm h1 h2 => ⟨(r, n, z, F, Er, En, Ez, EF), ⟨hok, hfr, hPE, hef⟩, hP.kept (fun k q hk => h2 q.1 (hP k q hk).lt), va_K.moved hvm hK, hD⟩) hS.2.2 (by omega) (by omega) (by omega) (by omega)
set_option maxHeartbeats 4000000 in
set_option maxRecDepth 100000 in
theorem y_style7 (l : Launch) (hlf : l.stackTraces = false) (dC : Nat → ClassId) (dI : Nat → Nat → Nat) (cI cB cE : ClassId) (o r n : Nat → Nat) (z : Nat → Int) (F : Nat → Int → Int) (G : Nat → Option Nat) (N : Nat) (Eo Er En : Nat → Nat → Nat) (Ez : Nat → Nat → Int) (EF : Nat → Nat → Int → Int) (p0 : Int) (sz : Nat) (hok : xOk n z F) (hxG : xG N (z 12) G Eo) (hPE : eA N En Ez EF) (hp01 : -2147483648 ≤ p0) (hp02 : p0 < 2147483648) : vx_Met l yX5_style [.code yX5_style cX5_style 2 (some .int)] ({ frames := 7, cells := 100, slots := 45000, locals := 103 }) (va_Pc [.ref (o 15), .int (iz p0)] (kx_Pre dC dI (xU cI cB cE o r n z F G (Eo 0 0) ++ eP cI N Eo Er En Ez EF) (xT cI cB cE) sz)) (xQ (fun u : (Int) × (Nat → Nat) × (Nat → Nat) × (Nat → Int) × (Nat → Int → Int) × (Nat → Nat → Nat) × (Nat → Nat → Nat) × (Nat → Nat → Int) × (Nat → Nat → Int → Int) => match u with | (q, r', n', z', F', Er', En', Ez', EF') => some (.int (iz q))) (fun (u : (Int) × (Nat → Nat) × (Nat → Nat) × (Nat → Int) × (Nat → Int → Int) × (Nat → Nat → Nat) × (Nat → Nat → Nat) × (Nat → Nat → Int) × (Nat → Nat → Int → Int)) (dn dm : Nat) => match u with | (q, r', n', z', F', Er', En', Ez', EF') => xR [3] [3] [] [] N z F En Ez EF n' z' F' En' Ez' EF' ∧ (dn + xg n' ≤ xg n + 0 ∧ dm + xp n' ≤ xp n + 0) ∧ (((0 ≤ p0 ∧ p0 ≤ 127) ∧ ((p0 = 0 ∧ q = 0 ∧ z' 3 = 0) ∨ (0 < p0 ∧ q = z 3 + 1 ∧ z' 3 = z 3 + 1))) ∧ (0 < p0 → F' 3 (z 3) = p0 ∧ ∀ i, 0 ≤ i → i < z 3 → F' 3 i = F 3 i))) (fun u t => kx_At dC dI (va_A (xU cI cB cE o r n z F G (Eo 0 0) ++ eP cI N Eo Er En Ez EF) sz) ((fun u : (Int) × (Nat → Nat) × (Nat → Nat) × (Nat → Int) × (Nat → Int → Int) × (Nat → Nat → Nat) × (Nat → Nat → Nat) × (Nat → Nat → Int) × (Nat → Nat → Int → Int) => match u with | (q, r', n', z', F', Er', En', Ez', EF') => (xU cI cB cE o r' n' z' F' G (Eo 0 0) ++ eP cI N Eo Er' En' Ez' EF')) u) (xT cI cB cE) t) (va_A (xU cI cB cE o r n z F G (Eo 0 0) ++ eP cI N Eo Er En Ez EF) sz)) (yX (fun E => (E = "java/lang/IllegalArgumentException" ∧ (p0 < 0 ∨ 127 < p0)) ∨ (E = "java/lang/UnsupportedOperationException" ∧ (80 ≤ z 3))) 1 6 (fun t => ∃ u : (Nat → Nat) × (Nat → Nat) × (Nat → Int) × (Nat → Int → Int) × (Nat → Nat → Nat) × (Nat → Nat → Nat) × (Nat → Nat → Int) × (Nat → Nat → Int → Int), match u with | (r', n', z', F', Er', En', Ez', EF') => xR [] [] [] [] N z F En Ez EF n' z' F' En' Ez' EF' ∧ kx_At dC dI (va_A (xU cI cB cE o r n z F G (Eo 0 0) ++ eP cI N Eo Er En Ez EF) sz) (xU cI cB cE o r' n' z' F' G (Eo 0 0) ++ eP cI N Eo Er' En' Ez' EF') (xT cI cB cE) t) (va_A (xU cI cB cE o r n z F G (Eo 0 0) ++ eP cI N Eo Er En Ez EF) sz)) 100 45000 (va_A (xU cI cB cE o r n z F G (Eo 0 0) ++ eP cI N Eo Er En Ez EF) sz) := by
  refine vx_ofW (cc := cX5_style) (maxL := 2) (ret := (some .int)) (by decide) rfl ?_
  intro p e s m args below meth c s₁ B hml htab hv
  obtain ⟨rfl, hsz, hP, hK, hD0, hG, hZ⟩ := hv
  have hx := B.exec
  have hb := B.bytes
  have hr := B.returns
  have hts := kx_hts (a := ([.ref (o 15), .int (iz p0)] : List Value).toArray) hG
  have hown : s.vm.findClass RX5 = some m.cls := findClass_of_methodNamed B.named
  have hlocks := B.notSynchronized
  subst hsz
  have hD := hD0.self (sz := s.heap.size)
  generalize hAe : va_A (xU cI cB cE o r n z F G (Eo 0 0) ++ eP cI N Eo Er En Ez EF) s.heap.size = A at hD hZ ⊢
  have hA : ∀ q : Nat, s.heap.size ≤ q → A q := fun q h => by rw [← hAe]; exact Or.inr h
  have hS : va_S A s.heap s.heap [] := va_S.rf
  have hl := lv_entry ([.ref (o 15), .int (iz p0)]) (n := 2) (Nat.le_of_ble_eq_true rfl)
  rw [lg_entry_eq]
  generalize (lg_sl ([.ref (o 15), .int (iz p0)]) ++ List.replicate (2 - (lg_sl ([.ref (o 15), .int (iz p0)])).length) Slot.unset).toArray = ls at hl ⊢
  obtain ⟨hN1, hN2, hN3, hN4⟩ := hxG
  have hef : eFr [] [] En Ez EF En Ez EF := eFr.rf
  have hfr : xFr [3] [3] z F z F := xFr.rf
  have hxgl := xg_le n
  have hxpl := xp_le n
  have hl : lv_has ls 2 [(0, .ref (o 15)), (1, .int (iz p0))] := hl
  refine lv_iload_n hx hb dX5_style_0 rfl (lv_at hl 1 rfl) ?_
  refine ki_if_lt (tgt := 10) hx hb dX5_style_1 (by decide) (by omega) (by omega) (fun c_1 => ?_) (fun c_1 => ?_)
  · skip
    exact ky_thr_IAE hx hb hlf hown hG hZ hS (hl.1.trans hml.symm) dX5_style_10 dX5_style_13 dX5_style_14 dX5_style_17 htab (Nat.le_of_ble_eq_true rfl) (Nat.le_of_ble_eq_true rfl) (show 0 + 1 ≤ 100 from (by omega)) (show 0 + 6 ≤ 45000 from (by omega)) hlocks (Or.inl ⟨rfl, by first | trivial | omega⟩) (fun t hvm h1 h2 => ⟨(r, n, z, F, Er, En, Ez, EF), ⟨hok, xFr.rf, hPE, eFr.rf⟩, hP.kept (fun k q hk => h2 q.1 (hP k q hk).lt), va_K.moved hvm hK, hD⟩) hS.2.2 (by omega) (by omega) (by omega) (by omega)
  · skip
    refine lv_iload_n hx hb dX5_style_4 rfl (lv_at hl 1 rfl) ?_
    refine lv_bipush (v := iz 127) hx hb dX5_style_5 (by decide) ?_
    refine ki_icmp_le (tgt := 18) hx hb dX5_style_7 (by decide) (by omega) (by omega) (by omega) (by omega) (fun c_2 => ?_) (fun c_2 => ?_)
    · skip
      refine lv_iload_n hx hb dX5_style_18 rfl (lv_at hl 1 rfl) ?_
      refine ki_if_ne (tgt := 31) hx hb dX5_style_19 (by decide) (by omega) (by omega) (fun c_3 => ?_) (fun c_3 => ?_)
      · skip
        refine lv_aload_n hx hb dX5_style_31 rfl (lv_at hl 0 rfl) ?_
        refine va_get (D := (dC, dI)) (ci := 5) (v := .ref (o 3)) (C := RX5) (T := TX5) (N := 16) hx hb hts kt_X5 hown hK hP 0 rfl rfl 13 (by decide) (kx_word hG kq_19_xouts_56 rfl) (fun _ h9 => h9) rfl dX5_style_32 ?_
        have hxi_4 : 0 ≤ z 3 ∧ z 3 ≤ ((n 3 : Nat) : Int) ∧ ((n 3 : Nat) : Int) ≤ 80 := hok.1 3 (by decide)
        have hPc := hP.sub (ws' := (iU cI 80 (o 3) (r 3) (n 3) (z 3) (F 3))) [8, 9] rfl
        refine xk_pure (va_runV (As := []) (rest := []) ⟨hx, hb, hml, hown, hts⟩ (x_isFull l dC dI cI cB cE 80 (o 3) (r 3) (n 3) (z 3) (F 3)  s.heap.size (by omega)) (cwV 0 hts (kx_gV kq_21_xcalls_1 kq_15_xspan_35 kq_15_xspan_36 kq_13_xints_6 kq_15_xspan_37 rfl) rfl rfl rfl (by decide +kernel) ⟨Nat.le_of_ble_eq_true rfl, Nat.le_of_ble_eq_true rfl⟩) ⟨pPre_blind, va_recv hK hPc (ci := 1) (q0 := 0) rfl rfl, pPre_give hPc hK hG⟩ rfl rfl hl.1 rfl (lv_room (Nat.le_of_ble_eq_true rfl)) dX5_style_35 ⟨show 0 + 0 ≤ 100 from (by omega), show 0 + 0 ≤ 45000 from (by omega)⟩) hS (fun z_6 locs hq_5 hS => ?_)
        refine W.eq (g2 := F0 m 38 ls [.int (iz z_6)]) rfl ?_
        try dsimp only at hq_5
        rcases hq_5 with ⟨rfl, hq_5⟩ | ⟨rfl, hq_5⟩
        · skip
          refine ki_if_eq (tgt := 49) hx hb dX5_style_38 (by decide) (by omega) (by omega) (fun c_7 => ?_) (fun c_7 => ?_)
          · omega
          · skip
            exact ky_thr_UOE hx hb hlf hown hG hZ hS (hl.1.trans hml.symm) dX5_style_41 dX5_style_44 dX5_style_45 dX5_style_48 htab (Nat.le_of_ble_eq_true rfl) (Nat.le_of_ble_eq_true rfl) (show 0 + 1 ≤ 100 from (by omega)) (show 0 + 6 ≤ 45000 from (by omega)) hlocks (Or.inr (⟨rfl, by first | trivial | omega⟩)) (fun t hvm h1 h2 => ⟨(r, n, z, F, Er, En, Ez, EF), ⟨hok, xFr.rf, hPE, eFr.rf⟩, hP.kept (fun k q hk => h2 q.1 (hP k q hk).lt), va_K.moved hvm hK, hD⟩) hS.2.2 (by omega) (by omega) (by omega) (by omega)
        · skip
          refine ki_if_eq (tgt := 49) hx hb dX5_style_38 (by decide) (by omega) (by omega) (fun c_8 => ?_) (fun c_8 => ?_)
          · skip
            refine lv_aload_n hx hb dX5_style_49 rfl (lv_at hl 0 rfl) ?_
            refine va_get (D := (dC, dI)) (ci := 5) (v := .ref (o 3)) (C := RX5) (T := TX5) (N := 16) hx hb hts kt_X5 hown hK hP 0 rfl rfl 13 (by decide) (kx_word hG kq_19_xouts_56 rfl) (fun _ h9 => h9) rfl dX5_style_50 ?_
            refine lv_iload_n hx hb dX5_style_53 rfl (lv_at hl 1 rfl) ?_
            have hPc := hP.sub (ws' := (iU cI 80 (o 3) (r 3) (n 3) (z 3) (F 3))) [8, 9] rfl
            have hDc := hD.sub (ws' := (iU cI 80 (o 3) (r 3) (n 3) (z 3) (F 3))) [8, 9] (by decide) rfl
            have hFc := va_free (wc := (iU cI 80 (o 3) (r 3) (n 3) (z 3) (F 3))) hD hS hA [8, 9] rfl
            refine xk_call (va_runV (As := [.int (iz p0)]) (rest := []) ⟨hx, hb, hml, hown, hts⟩ (x_add l dC dI cI cB cE 80 (o 3) (r 3) (n 3) (z 3) (F 3) p0 s.heap.size (by omega) (hok.2.2.1 3) (by omega) (by omega)) (cwV 1 hts (kx_gV kq_18_xrows_39 kq_15_xspan_46 kq_15_xspan_47 kq_13_xints_6 kq_15_xspan_48 rfl) rfl rfl rfl (by decide +kernel) ⟨Nat.le_of_ble_eq_true rfl, Nat.le_of_ble_eq_true rfl⟩) ⟨kx_blind, va_recv hK hPc (ci := 1) (q0 := 0) rfl rfl, kx_give (ws := []) (tys := []) hPc hDc hK hG hZ hS hFc⟩ rfl rfl hl.1 rfl (lv_room (Nat.le_of_ble_eq_true rfl)) dX5_style_54 ⟨show 0 + 1 ≤ 100 from (by omega), show 0 + 1600 ≤ 45000 from (by omega)⟩) hS (fun q _ h => hFc q h) hFc (fun u dn_10 dm_11 t H locs ht hvm hq_9 hB hk1 hS => ?_)
            obtain ⟨r_12, n_13, z_14, F_15⟩ := u
            obtain ⟨hP1, hK1, hD1⟩ := hB
            rw [ht] at hP1
            obtain ⟨hP, hD⟩ := xj_pool (wr := [(o 15, .inr (5, [.ref (o 16), .ref (Eo 0 0), .int (iz (z 12)), .int (iz (z 13)), .int (iz (z 14)), .ref (o 0), .ref (o 1), .int (iz (z 15)), .ref (o 13), .ref (o 14), .int (iz (z 16)), .ref (o 2), .ref (o 12), .ref (o 3), .ref (o 10), .ref (o 11)])), (o 16, .inl (cE, 80, .inr (.inr (.inr (.inr G))))), (o 0, .inr (1, [.int (iz 80), .ref (r 0), .int (iz (z 0))])), (r 0, .inl (cI, n 0, .inl (iA (F 0)))), (o 1, .inr (1, [.int (iz 80), .ref (r 1), .int (iz (z 1))])), (r 1, .inl (cI, n 1, .inl (iA (F 1)))), (o 2, .inr (1, [.int (iz 80), .ref (r 2), .int (iz (z 2))])), (r 2, .inl (cI, n 2, .inl (iA (F 2)))), (o 13, .inr (3, [.ref (o 4), .ref (o 5), .ref (o 6)])), (o 4, .inr (1, [.int (iz 1600), .ref (r 4), .int (iz (z 4))])), (r 4, .inl (cI, n 4, .inl (iA (F 4)))), (o 5, .inr (1, [.int (iz 1600), .ref (r 5), .int (iz (z 5))])), (r 5, .inl (cI, n 5, .inl (iA (F 5)))), (o 6, .inr (1, [.int (iz 1600), .ref (r 6), .int (iz (z 6))])), (r 6, .inl (cI, n 6, .inl (iA (F 6)))), (o 14, .inr (3, [.ref (o 7), .ref (o 8), .ref (o 9)])), (o 7, .inr (1, [.int (iz 1600), .ref (r 7), .int (iz (z 7))])), (r 7, .inl (cI, n 7, .inl (iA (F 7)))), (o 8, .inr (1, [.int (iz 1600), .ref (r 8), .int (iz (z 8))])), (r 8, .inl (cI, n 8, .inl (iA (F 8)))), (o 9, .inr (1, [.int (iz 1600), .ref (r 9), .int (iz (z 9))])), (r 9, .inl (cI, n 9, .inl (iA (F 9)))), (o 12, .inr (4, [.int (iz (z 17)), .int (iz (z 18)), .int (iz (z 19)), .int (iz (z 20)), .int (iz (z 21))])), (o 10, .inr (2, [.ref (r 10), .int (iz (z 10)), .int (iz (z 22))])), (r 10, .inl (cB, n 10, .inl (iA (F 10)))), (o 11, .inr (2, [.ref (r 11), .int (iz (z 11)), .int (iz (z 23))])), (r 11, .inl (cB, n 11, .inl (iA (F 11))))]) (w1 := (iU cI 80 (o 3) r_12 n_13 z_14 F_15)) (ws' := (xU cI cB cE o (va_up r 3 r_12) (va_up n 3 n_13) (va_up z 3 z_14) (va_up F 3 F_15) G (Eo 0 0))) hP hD [8, 9] [0, 1, 2, 3, 4, 5, 6, 7, 10, 11, 12, 13, 14, 15, 16, 17, 18, 19, 20, 21, 22, 23, 24, 25, 26, 27, 28] [0, 1, 2, 3, 4, 5, 6, 7, 27, 28, 8, 9, 10, 11, 12, 13, 14, 15, 16, 17, 18, 19, 20, 21, 22, 23, 24, 25, 26] rfl rfl (by decide) (by decide) hk1 hFc hP1 hD1 rfl (by decide)
            refine W.eq (g2 := F0 m 57 ls []) rfl ?_
            try dsimp only at hq_9
            obtain ⟨ha16, hb16, hc16, hd16⟩ := hq_9
            have hax16 := hd16.1
            refine lv_aload_n hx hb dX5_style_57 rfl (lv_at hl 0 rfl) ?_
            refine va_get (D := (dC, dI)) (ci := 5) (v := .ref (o 3)) (C := RX5) (T := TX5) (N := 16) hx hb hts kt_X5 hown hK hP 0 rfl rfl 13 (by decide) (kx_word hG kq_19_xouts_56 rfl) (fun _ h9 => h9) rfl dX5_style_58 ?_
            have hPc := hP.sub (ws' := (iU cI 80 (o 3) r_12 n_13 z_14 F_15)) [8, 9] rfl
            refine xk_pure (va_runV (As := []) (rest := []) ⟨hx, hb, hml, hown, hts⟩ (x_size l dC dI cI cB cE 80 (o 3) r_12 n_13 z_14 F_15  H.size ) (cwV 0 hts (kx_gV kq_18_xrows_40 kq_15_xspan_10 kq_15_xspan_11 kq_13_xints_6 kq_15_xspan_12 rfl) rfl rfl rfl (by decide +kernel) ⟨Nat.le_of_ble_eq_true rfl, Nat.le_of_ble_eq_true rfl⟩) ⟨pPre_blind, va_recv hK hPc (ci := 1) (q0 := 0) rfl rfl, pPre_give hPc hK hG⟩ rfl rfl hl.1 rfl (lv_room (Nat.le_of_ble_eq_true rfl)) dX5_style_61 ⟨show (0 + dn_10) + 0 ≤ 100 from (by omega), show (0 + dm_11) + 0 ≤ 45000 from (by omega)⟩) hS (fun z_18 locs hq_17 hS => ?_)
            refine W.eq (g2 := F0 m 64 ls [.int (iz z_18)]) rfl ?_
            try dsimp only at hq_17
            have hq_17 := hq_17.symm
            subst hq_17
            have hok19 : xOk (va_up n 3 n_13) (va_up z 3 z_14) (va_up F 3 F_15) := (hok.i 3 (by decide) (show 0 ≤ z_14 ∧ z_14 ≤ ((n_13 : Nat) : Int) ∧ ((n_13 : Nat) : Int) ≤ 80 by omega) hb16)
            have hfr19 : xFr [3] [3] z F (va_up z 3 z_14) (va_up F 3 F_15) := ((hfr.uz 3 (by decide) _).uf 3 (by decide) _)
            have hcg19 : (dn_10) + xg (va_up n 3 n_13) ≤ xg n := by unfold xg; simp (decide := true) only [va_ev, ↓reduceIte]; omega
            have hcp19 : (dm_11) + xp (va_up n 3 n_13) ≤ xp n := by unfold xp; simp (decide := true) only [va_ev, ↓reduceIte]; omega
            have hzo3 : (va_up z 3 z_14) 3 = z_14 := rfl
            refine vx_ret ?_
            exact xk_iret (ov := (fun u : (Int) × (Nat → Nat) × (Nat → Nat) × (Nat → Int) × (Nat → Int → Int) × (Nat → Nat → Nat) × (Nat → Nat → Nat) × (Nat → Nat → Int) × (Nat → Nat → Int → Int) => match u with | (q, r', n', z', F', Er', En', Ez', EF') => some (.int (iz q)))) (post := (fun (u : (Int) × (Nat → Nat) × (Nat → Nat) × (Nat → Int) × (Nat → Int → Int) × (Nat → Nat → Nat) × (Nat → Nat → Nat) × (Nat → Nat → Int) × (Nat → Nat → Int → Int)) (dn dm : Nat) => match u with | (q, r', n', z', F', Er', En', Ez', EF') => xR [3] [3] [] [] N z F En Ez EF n' z' F' En' Ez' EF' ∧ (dn + xg n' ≤ xg n + 0 ∧ dm + xp n' ≤ xp n + 0) ∧ (((0 ≤ p0 ∧ p0 ≤ 127) ∧ ((p0 = 0 ∧ q = 0 ∧ z' 3 = 0) ∨ (0 < p0 ∧ q = z 3 + 1 ∧ z' 3 = z 3 + 1))) ∧ (0 < p0 → F' 3 (z 3) = p0 ∧ ∀ i, 0 ≤ i → i < z 3 → F' 3 i = F 3 i)))) (ws := (fun u : (Int) × (Nat → Nat) × (Nat → Nat) × (Nat → Int) × (Nat → Int → Int) × (Nat → Nat → Nat) × (Nat → Nat → Nat) × (Nat → Nat → Int) × (Nat → Nat → Int → Int) => match u with | (q, r', n', z', F', Er', En', Ez', EF') => (xU cI cB cE o r' n' z' F' G (Eo 0 0) ++ eP cI N Eo Er' En' Ez' EF'))) (tys := xT cI cB cE) (z := z_14) (z_14, (va_up r 3 r_12), (va_up n 3 n_13), (va_up z 3 z_14), (va_up F 3 F_15), Er, En, Ez, EF) hx hb hr rfl hlocks rfl hP hD hK hS dX5_style_64 (fun dn dm hdn hdm => ⟨⟨hok19, hfr19, hPE, hef⟩, ⟨by omega, by omega⟩, ⟨⟨by omega, by omega⟩, fun _ => ⟨(by rcases hd16.1 with h9 | h9; exact absurd h9.1 (by omega); exact h9.2.2), hd16.2⟩⟩⟩) (by omega) (by omega)
          · omega
      · skip
        refine lv_aload_n hx hb dX5_style_22 rfl (lv_at hl 0 rfl) ?_
        refine va_get (D := (dC, dI)) (ci := 5) (v := .ref (o 3)) (C := RX5) (T := TX5) (N := 16) hx hb hts kt_X5 hown hK hP 0 rfl rfl 13 (by decide) (kx_word hG kq_19_xouts_56 rfl) (fun _ h9 => h9) rfl dX5_style_23 ?_
        have hxi_20 : 0 ≤ z 3 ∧ z 3 ≤ ((n 3 : Nat) : Int) ∧ ((n 3 : Nat) : Int) ≤ 80 := hok.1 3 (by decide)
        have hPc := hP.sub (ws' := (iU cI 80 (o 3) (r 3) (n 3) (z 3) (F 3))) [8, 9] rfl
        have hDc := hD.sub (ws' := (iU cI 80 (o 3) (r 3) (n 3) (z 3) (F 3))) [8, 9] (by decide) rfl
        have hFc := va_free (wc := (iU cI 80 (o 3) (r 3) (n 3) (z 3) (F 3))) hD hS hA [8, 9] rfl
        refine xk_call (va_runV (As := []) (rest := []) ⟨hx, hb, hml, hown, hts⟩ (x_clear l dC dI cI cB cE 80 (o 3) (r 3) (n 3) (z 3) (F 3)  s.heap.size ) (cwV 0 hts (kx_gV kq_18_xrows_38 kq_15_xspan_42 kq_15_xspan_43 kq_13_xints_6 kq_15_xspan_44 rfl) rfl rfl rfl (by decide +kernel) ⟨Nat.le_of_ble_eq_true rfl, Nat.le_of_ble_eq_true rfl⟩) ⟨kx_blind, va_recv hK hPc (ci := 1) (q0 := 0) rfl rfl, kx_give (ws := []) (tys := []) hPc hDc hK hG hZ hS hFc⟩ rfl rfl hl.1 rfl (lv_room (Nat.le_of_ble_eq_true rfl)) dX5_style_26 ⟨show 0 + 0 ≤ 100 from (by omega), show 0 + 0 ≤ 45000 from (by omega)⟩) hS (fun q _ h => hFc q h) hFc (fun u dn_22 dm_23 t H locs ht hvm hq_21 hB hk1 hS => ?_)
        obtain ⟨z_24, rfl⟩ : ∃ z, z = u := ⟨_, rfl⟩
        obtain ⟨hP1, hK1, hD1⟩ := hB
        rw [ht] at hP1
        obtain ⟨hP, hD⟩ := xj_pool (wr := [(o 15, .inr (5, [.ref (o 16), .ref (Eo 0 0), .int (iz (z 12)), .int (iz (z 13)), .int (iz (z 14)), .ref (o 0), .ref (o 1), .int (iz (z 15)), .ref (o 13), .ref (o 14), .int (iz (z 16)), .ref (o 2), .ref (o 12), .ref (o 3), .ref (o 10), .ref (o 11)])), (o 16, .inl (cE, 80, .inr (.inr (.inr (.inr G))))), (o 0, .inr (1, [.int (iz 80), .ref (r 0), .int (iz (z 0))])), (r 0, .inl (cI, n 0, .inl (iA (F 0)))), (o 1, .inr (1, [.int (iz 80), .ref (r 1), .int (iz (z 1))])), (r 1, .inl (cI, n 1, .inl (iA (F 1)))), (o 2, .inr (1, [.int (iz 80), .ref (r 2), .int (iz (z 2))])), (r 2, .inl (cI, n 2, .inl (iA (F 2)))), (o 13, .inr (3, [.ref (o 4), .ref (o 5), .ref (o 6)])), (o 4, .inr (1, [.int (iz 1600), .ref (r 4), .int (iz (z 4))])), (r 4, .inl (cI, n 4, .inl (iA (F 4)))), (o 5, .inr (1, [.int (iz 1600), .ref (r 5), .int (iz (z 5))])), (r 5, .inl (cI, n 5, .inl (iA (F 5)))), (o 6, .inr (1, [.int (iz 1600), .ref (r 6), .int (iz (z 6))])), (r 6, .inl (cI, n 6, .inl (iA (F 6)))), (o 14, .inr (3, [.ref (o 7), .ref (o 8), .ref (o 9)])), (o 7, .inr (1, [.int (iz 1600), .ref (r 7), .int (iz (z 7))])), (r 7, .inl (cI, n 7, .inl (iA (F 7)))), (o 8, .inr (1, [.int (iz 1600), .ref (r 8), .int (iz (z 8))])), (r 8, .inl (cI, n 8, .inl (iA (F 8)))), (o 9, .inr (1, [.int (iz 1600), .ref (r 9), .int (iz (z 9))])), (r 9, .inl (cI, n 9, .inl (iA (F 9)))), (o 12, .inr (4, [.int (iz (z 17)), .int (iz (z 18)), .int (iz (z 19)), .int (iz (z 20)), .int (iz (z 21))])), (o 10, .inr (2, [.ref (r 10), .int (iz (z 10)), .int (iz (z 22))])), (r 10, .inl (cB, n 10, .inl (iA (F 10)))), (o 11, .inr (2, [.ref (r 11), .int (iz (z 11)), .int (iz (z 23))])), (r 11, .inl (cB, n 11, .inl (iA (F 11))))]) (w1 := (iU cI 80 (o 3) (r 3) (n 3) z_24 (F 3))) (ws' := (xU cI cB cE o r n (va_up z 3 z_24) F G (Eo 0 0))) hP hD [8, 9] [0, 1, 2, 3, 4, 5, 6, 7, 10, 11, 12, 13, 14, 15, 16, 17, 18, 19, 20, 21, 22, 23, 24, 25, 26, 27, 28] [0, 1, 2, 3, 4, 5, 6, 7, 27, 28, 8, 9, 10, 11, 12, 13, 14, 15, 16, 17, 18, 19, 20, 21, 22, 23, 24, 25, 26] rfl rfl (by decide) (by decide) hk1 hFc hP1 hD1 rfl (by decide)
        refine W.eq (g2 := F0 m 29 ls []) rfl ?_
        try dsimp only at hq_21
        obtain ⟨hd25, hm25, hz25⟩ := hq_21
        subst hd25
        subst hm25
        refine lv_iconst (v := iz 0) hx hb dX5_style_29 (by decide) ?_
        have hok26 : xOk (va_up n 3 (n 3)) (va_up z 3 z_24) (va_up F 3 (F 3)) := (hok.i 3 (by decide) (show 0 ≤ z_24 ∧ z_24 ≤ ((n 3 : Nat) : Int) ∧ ((n 3 : Nat) : Int) ≤ 80 by omega) (hok.2.2.1 3))
        have hfr26 : xFr [3] [3] z F (va_up z 3 z_24) (va_up F 3 (F 3)) := ((hfr.uz 3 (by decide) _).uf 3 (by decide) _)
        have hcg26 : (0) + xg (va_up n 3 (n 3)) ≤ xg n := by unfold xg; simp (decide := true) only [va_ev, ↓reduceIte]; omega
        have hcp26 : (0) + xp (va_up n 3 (n 3)) ≤ xp n := by unfold xp; simp (decide := true) only [va_ev, ↓reduceIte]; omega
        have hzo3 : (va_up z 3 z_24) 3 = z_24 := rfl
        refine vx_ret ?_
        exact xk_iret (ov := (fun u : (Int) × (Nat → Nat) × (Nat → Nat) × (Nat → Int) × (Nat → Int → Int) × (Nat → Nat → Nat) × (Nat → Nat → Nat) × (Nat → Nat → Int) × (Nat → Nat → Int → Int) => match u with | (q, r', n', z', F', Er', En', Ez', EF') => some (.int (iz q)))) (post := (fun (u : (Int) × (Nat → Nat) × (Nat → Nat) × (Nat → Int) × (Nat → Int → Int) × (Nat → Nat → Nat) × (Nat → Nat → Nat) × (Nat → Nat → Int) × (Nat → Nat → Int → Int)) (dn dm : Nat) => match u with | (q, r', n', z', F', Er', En', Ez', EF') => xR [3] [3] [] [] N z F En Ez EF n' z' F' En' Ez' EF' ∧ (dn + xg n' ≤ xg n + 0 ∧ dm + xp n' ≤ xp n + 0) ∧ (((0 ≤ p0 ∧ p0 ≤ 127) ∧ ((p0 = 0 ∧ q = 0 ∧ z' 3 = 0) ∨ (0 < p0 ∧ q = z 3 + 1 ∧ z' 3 = z 3 + 1))) ∧ (0 < p0 → F' 3 (z 3) = p0 ∧ ∀ i, 0 ≤ i → i < z 3 → F' 3 i = F 3 i)))) (ws := (fun u : (Int) × (Nat → Nat) × (Nat → Nat) × (Nat → Int) × (Nat → Int → Int) × (Nat → Nat → Nat) × (Nat → Nat → Nat) × (Nat → Nat → Int) × (Nat → Nat → Int → Int) => match u with | (q, r', n', z', F', Er', En', Ez', EF') => (xU cI cB cE o r' n' z' F' G (Eo 0 0) ++ eP cI N Eo Er' En' Ez' EF'))) (tys := xT cI cB cE) (z := 0) (0, r, (va_up n 3 (n 3)), (va_up z 3 z_24), (va_up F 3 (F 3)), Er, En, Ez, EF) hx hb hr rfl hlocks rfl hP hD hK hS dX5_style_30 (fun dn dm hdn hdm => ⟨⟨hok26, hfr26, hPE, hef⟩, ⟨by omega, by omega⟩, ⟨⟨by omega, by omega⟩, fun h9 => absurd h9 (by omega)⟩⟩) (by omega) (by omega)
    · skip
      exact ky_thr_IAE hx hb hlf hown hG hZ hS (hl.1.trans hml.symm) dX5_style_10 dX5_style_13 dX5_style_14 dX5_style_17 htab (Nat.le_of_ble_eq_true rfl) (Nat.le_of_ble_eq_true rfl) (show 0 + 1 ≤ 100 from (by omega)) (show 0 + 6 ≤ 45000 from (by omega)) hlocks (Or.inl ⟨rfl, by first | trivial | omega⟩) (fun t hvm h1 h2 => ⟨(r, n, z, F, Er, En, Ez, EF), ⟨hok, xFr.rf, hPE, eFr.rf⟩, hP.kept (fun k q hk => h2 q.1 (hP k q hk).lt), va_K.moved hvm hK, hD⟩) hS.2.2 (by omega) (by omega) (by omega) (by omega)
set_option maxHeartbeats 4000000 in
set_option maxRecDepth 100000 in
theorem y_print7 (l : Launch) (hlf : l.stackTraces = false) (dC : Nat → ClassId) (dI : Nat → Nat → Nat) (cI cB cE : ClassId) (o r n : Nat → Nat) (z : Nat → Int) (F : Nat → Int → Int) (G : Nat → Option Nat) (N : Nat) (Eo Er En : Nat → Nat → Nat) (Ez : Nat → Nat → Int) (EF : Nat → Nat → Int → Int) (lv : Int → Int) (ab : Int → Int) (Wd : Int → Int → Prop) (cm : Int → Int → Int) (sz : Nat) (hok : xOk n z F) (hxG : xG N (z 12) G Eo) (hPE : eA N En Ez EF) (hRH : rs_H (z 12) Ez EF lv ab Wd cm) (h79 : z 12 ≤ 78) (hkn : rs_RK z F Ez lv ab Wd cm) (lH : lo_H (z 12) Ez EF) (hck : lo_K z F Ez EF) (sH : sn_H (z 12) Ez EF) : vx_Met l yX5_print [.code yX5_print cX5_print 7 (some .int)] ({ frames := 7, cells := 1200, slots := 600000, locals := 196 }) (va_Pc [.ref (o 15)] (kx_Pre dC dI (xU cI cB cE o r n z F G (Eo 0 0) ++ eP cI N Eo Er En Ez EF) (xT cI cB cE) sz)) (xQ (fun u : (Int) × (Nat → Nat) × (Nat → Nat) × (Nat → Nat) × (Nat → Int) × (Nat → Int → Int) × (Nat → Nat → Nat) × (Nat → Nat → Nat) × (Nat → Nat → Int) × (Nat → Nat → Int → Int) => match u with | (q, o', r', n', z', F', Er', En', Ez', EF') => some (.int (iz q))) (fun (u : (Int) × (Nat → Nat) × (Nat → Nat) × (Nat → Nat) × (Nat → Int) × (Nat → Int → Int) × (Nat → Nat → Nat) × (Nat → Nat → Nat) × (Nat → Nat → Int) × (Nat → Nat → Int → Int)) (dn dm : Nat) => match u with | (q, o', r', n', z', F', Er', En', Ez', EF') => xR [0, 1, 2, 4, 5, 6, 7, 8, 9, 10, 11, 15, 16, 22, 23] [0, 1, 2, 4, 5, 6, 7, 8, 9, 10, 11] [10] [] N z F En Ez EF n' z' F' En' Ez' EF' ∧ (dn + xg n' ≤ xg n + 0 ∧ dm + xp n' ≤ xp n + 0) ∧ ((∀ k, k ≠ 10 → k ≠ 11 → o' k = o k) ∧ rs_RK z' F' Ez' lv ab Wd cm ∧ lo_K z' F' Ez' EF' ∧ ((0 ≤ pt_ft (F 3) (z 3) (z 3).toNat 0 0 ∧ q = -1 - pt_ft (F 3) (z 3) (z 3).toNat 0 0 ∧ z' 10 = z 10 ∧ F' 10 = F 10) ∨ (pt_ft (F 3) (z 3) (z 3).toNat 0 0 = -1 ∧ z' 15 = 1 ∧ q = z' 10 ∧ pt_h (pt_l (pt_aE lv ab (F' 3) (F' 1) (z' 3) (z' 12) Ez' EF' (z' 1).toNat)) (F' 10) (z' 10) 0)))) (fun u t => kx_At dC dI (va_A (xU cI cB cE o r n z F G (Eo 0 0) ++ eP cI N Eo Er En Ez EF) sz) ((fun u : (Int) × (Nat → Nat) × (Nat → Nat) × (Nat → Nat) × (Nat → Int) × (Nat → Int → Int) × (Nat → Nat → Nat) × (Nat → Nat → Nat) × (Nat → Nat → Int) × (Nat → Nat → Int → Int) => match u with | (q, o', r', n', z', F', Er', En', Ez', EF') => (xU cI cB cE o' r' n' z' F' G (Eo 0 0) ++ eP cI N Eo Er' En' Ez' EF')) u) (xT cI cB cE) t) (va_A (xU cI cB cE o r n z F G (Eo 0 0) ++ eP cI N Eo Er En Ez EF) sz)) (yX (fun E => (E = "java/lang/UnsupportedOperationException" ∧ (True))) 100 42000 (fun t => ∃ u : (Nat → Nat) × (Nat → Nat) × (Nat → Int) × (Nat → Int → Int) × (Nat → Nat → Nat) × (Nat → Nat → Nat) × (Nat → Nat → Int) × (Nat → Nat → Int → Int), match u with | (r', n', z', F', Er', En', Ez', EF') => xR [0, 1, 2, 4, 5, 6, 7, 8, 9, 10, 11, 15, 16, 22, 23] [0, 1, 2, 4, 5, 6, 7, 8, 9, 10, 11] [10] [] N z F En Ez EF n' z' F' En' Ez' EF' ∧ (rs_RK z' F' Ez' lv ab Wd cm ∧ lo_K z' F' Ez' EF' ∧ z' 15 = 1 ∧ pt_ft (F 3) (z 3) (z 3).toNat 0 0 = -1 ∧ 6000 < (pt_aE lv ab (F' 3) (F' 1) (z' 3) (z' 12) Ez' EF' (z' 1).toNat).length ∧ z' 10 = z 10 ∧ F' 10 = F 10) ∧ kx_At dC dI (va_A (xU cI cB cE o r n z F G (Eo 0 0) ++ eP cI N Eo Er En Ez EF) sz) (xU cI cB cE o r' n' z' F' G (Eo 0 0) ++ eP cI N Eo Er' En' Ez' EF') (xT cI cB cE) t) (va_A (xU cI cB cE o r n z F G (Eo 0 0) ++ eP cI N Eo Er En Ez EF) sz)) 1200 600000 (va_A (xU cI cB cE o r n z F G (Eo 0 0) ++ eP cI N Eo Er En Ez EF) sz) := by
  refine vx_ofW (cc := cX5_print) (maxL := 7) (ret := (some .int)) (by decide) rfl ?_
  intro p e s m args below meth c s₁ B hml htab hv
  obtain ⟨rfl, hsz, hP, hK, hD0, hG, hZ⟩ := hv
  have hx := B.exec
  have hb := B.bytes
  have hr := B.returns
  have hts := kx_hts (a := ([.ref (o 15)] : List Value).toArray) hG
  have hown : s.vm.findClass RX5 = some m.cls := findClass_of_methodNamed B.named
  have hlocks := B.notSynchronized
  subst hsz
  have hD := hD0.self (sz := s.heap.size)
  generalize hAe : va_A (xU cI cB cE o r n z F G (Eo 0 0) ++ eP cI N Eo Er En Ez EF) s.heap.size = A at hD hZ ⊢
  have hA : ∀ q : Nat, s.heap.size ≤ q → A q := fun q h => by rw [← hAe]; exact Or.inr h
  have hS : va_S A s.heap s.heap [] := va_S.rf
  have hl := lv_entry ([.ref (o 15)]) (n := 7) (Nat.le_of_ble_eq_true rfl)
  rw [lg_entry_eq]
  generalize (lg_sl ([.ref (o 15)]) ++ List.replicate (7 - (lg_sl ([.ref (o 15)])).length) Slot.unset).toArray = ls at hl ⊢
  obtain ⟨hN1, hN2, hN3, hN4⟩ := hxG
  have hef : eFr [10] [] En Ez EF En Ez EF := eFr.rf
  have hfr : xFr [0, 1, 2, 4, 5, 6, 7, 8, 9, 10, 11, 15, 16, 22, 23] [0, 1, 2, 4, 5, 6, 7, 8, 9, 10, 11] z F z F := xFr.rf
  have hxgl := xg_le n
  have hxpl := xp_le n
  have hl : lv_has ls 7 [(0, .ref (o 15))] := hl
  generalize hQe : vx_MQ below (xQ (fun u : (Int) × (Nat → Nat) × (Nat → Nat) × (Nat → Nat) × (Nat → Int) × (Nat → Int → Int) × (Nat → Nat → Nat) × (Nat → Nat → Nat) × (Nat → Nat → Int) × (Nat → Nat → Int → Int) => match u with | (q, o', r', n', z', F', Er', En', Ez', EF') => some (.int (iz q))) (fun (u : (Int) × (Nat → Nat) × (Nat → Nat) × (Nat → Nat) × (Nat → Int) × (Nat → Int → Int) × (Nat → Nat → Nat) × (Nat → Nat → Nat) × (Nat → Nat → Int) × (Nat → Nat → Int → Int)) (dn dm : Nat) => match u with | (q, o', r', n', z', F', Er', En', Ez', EF') => xR [0, 1, 2, 4, 5, 6, 7, 8, 9, 10, 11, 15, 16, 22, 23] [0, 1, 2, 4, 5, 6, 7, 8, 9, 10, 11] [10] [] N z F En Ez EF n' z' F' En' Ez' EF' ∧ (dn + xg n' ≤ xg n + 0 ∧ dm + xp n' ≤ xp n + 0) ∧ ((∀ k, k ≠ 10 → k ≠ 11 → o' k = o k) ∧ rs_RK z' F' Ez' lv ab Wd cm ∧ lo_K z' F' Ez' EF' ∧ ((0 ≤ pt_ft (F 3) (z 3) (z 3).toNat 0 0 ∧ q = -1 - pt_ft (F 3) (z 3) (z 3).toNat 0 0 ∧ z' 10 = z 10 ∧ F' 10 = F 10) ∨ (pt_ft (F 3) (z 3) (z 3).toNat 0 0 = -1 ∧ z' 15 = 1 ∧ q = z' 10 ∧ pt_h (pt_l (pt_aE lv ab (F' 3) (F' 1) (z' 3) (z' 12) Ez' EF' (z' 1).toNat)) (F' 10) (z' 10) 0)))) (fun u t => kx_At dC dI A ((fun u : (Int) × (Nat → Nat) × (Nat → Nat) × (Nat → Nat) × (Nat → Int) × (Nat → Int → Int) × (Nat → Nat → Nat) × (Nat → Nat → Nat) × (Nat → Nat → Int) × (Nat → Nat → Int → Int) => match u with | (q, o', r', n', z', F', Er', En', Ez', EF') => (xU cI cB cE o' r' n' z' F' G (Eo 0 0) ++ eP cI N Eo Er' En' Ez' EF')) u) (xT cI cB cE) t) A) (yX (fun E => (E = "java/lang/UnsupportedOperationException" ∧ (True))) 100 42000 (fun t => ∃ u : (Nat → Nat) × (Nat → Nat) × (Nat → Int) × (Nat → Int → Int) × (Nat → Nat → Nat) × (Nat → Nat → Nat) × (Nat → Nat → Int) × (Nat → Nat → Int → Int), match u with | (r', n', z', F', Er', En', Ez', EF') => xR [0, 1, 2, 4, 5, 6, 7, 8, 9, 10, 11, 15, 16, 22, 23] [0, 1, 2, 4, 5, 6, 7, 8, 9, 10, 11] [10] [] N z F En Ez EF n' z' F' En' Ez' EF' ∧ (rs_RK z' F' Ez' lv ab Wd cm ∧ lo_K z' F' Ez' EF' ∧ z' 15 = 1 ∧ pt_ft (F 3) (z 3) (z 3).toNat 0 0 = -1 ∧ 6000 < (pt_aE lv ab (F' 3) (F' 1) (z' 3) (z' 12) Ez' EF' (z' 1).toNat).length ∧ z' 10 = z 10 ∧ F' 10 = F 10) ∧ kx_At dC dI A (xU cI cB cE o r' n' z' F' G (Eo 0 0) ++ eP cI N Eo Er' En' Ez' EF') (xT cI cB cE) t) A) ([.ref (o 15)] : List Value).toArray s 1200 600000 A = QQ
  refine lv_aload_n hx hb dX5_print_0 rfl (lv_at hl 0 rfl) ?_
  have hxz_1 : -2147483648 ≤ z 12 ∧ z 12 < 2147483648 := hok.2.2.2.1 12
  have hxG9 : xG N (z 12) G Eo := ⟨by omega, by omega, by omega, fun e9 h9 => hN4 e9 (by omega)⟩
  have hP : va_P (dC, dI) kxCl (xU cI cB cE o r n z F G (Eo 0 0) ++ eP cI N Eo Er En Ez EF) s.heap := hP
  refine xk_pure (va_runV (As := []) (rest := []) ⟨hx, hb, hml, hown, hts⟩ (y_firstFault2 l dC dI cI cB cE o r n z F G N Eo Er En Ez EF  s.heap.size hok hxG9 hPE ) (cwV 0 hts (kx_gV kq_24_xnew_0 kq_24_xnew_1 kq_24_xnew_2 kq_18_xrows_4 kq_24_xnew_3 rfl) rfl rfl rfl (by decide +kernel) ⟨Nat.le_of_ble_eq_true rfl, Nat.le_of_ble_eq_true rfl⟩) ⟨pPre_blind, va_recv hK hP (ci := 5) (q0 := 0) rfl rfl, pPre_give hP hK hG⟩ rfl rfl hl.1 rfl (lv_room (Nat.le_of_ble_eq_true rfl)) dX5_print_1 ⟨show 0 + 0 ≤ 1200 from (by omega), show 0 + 0 ≤ 600000 from (by omega)⟩) hS (fun z_3 locs hq_2 hS => ?_)
  refine W.eq (g2 := F0 m 4 ls [.int (iz z_3)]) rfl ?_
  try dsimp only at hq_2
  obtain ⟨hft, hft1, hft2⟩ := hq_2
  refine lv_istore_n (lv' := [(1, .int (iz z_3)), (0, .ref (o 15))]) hx hb dX5_print_4 rfl hl (by decide) rfl (fun ls hl => ?_)
  refine lv_iload_n hx hb dX5_print_5 rfl (lv_at hl 0 rfl) ?_
  refine ki_if_lt (tgt := 13) hx hb dX5_print_6 (by decide) (by omega) (by omega) (fun c_4 => ?_) (fun c_4 => ?_)
  · skip
    refine lv_aload_n hx hb dX5_print_13 rfl (lv_at hl 1 rfl) ?_
    have hxG9 : xG N (z 12) G Eo := ⟨by omega, by omega, by omega, fun e9 h9 => hN4 e9 (by omega)⟩
    have hP : va_P (dC, dI) kxCl (xU cI cB cE o r n z F G (Eo 0 0) ++ eP cI N Eo Er En Ez EF) s.heap := hP
    have hD : va_D A (xU cI cB cE o r n z F G (Eo 0 0) ++ eP cI N Eo Er En Ez EF) := hD
    have hFc := xw_free hD hS hA
    refine xk_call (va_runV (As := []) (rest := []) ⟨hx, hb, hml, hown, hts⟩ (y_findRows2 l dC dI cI cB cE o r n z F G N Eo Er En Ez EF lv ab Wd cm s.heap.size hok hxG9 hPE (by first | exact hRH | exact hRH.fr hef (by decide) (by decide)) (show z 12 ≤ 78 by omega) hkn) (cwV 0 hts (kx_gV kq_21_xcalls_25 kq_21_xcalls_26 kq_21_xcalls_27 kq_18_xrows_4 kq_21_xcalls_28 rfl) rfl rfl rfl (by decide +kernel) ⟨Nat.le_of_ble_eq_true rfl, Nat.le_of_ble_eq_true rfl⟩) ⟨kx_blind, va_recv hK hP (ci := 5) (q0 := 0) rfl rfl, kx_give (ws := []) (tys := []) hP hD hK hG hZ hS hFc⟩ rfl rfl hl.1 rfl (lv_room (Nat.le_of_ble_eq_true rfl)) dX5_print_14 ⟨show 0 + 600 ≤ 1200 from (by omega), show 0 + 300000 ≤ 600000 from (by omega)⟩) hS (fun q _ h => hFc q h) hFc (fun u dn_7 dm_8 t H locs ht hvm hq_5 hB hk1 hS => ?_)
    obtain ⟨r_9, n_10, z_11, F_12, Er_13, En_14, Ez_15, EF_16⟩ := u
    obtain ⟨hP, hK1, hD1⟩ := hB
    rw [ht] at hP
    have hD := hD1.weaken (fun _ q _ h => hFc _ h)
    obtain ⟨hR17, hC17, hq_5⟩ := hq_5
    have hok17 := hR17.1
    have hfr17 := hfr.tr (hR17.2.1.mono (S' := [0, 1, 2, 4, 5, 6, 7, 8, 9, 10, 11, 15, 16, 22, 23]) (T' := [0, 1, 2, 4, 5, 6, 7, 8, 9, 10, 11]) (by decide) (by decide))
    have hPE17 := hR17.2.2.1
    have hef17 := hef.tr (hR17.2.2.2.mono (S' := [10]) (T' := []) (by decide) (by decide))
    have hz17 : z_11 12 = (z 12) := hR17.2.1.1 12 (by decide)
    have hkr17_7 : z_11 7 = z 7 := hR17.2.1.1 7 (by decide)
    have hkr17_8 : z_11 8 = z 8 := hR17.2.1.1 8 (by decide)
    have hkr17_9 : z_11 9 = z 9 := hR17.2.1.1 9 (by decide)
    have hkr17_10 : z_11 10 = z 10 := hR17.2.1.1 10 (by decide)
    have hkr17_11 : z_11 11 = z 11 := hR17.2.1.1 11 (by decide)
    have hkr17_23 : z_11 23 = z 23 := hR17.2.1.1 23 (by decide)
    have hkr17_2 : z_11 2 = z 2 := hR17.2.1.1 2 (by decide)
    have hkr17_3 : z_11 3 = z 3 := hR17.2.1.1 3 (by decide)
    refine W.eq (g2 := F0 m 17 ls []) rfl ?_
    try dsimp only at hq_5
    obtain ⟨hk1518, hrr18⟩ := hq_5
    have hrk18 : rs_RK z_11 F_12 Ez_15 lv ab Wd cm := fun _ => hrr18
    have hck18 : lo_K z_11 F_12 Ez_15 EF_16 := lo_K.find hck hkn hRH.1.1 hRH.1.2.1 hrr18 hk1518 (hR17.2.1.1 16 (by decide)) (hR17.2.1.1 12 (by decide)) (hR17.2.1.1 7 (by decide)) (hR17.2.1.1 8 (by decide)) (hR17.2.1.1 9 (by decide)) (hR17.2.1.2 7 (by decide)) (hR17.2.1.2 8 (by decide)) (fun j => hR17.2.2.2.1 j 4 (by decide)) (fun j => ⟨(hR17.2.2.2.2 j 4 (by decide)).2, (hR17.2.2.2.2 j 5 (by decide)).2, (hR17.2.2.2.2 j 6 (by decide)).2⟩)
    have lH18 : lo_H (z 12) Ez_15 EF_16 := lo_H.fr lH hef17 (by decide) (by decide)
    have hz1218 : z_11 12 = z 12 := by omega
    have hF10_19 : F_12 10 = F 10 := (hR17.2.1.2 10 (by decide)).trans rfl
    refine lv_aload_n hx hb dX5_print_17 rfl (lv_at hl 1 rfl) ?_
    refine va_get (D := (dC, dI)) (ci := 5) (v := .ref (o 11)) (C := RX5) (T := TX5) (N := 16) hx hb hts kt_X5 hown hK hP 0 rfl rfl 15 (by decide) (kx_word hG kq_19_xouts_60 rfl) (fun _ h9 => h9) rfl dX5_print_18 ?_
    have hxp_20 : 0 ≤ z_11 11 ∧ z_11 11 ≤ ((n_10 11 : Nat) : Int) ∧ (n_10 11 = 0 ∨ n_10 11 = 6000) := hok17.2.1 11 (by decide)
    have hxz_21 : -2147483648 ≤ z_11 23 ∧ z_11 23 < 2147483648 := hok17.2.2.2.1 23
    have hxb_22 : z_11 23 = 0 ∨ z_11 23 = 1 := hok17.2.2.2.2 23 (by decide)
    have hPc := hP.sub (ws' := (pU cB (o 11) (r_9 11) (n_10 11) (z_11 11) (z_11 23) (F_12 11))) [27, 28] rfl
    have hDc := hD.sub (ws' := (pU cB (o 11) (r_9 11) (n_10 11) (z_11 11) (z_11 23) (F_12 11))) [27, 28] (by decide) rfl
    have hFc := va_free (wc := (pU cB (o 11) (r_9 11) (n_10 11) (z_11 11) (z_11 23) (F_12 11))) hD hS hA [27, 28] rfl
    refine xk_call (va_runV (As := []) (rest := []) ⟨hx, hb, hml, hown, hts⟩ (x_pclear l dC dI cI cB cE (o 11) (r_9 11) (n_10 11) (z_11 11) (z_11 23) (F_12 11)  H.size (by omega) (by omega) (hok17.2.2.1 11)) (cwV 0 hts (kx_gV kq_24_xnew_4 kq_24_xnew_5 kq_24_xnew_6 kq_15_xspan_17 kq_24_xnew_7 rfl) rfl rfl rfl (by decide +kernel) ⟨Nat.le_of_ble_eq_true rfl, Nat.le_of_ble_eq_true rfl⟩) ⟨kx_blind, va_recv hK hPc (ci := 2) (q0 := 0) rfl rfl, kx_give (ws := []) (tys := []) hPc hDc hK hG hZ hS hFc⟩ rfl rfl hl.1 rfl (lv_room (Nat.le_of_ble_eq_true rfl)) dX5_print_21 ⟨show (0 + dn_7) + 1 ≤ 1200 from (by omega), show (0 + dm_8) + 6000 ≤ 600000 from (by omega)⟩) hS (fun q _ h => hFc q h) hFc (fun u dn_24 dm_25 t H locs ht hvm hq_23 hB hk1 hS => ?_)
    obtain ⟨r_26, n_27, z_28, tl_29, F_30⟩ := u
    obtain ⟨hP1, hK1, hD1⟩ := hB
    rw [ht] at hP1
    obtain ⟨hP, hD⟩ := xj_pool (wr := [(o 15, .inr (5, [.ref (o 16), .ref (Eo 0 0), .int (iz (z_11 12)), .int (iz (z_11 13)), .int (iz (z_11 14)), .ref (o 0), .ref (o 1), .int (iz (z_11 15)), .ref (o 13), .ref (o 14), .int (iz (z_11 16)), .ref (o 2), .ref (o 12), .ref (o 3), .ref (o 10), .ref (o 11)])), (o 16, .inl (cE, 80, .inr (.inr (.inr (.inr G))))), (o 0, .inr (1, [.int (iz 80), .ref (r_9 0), .int (iz (z_11 0))])), (r_9 0, .inl (cI, n_10 0, .inl (iA (F_12 0)))), (o 1, .inr (1, [.int (iz 80), .ref (r_9 1), .int (iz (z_11 1))])), (r_9 1, .inl (cI, n_10 1, .inl (iA (F_12 1)))), (o 2, .inr (1, [.int (iz 80), .ref (r_9 2), .int (iz (z_11 2))])), (r_9 2, .inl (cI, n_10 2, .inl (iA (F_12 2)))), (o 3, .inr (1, [.int (iz 80), .ref (r_9 3), .int (iz (z_11 3))])), (r_9 3, .inl (cI, n_10 3, .inl (iA (F_12 3)))), (o 13, .inr (3, [.ref (o 4), .ref (o 5), .ref (o 6)])), (o 4, .inr (1, [.int (iz 1600), .ref (r_9 4), .int (iz (z_11 4))])), (r_9 4, .inl (cI, n_10 4, .inl (iA (F_12 4)))), (o 5, .inr (1, [.int (iz 1600), .ref (r_9 5), .int (iz (z_11 5))])), (r_9 5, .inl (cI, n_10 5, .inl (iA (F_12 5)))), (o 6, .inr (1, [.int (iz 1600), .ref (r_9 6), .int (iz (z_11 6))])), (r_9 6, .inl (cI, n_10 6, .inl (iA (F_12 6)))), (o 14, .inr (3, [.ref (o 7), .ref (o 8), .ref (o 9)])), (o 7, .inr (1, [.int (iz 1600), .ref (r_9 7), .int (iz (z_11 7))])), (r_9 7, .inl (cI, n_10 7, .inl (iA (F_12 7)))), (o 8, .inr (1, [.int (iz 1600), .ref (r_9 8), .int (iz (z_11 8))])), (r_9 8, .inl (cI, n_10 8, .inl (iA (F_12 8)))), (o 9, .inr (1, [.int (iz 1600), .ref (r_9 9), .int (iz (z_11 9))])), (r_9 9, .inl (cI, n_10 9, .inl (iA (F_12 9)))), (o 12, .inr (4, [.int (iz (z_11 17)), .int (iz (z_11 18)), .int (iz (z_11 19)), .int (iz (z_11 20)), .int (iz (z_11 21))])), (o 10, .inr (2, [.ref (r_9 10), .int (iz (z_11 10)), .int (iz (z_11 22))])), (r_9 10, .inl (cB, n_10 10, .inl (iA (F_12 10))))]) (w1 := (pU cB (o 11) r_26 n_27 z_28 tl_29 F_30)) (ws' := (xU cI cB cE o (va_up r_9 11 r_26) (va_up n_10 11 n_27) (va_up (va_up z_11 11 z_28) 23 tl_29) (va_up F_12 11 F_30) G (Eo 0 0))) hP hD [27, 28] [0, 1, 2, 3, 4, 5, 6, 7, 8, 9, 10, 11, 12, 13, 14, 15, 16, 17, 18, 19, 20, 21, 22, 23, 24, 25, 26] [0, 1, 2, 3, 4, 5, 6, 7, 8, 9, 10, 11, 12, 13, 14, 15, 16, 17, 18, 19, 20, 21, 22, 23, 24, 25, 26, 27, 28] rfl rfl (by decide) (by decide) hk1 hFc hP1 hD1 rfl (by decide)
    refine W.eq (g2 := F0 m 24 ls []) rfl ?_
    try dsimp only at hq_23
    obtain ⟨hc31, hz31, ht31, hn31, hF31⟩ := hq_23
    refine lv_iconst (v := iz (-1)) hx hb dX5_print_24 (by decide) ?_
    refine lv_istore_n (lv' := [(2, .int (iz (-1))), (1, .int (iz z_3)), (0, .ref (o 15))]) hx hb dX5_print_25 rfl hl (by decide) rfl (fun ls hl => ?_)
    refine lv_iconst (v := iz 0) hx hb dX5_print_26 (by decide) ?_
    refine lv_istore_n (lv' := [(3, .int (iz 0)), (2, .int (iz (-1))), (1, .int (iz z_3)), (0, .ref (o 15))]) hx hb dX5_print_27 rfl hl (by decide) rfl (fun ls hl => ?_)
    have hok32 : xOk (va_up n_10 11 n_27) (va_up (va_up z_11 11 z_28) 23 tl_29) (va_up F_12 11 F_30) := ((hok17.p 11 (by decide) (show 0 ≤ z_28 ∧ z_28 ≤ ((n_27 : Nat) : Int) ∧ (n_27 = 0 ∨ n_27 = 6000) by omega) hF31).s 23 (by decide) (show -2147483648 ≤ tl_29 ∧ tl_29 < 2147483648 by omega) (by omega))
    have hfr32 : xFr [0, 1, 2, 4, 5, 6, 7, 8, 9, 10, 11, 15, 16, 22, 23] [0, 1, 2, 4, 5, 6, 7, 8, 9, 10, 11] z F (va_up (va_up z_11 11 z_28) 23 tl_29) (va_up F_12 11 F_30) := (((hfr17.uz 11 (by decide) _).uz 23 (by decide) _).uf 11 (by decide) _)
    have hcg32 : (dn_24) + xg (va_up n_10 11 n_27) ≤ xg n_10 := by unfold xg; simp (decide := true) only [va_ev, ↓reduceIte]; omega
    have hcp32 : (dm_25) + xp (va_up n_10 11 n_27) ≤ xp n_10 := by unfold xp; simp (decide := true) only [va_ev, ↓reduceIte]; omega
    have lp28 : ∀ (n0 : Nat) (gv : Int) (k : Int) (rL28 : Nat → Nat) (nL28 : Nat → Nat) (zL28 : Nat → Int) (FL28 : Nat → Int → Int) (cv : Nat) (sv : Nat), ((xR [0, 1, 2, 4, 5, 6, 7, 8, 9, 10, 11, 15, 16, 22, 23] [0, 1, 2, 4, 5, 6, 7, 8, 9, 10, 11] [10] [] N z F En Ez EF nL28 zL28 FL28 En_14 Ez_15 EF_16) ∧ (cv + xg nL28 ≤ xg n + (0) ∧ sv + xp nL28 ≤ xp n + (0)) ∧ (zL28 12 = z 12) ∧ (gv = pt_gb (pt_lE Ez_15) (pt_gE lv ab Ez_15 EF_16) (F_12 1) k.toNat) ∧ (-2147483648 ≤ gv ∧ gv < 2147483648) ∧ (0 ≤ k ∧ k ≤ 81 ∧ k ≤ zL28 1) ∧ (rs_RK zL28 FL28 Ez_15 lv ab Wd cm) ∧ (lo_K zL28 FL28 Ez_15 EF_16) ∧ (zL28 15 = 1) ∧ (nL28 11 = 6000) ∧ (FL28 10 = F 10) ∧ (zL28 10 = z 10) ∧ (FL28 1 = F_12 1) ∧ (zL28 1 = z_11 1) ∧ (pt_h (pt_l (pt_aE lv ab (F 3) (F_12 1) (z 3) (z 12) Ez_15 EF_16 k.toNat)) (FL28 11) (zL28 11) (zL28 23))) → (zL28 1 - k).toNat < n0 → ∀ (H : Heap) (locs : List Loc), va_P (dC, dI) kxCl ((xU cI cB cE o rL28 nL28 zL28 FL28 G (Eo 0 0)) ++ (eP cI N Eo Er_13 En_14 Ez_15 EF_16)) H → va_D A ((xU cI cB cE o rL28 nL28 zL28 FL28 G (Eo 0 0)) ++ (eP cI N Eo Er_13 En_14 Ez_15 EF_16)) → va_S A s.heap H locs → ∀ ls : Array Slot, lv_has ls 7 [(3, .int (iz k)), (2, .int (iz gv)), (1, .int (iz z_3)), (0, .ref (o 15))] → W p l e (headSpec [.code yX5_print cX5_print 7 (some .int)] ({ frames := 7, cells := 1200, slots := 600000, locals := 196 })).room s m ([.ref (o 15)] : List Value).toArray below meth c H locs cv sv QQ (F0 m 28 ls []) := by
      intro n0
      induction n0 with
      | zero => intro gv k rL28 nL28 zL28 FL28 cv sv hinv hm0; exact absurd hm0 (Nat.not_lt_zero _)
      | succ n0 ih28 =>
        intro gv k rL28 nL28 zL28 FL28 cv sv hinv hm0 H locs hP hD hS ls hl
        obtain ⟨hRLL28, hCLL28, hZLL28, hgv, hgvb, hk, hrkL, hckL, h15L, hn6L, hF10L, hz10L, hF1L, hz1L, hXw⟩ := hinv
        have hz1 : 0 ≤ zL28 1 ∧ zL28 1 ≤ (nL28 1 : Int) ∧ (nL28 1 : Int) ≤ 80 := hRLL28.1.1 1 (by decide)
        have hF3L : FL28 3 = F 3 := hRLL28.2.1.2 3 (by decide)
        have hz3L : zL28 3 = z 3 := hRLL28.2.1.1 3 (by decide)
        have hz12L : zL28 12 = z 12 := hRLL28.2.1.1 12 (by decide)
        have hz23L : zL28 23 = 0 ∨ zL28 23 = 1 := hRLL28.1.2.2.2.2 23 (by decide)
        refine lv_iload_n hx hb dX5_print_28 rfl (lv_at hl 0 rfl) ?_
        refine lv_aload_n hx hb dX5_print_29 rfl (lv_at hl 3 rfl) ?_
        refine va_get (D := (dC, dI)) (ci := 5) (v := .ref (o 1)) (C := RX5) (T := TX5) (N := 16) hx hb hts kt_X5 hown hK hP 0 rfl rfl 6 (by decide) (kx_word hG kq_18_xrows_47 rfl) (fun _ h9 => h9) rfl dX5_print_30 ?_
        have hxi_33 : 0 ≤ zL28 1 ∧ zL28 1 ≤ ((nL28 1 : Nat) : Int) ∧ ((nL28 1 : Nat) : Int) ≤ 80 := hRLL28.1.1 1 (by decide)
        have hPc := hP.sub (ws' := (iU cI 80 (o 1) (rL28 1) (nL28 1) (zL28 1) (FL28 1))) [4, 5] rfl
        refine xk_pure (va_runV (As := []) (rest := [.int (iz k)]) ⟨hx, hb, hml, hown, hts⟩ (x_size l dC dI cI cB cE 80 (o 1) (rL28 1) (nL28 1) (zL28 1) (FL28 1)  H.size ) (cwV 0 hts (kx_gV kq_18_xrows_40 kq_15_xspan_10 kq_15_xspan_11 kq_13_xints_6 kq_15_xspan_12 rfl) rfl rfl rfl (by decide +kernel) ⟨Nat.le_of_ble_eq_true rfl, Nat.le_of_ble_eq_true rfl⟩) ⟨pPre_blind, va_recv hK hPc (ci := 1) (q0 := 0) rfl rfl, pPre_give hPc hK hG⟩ rfl rfl hl.1 rfl (lv_room (Nat.le_of_ble_eq_true rfl)) dX5_print_33 ⟨show cv + 0 ≤ 1200 from (by omega), show sv + 0 ≤ 600000 from (by omega)⟩) hS (fun z_35 locs hq_34 hS => ?_)
        refine W.eq (g2 := F0 m 36 ls [.int (iz z_35), .int (iz k)]) rfl ?_
        try dsimp only at hq_34
        have hq_34 := hq_34.symm
        subst hq_34
        refine ki_icmp_ge (tgt := 131) hx hb dX5_print_36 (by decide) (by omega) (by omega) (by omega) (by omega) (fun c_36 => ?_) (fun c_36 => ?_)
        · skip
          refine lv_aload_n hx hb dX5_print_131 rfl (lv_at hl 3 rfl) ?_
          refine va_get (D := (dC, dI)) (ci := 5) (v := .ref (o 11)) (C := RX5) (T := TX5) (N := 16) hx hb hts kt_X5 hown hK hP 0 rfl rfl 15 (by decide) (kx_word hG kq_19_xouts_60 rfl) (fun _ h9 => h9) rfl dX5_print_132 ?_
          have hxz_37 : -2147483648 ≤ zL28 23 ∧ zL28 23 < 2147483648 := hRLL28.1.2.2.2.1 23
          have hxb_38 : zL28 23 = 0 ∨ zL28 23 = 1 := hRLL28.1.2.2.2.2 23 (by decide)
          refine va_getN (D := (dC, dI)) (ci := 2) (v := .int (iz (zL28 23))) (C := RX2) (T := TX2) (N := 3) hx hb hts kt_X2 hown hK hP 27 rfl rfl 2 (by decide) (va_Nw.use rfl (kx_nf hG kq_24_xnew_8)) (fun _ h9 => h9) rfl dX5_print_135 ?_
          refine ki_if_eq (tgt := 149) hx hb dX5_print_138 (by decide) (by omega) (by omega) (fun c_39 => ?_) (fun c_39 => ?_)
          · skip
            refine lv_aload_n hx hb dX5_print_149 rfl (lv_at hl 3 rfl) ?_
            refine va_get (D := (dC, dI)) (ci := 5) (v := .ref (o 10)) (C := RX5) (T := TX5) (N := 16) hx hb hts kt_X5 hown hK hP 0 rfl rfl 14 (by decide) (kx_word hG kq_21_xcalls_57 rfl) (fun _ h9 => h9) rfl dX5_print_150 ?_
            refine lv_astore_n (lv' := [(3, .ref (o 10)), (2, .int (iz gv)), (1, .int (iz z_3)), (0, .ref (o 15))]) hx hb dX5_print_153 rfl hl (by decide) rfl (fun ls hl => ?_)
            have hxp_40 : 0 ≤ zL28 10 ∧ zL28 10 ≤ ((nL28 10 : Nat) : Int) ∧ (nL28 10 = 0 ∨ nL28 10 = 6000) := hRLL28.1.2.1 10 (by decide)
            have hxp_41 : 0 ≤ zL28 11 ∧ zL28 11 ≤ ((nL28 11 : Nat) : Int) ∧ (nL28 11 = 0 ∨ nL28 11 = 6000) := hRLL28.1.2.1 11 (by decide)
            have hxz_42 : -2147483648 ≤ zL28 22 ∧ zL28 22 < 2147483648 := hRLL28.1.2.2.2.1 22
            have hxb_43 : zL28 22 = 0 ∨ zL28 22 = 1 := hRLL28.1.2.2.2.2 22 (by decide)
            refine lv_aload_n hx hb dX5_print_154 rfl (lv_at hl 3 rfl) ?_
            refine lv_aload_n hx hb dX5_print_155 rfl (lv_at hl 3 rfl) ?_
            refine va_get (D := (dC, dI)) (ci := 5) (v := .ref (o 11)) (C := RX5) (T := TX5) (N := 16) hx hb hts kt_X5 hown hK hP 0 rfl rfl 15 (by decide) (kx_word hG kq_19_xouts_60 rfl) (fun _ h9 => h9) rfl dX5_print_156 ?_
            refine va_put (D := (dC, dI)) (ci := 5) (v := .ref (o 11)) (ty := .object RX2) (C := RX5) (T := TX5) (N := 16) hx hb hts kt_X5 tyX5 tyX5_ok nmX5 hown hK hP hD hS 0 rfl rfl 14 (by decide) (kx_word hG kq_21_xcalls_57 rfl) (fun _ h9 => h9) rfl (by decide +kernel) rfl rfl (Nat.le_of_ble_eq_true rfl) dX5_print_159 (fun H locs hP hD hS => ?_)
            refine lv_aload_n hx hb dX5_print_162 rfl (lv_at hl 3 rfl) ?_
            refine lv_aload_n hx hb dX5_print_163 rfl (lv_at hl 0 rfl) ?_
            refine va_put (D := (dC, dI)) (ci := 5) (v := .ref (o 10)) (ty := .object RX2) (C := RX5) (T := TX5) (N := 16) hx hb hts kt_X5 tyX5 tyX5_ok nmX5 hown hK hP hD hS 0 rfl rfl 15 (by decide) (kx_word hG kq_19_xouts_60 rfl) (fun _ h9 => h9) rfl (by decide +kernel) rfl rfl (Nat.le_of_ble_eq_true rfl) dX5_print_164 (fun H locs hP hD hS => ?_)
            have hP : va_P (dC, dI) kxCl ([(o 15, .inr (5, [.ref (o 16), .ref (Eo 0 0), .int (iz (zL28 12)), .int (iz (zL28 13)), .int (iz (zL28 14)), .ref (o 0), .ref (o 1), .int (iz (zL28 15)), .ref (o 13), .ref (o 14), .int (iz (zL28 16)), .ref (o 2), .ref (o 12), .ref (o 3), .ref (o 11), .ref (o 10)])), (o 16, .inl (cE, 80, .inr (.inr (.inr (.inr G))))), (o 0, .inr (1, [.int (iz 80), .ref (rL28 0), .int (iz (zL28 0))])), (rL28 0, .inl (cI, nL28 0, .inl (iA (FL28 0)))), (o 1, .inr (1, [.int (iz 80), .ref (rL28 1), .int (iz (zL28 1))])), (rL28 1, .inl (cI, nL28 1, .inl (iA (FL28 1)))), (o 2, .inr (1, [.int (iz 80), .ref (rL28 2), .int (iz (zL28 2))])), (rL28 2, .inl (cI, nL28 2, .inl (iA (FL28 2)))), (o 3, .inr (1, [.int (iz 80), .ref (rL28 3), .int (iz (zL28 3))])), (rL28 3, .inl (cI, nL28 3, .inl (iA (FL28 3)))), (o 13, .inr (3, [.ref (o 4), .ref (o 5), .ref (o 6)])), (o 4, .inr (1, [.int (iz 1600), .ref (rL28 4), .int (iz (zL28 4))])), (rL28 4, .inl (cI, nL28 4, .inl (iA (FL28 4)))), (o 5, .inr (1, [.int (iz 1600), .ref (rL28 5), .int (iz (zL28 5))])), (rL28 5, .inl (cI, nL28 5, .inl (iA (FL28 5)))), (o 6, .inr (1, [.int (iz 1600), .ref (rL28 6), .int (iz (zL28 6))])), (rL28 6, .inl (cI, nL28 6, .inl (iA (FL28 6)))), (o 14, .inr (3, [.ref (o 7), .ref (o 8), .ref (o 9)])), (o 7, .inr (1, [.int (iz 1600), .ref (rL28 7), .int (iz (zL28 7))])), (rL28 7, .inl (cI, nL28 7, .inl (iA (FL28 7)))), (o 8, .inr (1, [.int (iz 1600), .ref (rL28 8), .int (iz (zL28 8))])), (rL28 8, .inl (cI, nL28 8, .inl (iA (FL28 8)))), (o 9, .inr (1, [.int (iz 1600), .ref (rL28 9), .int (iz (zL28 9))])), (rL28 9, .inl (cI, nL28 9, .inl (iA (FL28 9)))), (o 12, .inr (4, [.int (iz (zL28 17)), .int (iz (zL28 18)), .int (iz (zL28 19)), .int (iz (zL28 20)), .int (iz (zL28 21))])), (o 10, .inr (2, [.ref (rL28 10), .int (iz (zL28 10)), .int (iz (zL28 22))])), (rL28 10, .inl (cB, nL28 10, .inl (iA (FL28 10)))), (o 11, .inr (2, [.ref (rL28 11), .int (iz (zL28 11)), .int (iz (zL28 23))])), (rL28 11, .inl (cB, nL28 11, .inl (iA (FL28 11))))] ++ (eP cI N Eo Er_13 En_14 Ez_15 EF_16)) H := hP
            have hD : va_D A ([(o 15, .inr (5, [.ref (o 16), .ref (Eo 0 0), .int (iz (zL28 12)), .int (iz (zL28 13)), .int (iz (zL28 14)), .ref (o 0), .ref (o 1), .int (iz (zL28 15)), .ref (o 13), .ref (o 14), .int (iz (zL28 16)), .ref (o 2), .ref (o 12), .ref (o 3), .ref (o 11), .ref (o 10)])), (o 16, .inl (cE, 80, .inr (.inr (.inr (.inr G))))), (o 0, .inr (1, [.int (iz 80), .ref (rL28 0), .int (iz (zL28 0))])), (rL28 0, .inl (cI, nL28 0, .inl (iA (FL28 0)))), (o 1, .inr (1, [.int (iz 80), .ref (rL28 1), .int (iz (zL28 1))])), (rL28 1, .inl (cI, nL28 1, .inl (iA (FL28 1)))), (o 2, .inr (1, [.int (iz 80), .ref (rL28 2), .int (iz (zL28 2))])), (rL28 2, .inl (cI, nL28 2, .inl (iA (FL28 2)))), (o 3, .inr (1, [.int (iz 80), .ref (rL28 3), .int (iz (zL28 3))])), (rL28 3, .inl (cI, nL28 3, .inl (iA (FL28 3)))), (o 13, .inr (3, [.ref (o 4), .ref (o 5), .ref (o 6)])), (o 4, .inr (1, [.int (iz 1600), .ref (rL28 4), .int (iz (zL28 4))])), (rL28 4, .inl (cI, nL28 4, .inl (iA (FL28 4)))), (o 5, .inr (1, [.int (iz 1600), .ref (rL28 5), .int (iz (zL28 5))])), (rL28 5, .inl (cI, nL28 5, .inl (iA (FL28 5)))), (o 6, .inr (1, [.int (iz 1600), .ref (rL28 6), .int (iz (zL28 6))])), (rL28 6, .inl (cI, nL28 6, .inl (iA (FL28 6)))), (o 14, .inr (3, [.ref (o 7), .ref (o 8), .ref (o 9)])), (o 7, .inr (1, [.int (iz 1600), .ref (rL28 7), .int (iz (zL28 7))])), (rL28 7, .inl (cI, nL28 7, .inl (iA (FL28 7)))), (o 8, .inr (1, [.int (iz 1600), .ref (rL28 8), .int (iz (zL28 8))])), (rL28 8, .inl (cI, nL28 8, .inl (iA (FL28 8)))), (o 9, .inr (1, [.int (iz 1600), .ref (rL28 9), .int (iz (zL28 9))])), (rL28 9, .inl (cI, nL28 9, .inl (iA (FL28 9)))), (o 12, .inr (4, [.int (iz (zL28 17)), .int (iz (zL28 18)), .int (iz (zL28 19)), .int (iz (zL28 20)), .int (iz (zL28 21))])), (o 10, .inr (2, [.ref (rL28 10), .int (iz (zL28 10)), .int (iz (zL28 22))])), (rL28 10, .inl (cB, nL28 10, .inl (iA (FL28 10)))), (o 11, .inr (2, [.ref (rL28 11), .int (iz (zL28 11)), .int (iz (zL28 23))])), (rL28 11, .inl (cB, nL28 11, .inl (iA (FL28 11))))] ++ (eP cI N Eo Er_13 En_14 Ez_15 EF_16)) := hD
            have hP : va_P (dC, dI) kxCl ((xU cI cB cE (va_up (va_up o 10 (o 11)) 11 (o 10)) (va_up (va_up rL28 10 (rL28 11)) 11 (rL28 10)) (va_up (va_up nL28 10 (nL28 11)) 11 (nL28 10)) (va_up (va_up (va_up (va_up zL28 10 (zL28 11)) 11 (zL28 10)) 22 (zL28 23)) 23 (zL28 22)) (va_up (va_up FL28 10 (FL28 11)) 11 (FL28 10)) G (Eo 0 0)) ++ (eP cI N Eo Er_13 En_14 Ez_15 EF_16)) H := va_P.part (cx := (xU cI cB cE (va_up (va_up o 10 (o 11)) 11 (o 10)) (va_up (va_up rL28 10 (rL28 11)) 11 (rL28 10)) (va_up (va_up nL28 10 (nL28 11)) 11 (nL28 10)) (va_up (va_up (va_up (va_up zL28 10 (zL28 11)) 11 (zL28 10)) 22 (zL28 23)) 23 (zL28 22)) (va_up (va_up FL28 10 (FL28 11)) 11 (FL28 10)) G (Eo 0 0))) hP [0, 1, 2, 3, 4, 5, 6, 7, 8, 9, 10, 11, 12, 13, 14, 15, 16, 17, 18, 19, 20, 21, 22, 23, 24, 27, 28, 25, 26] rfl
            have hD : va_D A ((xU cI cB cE (va_up (va_up o 10 (o 11)) 11 (o 10)) (va_up (va_up rL28 10 (rL28 11)) 11 (rL28 10)) (va_up (va_up nL28 10 (nL28 11)) 11 (nL28 10)) (va_up (va_up (va_up (va_up zL28 10 (zL28 11)) 11 (zL28 10)) 22 (zL28 23)) 23 (zL28 22)) (va_up (va_up FL28 10 (FL28 11)) 11 (FL28 10)) G (Eo 0 0)) ++ (eP cI N Eo Er_13 En_14 Ez_15 EF_16)) := va_D.part (cx := (xU cI cB cE (va_up (va_up o 10 (o 11)) 11 (o 10)) (va_up (va_up rL28 10 (rL28 11)) 11 (rL28 10)) (va_up (va_up nL28 10 (nL28 11)) 11 (nL28 10)) (va_up (va_up (va_up (va_up zL28 10 (zL28 11)) 11 (zL28 10)) 22 (zL28 23)) 23 (zL28 22)) (va_up (va_up FL28 10 (FL28 11)) 11 (FL28 10)) G (Eo 0 0))) hD [0, 1, 2, 3, 4, 5, 6, 7, 8, 9, 10, 11, 12, 13, 14, 15, 16, 17, 18, 19, 20, 21, 22, 23, 24, 27, 28, 25, 26] (by decide) rfl
            refine lv_aload_n hx hb dX5_print_167 rfl (lv_at hl 3 rfl) ?_
            refine va_get (D := (dC, dI)) (ci := 5) (v := .ref (o 11)) (C := RX5) (T := TX5) (N := 16) hx hb hts kt_X5 hown hK hP 0 rfl rfl 14 (by decide) (kx_word hG kq_21_xcalls_57 rfl) (fun _ h9 => h9) rfl dX5_print_168 ?_
            have hPc := hP.sub (ws' := (pU cB (o 11) (rL28 11) (nL28 11) (zL28 11) (zL28 23) (FL28 11))) [25, 26] rfl
            refine xk_pure (va_runV (As := []) (rest := []) ⟨hx, hb, hml, hown, hts⟩ (x_psize l dC dI cI cB cE (o 11) (rL28 11) (nL28 11) (zL28 11) (zL28 23) (FL28 11)  H.size ) (cwV 0 hts (kx_gV kq_21_xcalls_58 kq_21_xcalls_59 kq_21_xcalls_60 kq_15_xspan_17 kq_21_xcalls_61 rfl) rfl rfl rfl (by decide +kernel) ⟨Nat.le_of_ble_eq_true rfl, Nat.le_of_ble_eq_true rfl⟩) ⟨pPre_blind, va_recv hK hPc (ci := 2) (q0 := 0) rfl rfl, pPre_give hPc hK hG⟩ rfl rfl hl.1 rfl (lv_room (Nat.le_of_ble_eq_true rfl)) dX5_print_171 ⟨show cv + 0 ≤ 1200 from (by omega), show sv + 0 ≤ 600000 from (by omega)⟩) hS (fun z_45 locs hq_44 hS => ?_)
            refine W.eq (g2 := F0 m 174 ls [.int (iz z_45)]) rfl ?_
            try dsimp only at hq_44
            have hq_44 := hq_44.symm
            subst hq_44
            have hok46 : xOk (va_up (va_up nL28 10 (nL28 11)) 11 (nL28 10)) (va_up (va_up (va_up (va_up zL28 10 (zL28 11)) 11 (zL28 10)) 22 (zL28 23)) 23 (zL28 22)) (va_up (va_up FL28 10 (FL28 11)) 11 (FL28 10)) := ((((hRLL28.1.p 10 (by decide) (show 0 ≤ zL28 11 ∧ zL28 11 ≤ ((nL28 11 : Nat) : Int) ∧ (nL28 11 = 0 ∨ nL28 11 = 6000) by omega) (hRLL28.1.2.2.1 11)).p 11 (by decide) (show 0 ≤ zL28 10 ∧ zL28 10 ≤ ((nL28 10 : Nat) : Int) ∧ (nL28 10 = 0 ∨ nL28 10 = 6000) by omega) (hRLL28.1.2.2.1 10)).s 22 (by decide) (show -2147483648 ≤ zL28 23 ∧ zL28 23 < 2147483648 by omega) (by omega)).s 23 (by decide) (show -2147483648 ≤ zL28 22 ∧ zL28 22 < 2147483648 by omega) (by omega))
            have hfr46 : xFr [0, 1, 2, 4, 5, 6, 7, 8, 9, 10, 11, 15, 16, 22, 23] [0, 1, 2, 4, 5, 6, 7, 8, 9, 10, 11] z F (va_up (va_up (va_up (va_up zL28 10 (zL28 11)) 11 (zL28 10)) 22 (zL28 23)) 23 (zL28 22)) (va_up (va_up FL28 10 (FL28 11)) 11 (FL28 10)) := ((((((hRLL28.2.1.uz 10 (by decide) _).uz 11 (by decide) _).uz 22 (by decide) _).uz 23 (by decide) _).uf 10 (by decide) _).uf 11 (by decide) _)
            have hcg46 : (0) + xg (va_up (va_up nL28 10 (nL28 11)) 11 (nL28 10)) ≤ xg nL28 := by unfold xg; simp (decide := true) only [va_ev, ↓reduceIte]; omega
            have hcp46 : (0) + xp (va_up (va_up nL28 10 (nL28 11)) 11 (nL28 10)) ≤ xp nL28 := by unfold xp; simp (decide := true) only [va_ev, ↓reduceIte]; omega
            rw [← hQe]
            refine vx_ret ?_
            exact xk_iret (ov := (fun u : (Int) × (Nat → Nat) × (Nat → Nat) × (Nat → Nat) × (Nat → Int) × (Nat → Int → Int) × (Nat → Nat → Nat) × (Nat → Nat → Nat) × (Nat → Nat → Int) × (Nat → Nat → Int → Int) => match u with | (q, o', r', n', z', F', Er', En', Ez', EF') => some (.int (iz q)))) (post := (fun (u : (Int) × (Nat → Nat) × (Nat → Nat) × (Nat → Nat) × (Nat → Int) × (Nat → Int → Int) × (Nat → Nat → Nat) × (Nat → Nat → Nat) × (Nat → Nat → Int) × (Nat → Nat → Int → Int)) (dn dm : Nat) => match u with | (q, o', r', n', z', F', Er', En', Ez', EF') => xR [0, 1, 2, 4, 5, 6, 7, 8, 9, 10, 11, 15, 16, 22, 23] [0, 1, 2, 4, 5, 6, 7, 8, 9, 10, 11] [10] [] N z F En Ez EF n' z' F' En' Ez' EF' ∧ (dn + xg n' ≤ xg n + 0 ∧ dm + xp n' ≤ xp n + 0) ∧ ((∀ k, k ≠ 10 → k ≠ 11 → o' k = o k) ∧ rs_RK z' F' Ez' lv ab Wd cm ∧ lo_K z' F' Ez' EF' ∧ ((0 ≤ pt_ft (F 3) (z 3) (z 3).toNat 0 0 ∧ q = -1 - pt_ft (F 3) (z 3) (z 3).toNat 0 0 ∧ z' 10 = z 10 ∧ F' 10 = F 10) ∨ (pt_ft (F 3) (z 3) (z 3).toNat 0 0 = -1 ∧ z' 15 = 1 ∧ q = z' 10 ∧ pt_h (pt_l (pt_aE lv ab (F' 3) (F' 1) (z' 3) (z' 12) Ez' EF' (z' 1).toNat)) (F' 10) (z' 10) 0))))) (ws := (fun u : (Int) × (Nat → Nat) × (Nat → Nat) × (Nat → Nat) × (Nat → Int) × (Nat → Int → Int) × (Nat → Nat → Nat) × (Nat → Nat → Nat) × (Nat → Nat → Int) × (Nat → Nat → Int → Int) => match u with | (q, o', r', n', z', F', Er', En', Ez', EF') => (xU cI cB cE o' r' n' z' F' G (Eo 0 0) ++ eP cI N Eo Er' En' Ez' EF'))) (tys := xT cI cB cE) (z := zL28 11) (zL28 11, (va_up (va_up o 10 (o 11)) 11 (o 10)), (va_up (va_up rL28 10 (rL28 11)) 11 (rL28 10)), (va_up (va_up nL28 10 (nL28 11)) 11 (nL28 10)), (va_up (va_up (va_up (va_up zL28 10 (zL28 11)) 11 (zL28 10)) 22 (zL28 23)) 23 (zL28 22)), (va_up (va_up FL28 10 (FL28 11)) 11 (FL28 10)), Er_13, En_14, Ez_15, EF_16) hx hb hr rfl hlocks rfl hP hD hK hS dX5_print_174 (fun dn dm hdn hdm => ⟨⟨hok46, hfr46, hRLL28.2.2.1, hRLL28.2.2.2⟩, ⟨by omega, by omega⟩, ⟨fun k h1 h2 => by rw [va_ev, if_neg h2, va_ev, if_neg h1], hrkL, hckL, Or.inr ⟨by omega, (show zL28 15 = 1 by omega), rfl, (show pt_h (pt_l (pt_aE lv ab (FL28 3) (FL28 1) (zL28 3) (zL28 12) Ez_15 EF_16 (zL28 1).toNat)) (FL28 11) (zL28 11) 0 from (by rw [hF3L, hF1L, hz3L, hz12L, show (zL28 1).toNat = k.toNat by omega]; have h9 := hXw; rw [show zL28 23 = 0 by omega] at h9; exact h9))⟩⟩⟩) (by omega) (by omega)
          · skip
            rw [← hQe]
            exact ky_thr_UOE hx hb hlf hown hG hZ hS (hl.1.trans hml.symm) dX5_print_141 dX5_print_144 dX5_print_145 dX5_print_148 htab (Nat.le_of_ble_eq_true rfl) (Nat.le_of_ble_eq_true rfl) (show cv + 1 ≤ 1200 from (by omega)) (show sv + 6 ≤ 600000 from (by omega)) hlocks (⟨rfl, by first | trivial | omega⟩) (fun t hvm h1 h2 => ⟨(rL28, nL28, zL28, FL28, Er_13, En_14, Ez_15, EF_16), ⟨hRLL28.1, hRLL28.2.1, hRLL28.2.2.1, hRLL28.2.2.2⟩, ⟨hrkL, hckL, by omega, by omega, (by show 6000 < (pt_aE lv ab (FL28 3) (FL28 1) (zL28 3) (zL28 12) Ez_15 EF_16 (zL28 1).toNat).length; rw [hF3L, hF1L, hz3L, hz12L]; have q9 := pt_al_le (P := pt_PE lv ab (F 3) (z 3) (z 12) Ez_15 EF_16) (lv := pt_lE Ez_15) (g := pt_gE lv ab Ez_15 EF_16) (R := F_12 1) k.toNat ((zL28 1).toNat - k.toNat); have q8 : (pt_aE lv ab (F 3) (F_12 1) (z 3) (z 12) Ez_15 EF_16 k.toNat).length ≤ (pt_aE lv ab (F 3) (F_12 1) (z 3) (z 12) Ez_15 EF_16 (k.toNat + ((zL28 1).toNat - k.toNat))).length := q9; rw [show k.toNat + ((zL28 1).toNat - k.toNat) = (zL28 1).toNat by omega] at q8; rcases hXw.2.2 with h9 | h9; (have q7 := h9.2; rw [pt_l_len] at q7; omega); omega), by omega, hF10L⟩, hP.kept (fun k q hk => h2 q.1 (hP k q hk).lt), va_K.moved hvm hK, hD⟩) hS.2.2 (by omega) (by omega) (by omega) (by omega)
        · skip
          refine lv_aload_n hx hb dX5_print_39 rfl (lv_at hl 3 rfl) ?_
          refine va_get (D := (dC, dI)) (ci := 5) (v := .ref (o 11)) (C := RX5) (T := TX5) (N := 16) hx hb hts kt_X5 hown hK hP 0 rfl rfl 15 (by decide) (kx_word hG kq_19_xouts_60 rfl) (fun _ h9 => h9) rfl dX5_print_40 ?_
          have hxz_47 : -2147483648 ≤ zL28 23 ∧ zL28 23 < 2147483648 := hRLL28.1.2.2.2.1 23
          have hxb_48 : zL28 23 = 0 ∨ zL28 23 = 1 := hRLL28.1.2.2.2.2 23 (by decide)
          refine va_getN (D := (dC, dI)) (ci := 2) (v := .int (iz (zL28 23))) (C := RX2) (T := TX2) (N := 3) hx hb hts kt_X2 hown hK hP 27 rfl rfl 2 (by decide) (va_Nw.use rfl (kx_nf hG kq_24_xnew_8)) (fun _ h9 => h9) rfl dX5_print_43 ?_
          refine ki_if_ne (tgt := 131) hx hb dX5_print_46 (by decide) (by omega) (by omega) (fun c_49 => ?_) (fun c_49 => ?_)
          · skip
            refine lv_aload_n hx hb dX5_print_131 rfl (lv_at hl 3 rfl) ?_
            refine va_get (D := (dC, dI)) (ci := 5) (v := .ref (o 11)) (C := RX5) (T := TX5) (N := 16) hx hb hts kt_X5 hown hK hP 0 rfl rfl 15 (by decide) (kx_word hG kq_19_xouts_60 rfl) (fun _ h9 => h9) rfl dX5_print_132 ?_
            refine va_getN (D := (dC, dI)) (ci := 2) (v := .int (iz (zL28 23))) (C := RX2) (T := TX2) (N := 3) hx hb hts kt_X2 hown hK hP 27 rfl rfl 2 (by decide) (va_Nw.use rfl (kx_nf hG kq_24_xnew_8)) (fun _ h9 => h9) rfl dX5_print_135 ?_
            refine ki_if_eq (tgt := 149) hx hb dX5_print_138 (by decide) (by omega) (by omega) (fun c_50 => ?_) (fun c_50 => ?_)
            · omega
            · skip
              rw [← hQe]
              exact ky_thr_UOE hx hb hlf hown hG hZ hS (hl.1.trans hml.symm) dX5_print_141 dX5_print_144 dX5_print_145 dX5_print_148 htab (Nat.le_of_ble_eq_true rfl) (Nat.le_of_ble_eq_true rfl) (show cv + 1 ≤ 1200 from (by omega)) (show sv + 6 ≤ 600000 from (by omega)) hlocks (⟨rfl, by first | trivial | omega⟩) (fun t hvm h1 h2 => ⟨(rL28, nL28, zL28, FL28, Er_13, En_14, Ez_15, EF_16), ⟨hRLL28.1, hRLL28.2.1, hRLL28.2.2.1, hRLL28.2.2.2⟩, ⟨hrkL, hckL, by omega, by omega, (by show 6000 < (pt_aE lv ab (FL28 3) (FL28 1) (zL28 3) (zL28 12) Ez_15 EF_16 (zL28 1).toNat).length; rw [hF3L, hF1L, hz3L, hz12L]; have q9 := pt_al_le (P := pt_PE lv ab (F 3) (z 3) (z 12) Ez_15 EF_16) (lv := pt_lE Ez_15) (g := pt_gE lv ab Ez_15 EF_16) (R := F_12 1) k.toNat ((zL28 1).toNat - k.toNat); have q8 : (pt_aE lv ab (F 3) (F_12 1) (z 3) (z 12) Ez_15 EF_16 k.toNat).length ≤ (pt_aE lv ab (F 3) (F_12 1) (z 3) (z 12) Ez_15 EF_16 (k.toNat + ((zL28 1).toNat - k.toNat))).length := q9; rw [show k.toNat + ((zL28 1).toNat - k.toNat) = (zL28 1).toNat by omega] at q8; rcases hXw.2.2 with h9 | h9; (have q7 := h9.2; rw [pt_l_len] at q7; omega); omega), by omega, hF10L⟩, hP.kept (fun k q hk => h2 q.1 (hP k q hk).lt), va_K.moved hvm hK, hD⟩) hS.2.2 (by omega) (by omega) (by omega) (by omega)
          · skip
            refine lv_aload_n hx hb dX5_print_49 rfl (lv_at hl 3 rfl) ?_
            refine va_get (D := (dC, dI)) (ci := 5) (v := .ref (o 1)) (C := RX5) (T := TX5) (N := 16) hx hb hts kt_X5 hown hK hP 0 rfl rfl 6 (by decide) (kx_word hG kq_18_xrows_47 rfl) (fun _ h9 => h9) rfl dX5_print_50 ?_
            refine lv_iload_n hx hb dX5_print_53 rfl (lv_at hl 0 rfl) ?_
            have hPc := hP.sub (ws' := (iU cI 80 (o 1) (rL28 1) (nL28 1) (zL28 1) (FL28 1))) [4, 5] rfl
            refine xk_pure (va_runV (As := [.int (iz k)]) (rest := []) ⟨hx, hb, hml, hown, hts⟩ (x_get l dC dI cI cB cE 80 (o 1) (rL28 1) (nL28 1) (zL28 1) (FL28 1) k H.size (by omega) (hRLL28.1.2.2.1 1) (by omega) (by omega)) (cwV 1 hts (kx_gV kq_18_xrows_41 kq_13_xints_4 kq_13_xints_5 kq_13_xints_6 kq_13_xints_7 rfl) rfl rfl rfl (by decide +kernel) ⟨Nat.le_of_ble_eq_true rfl, Nat.le_of_ble_eq_true rfl⟩) ⟨pPre_blind, va_recv hK hPc (ci := 1) (q0 := 0) rfl rfl, pPre_give hPc hK hG⟩ rfl rfl hl.1 rfl (lv_room (Nat.le_of_ble_eq_true rfl)) dX5_print_54 ⟨show cv + 0 ≤ 1200 from (by omega), show sv + 0 ≤ 600000 from (by omega)⟩) hS (fun z_52 locs hq_51 hS => ?_)
            refine W.eq (g2 := F0 m 57 ls [.int (iz z_52)]) rfl ?_
            try dsimp only at hq_51
            have eg_53 : z_52 = FL28 1 k := by omega
            subst eg_53
            refine W.eq (g2 := F0 m 57 ls [.int (iz (FL28 1 k))]) rfl ?_
            have hRrhme_54 := hrkL (by omega)
            have hme_54 := (hRrhme_54.2.2 (FL28 1 k)).mp ⟨k, by omega, by omega, rfl⟩
            refine lv_istore (lv' := [(4, .int (iz (FL28 1 k))), (3, .int (iz k)), (2, .int (iz gv)), (1, .int (iz z_3)), (0, .ref (o 15))]) hx hb dX5_print_57 hl (by decide) rfl (fun ls hl => ?_)
            refine lv_aload_n hx hb dX5_print_59 rfl (lv_at hl 4 rfl) ?_
            refine lv_iload hx hb dX5_print_60 (lv_at hl 0 rfl) ?_
            have hxz_55 : -2147483648 ≤ zL28 12 ∧ zL28 12 < 2147483648 := hRLL28.1.2.2.2.1 12
            have hxG9 : xG N (zL28 12) G Eo := ⟨by omega, by omega, by omega, fun e9 h9 => hN4 e9 (by omega)⟩
            have hP : va_P (dC, dI) kxCl (xU cI cB cE o rL28 nL28 zL28 FL28 G (Eo 0 0) ++ eP cI N Eo Er_13 En_14 Ez_15 EF_16) H := hP
            refine xk_pure (va_runV (As := [.int (iz (FL28 1 k))]) (rest := []) ⟨hx, hb, hml, hown, hts⟩ (y_known l dC dI cI cB cE o rL28 nL28 zL28 FL28 G N Eo Er_13 En_14 Ez_15 EF_16 (FL28 1 k) H.size hRLL28.1 hxG9 hRLL28.2.2.1 (by omega) (by omega)) (cwV 1 hts (kx_gV kq_18_xrows_8 kq_18_xrows_9 kq_18_xrows_10 kq_18_xrows_4 kq_18_xrows_11 rfl) rfl rfl rfl (by decide +kernel) ⟨Nat.le_of_ble_eq_true rfl, Nat.le_of_ble_eq_true rfl⟩) ⟨pPre_blind, va_recv hK hP (ci := 5) (q0 := 0) rfl rfl, pPre_give hP hK hG⟩ rfl rfl hl.1 rfl (lv_room (Nat.le_of_ble_eq_true rfl)) dX5_print_62 ⟨show cv + 0 ≤ 1200 from (by omega), show sv + 0 ≤ 600000 from (by omega)⟩) hS (fun z_57 locs hq_56 hS => ?_)
            refine W.eq (g2 := F0 m 65 ls [.ref z_57.toNat]) rfl ?_
            try dsimp only at hq_56
            obtain ⟨j58, hj58, ez58, hje58⟩ := hq_56
            subst ez58
            refine W.eq (g2 := F0 m 65 ls [.ref (Eo j58 0)]) rfl ?_
            have ej58 : j58 = (FL28 1 k + 1).toNat := by omega
            subst ej58
            have hRH7 : rs_H (z 12) Ez_15 EF_16 lv ab Wd cm := hRH.fr hRLL28.2.2.2 (by decide) (by decide)
            have hlv7 := (hRH7.2.1 (FL28 1 k) (by omega) (by omega)).1
            have hlv8 := (hRH7.1.1 (FL28 1 k) (by omega) (by omega)).1
            have hP := eP_foc hj58 hP
            have hD := eD_foc hj58 hD
            have hez_59 : -2147483648 ≤ Ez_15 ((FL28 1 k + 1).toNat) 7 ∧ Ez_15 ((FL28 1 k + 1).toNat) 7 < 2147483648 := (hRLL28.2.2.1 ((FL28 1 k + 1).toNat) hj58).2.2 7
            refine va_getN (D := (dC, dI)) (ci := 0) (v := .int (iz (Ez_15 ((FL28 1 k + 1).toNat) 7))) (C := RX0) (T := TX0) (N := 12) hx hb hts kt_X0 hown hK hP 29 rfl rfl 0 (by decide) (va_Nw.use rfl (kx_nf hG kq_18_xrows_12)) (fun _ h9 => h9) rfl dX5_print_65 ?_
            refine lv_istore (lv' := [(5, .int (iz (Ez_15 ((FL28 1 k + 1).toNat) 7))), (4, .int (iz (FL28 1 k))), (3, .int (iz k)), (2, .int (iz gv)), (1, .int (iz z_3)), (0, .ref (o 15))]) hx hb dX5_print_68 hl (by decide) rfl (fun ls hl => ?_)
            refine lv_aload_n hx hb dX5_print_70 rfl (lv_at hl 5 rfl) ?_
            refine lv_iload hx hb dX5_print_71 (lv_at hl 1 rfl) ?_
            have hP := eP_un0 hj58 hP
            have hD := eD_un0 hj58 hD
            have hxG9 : xG N (zL28 12) G Eo := ⟨by omega, by omega, by omega, fun e9 h9 => hN4 e9 (by omega)⟩
            have hP : va_P (dC, dI) kxCl (xU cI cB cE o rL28 nL28 zL28 FL28 G (Eo 0 0) ++ eP cI N Eo Er_13 En_14 Ez_15 EF_16) H := hP
            refine xk_pure (va_runV (As := [.int (iz (FL28 1 k))]) (rest := []) ⟨hx, hb, hml, hown, hts⟩ (y_groupOf2 l dC dI cI cB cE o rL28 nL28 zL28 FL28 G N Eo Er_13 En_14 Ez_15 EF_16 (FL28 1 k) lv ab Wd cm H.size hRLL28.1 hxG9 hRLL28.2.2.1 (by omega) (by show rs_H (zL28 12) Ez_15 EF_16 lv ab Wd cm; rw [show zL28 12 = z 12 by omega]; exact hRH.fr hRLL28.2.2.2 (by decide) (by decide)) (by show ∀ e, 0 ≤ e → e < zL28 12 → 0 ≤ rs_sE Ez_15 e ∧ rs_sE Ez_15 e ≤ e; exact fun e a b => (hRrhme_54.1 e a (by omega)).1) (show zL28 12 ≤ 78 by omega) (fun e a b => rs_P_lv (rs_C_P hRH.1.2.1 hRrhme_54.1) a b)) (cwV 1 hts (kx_gV kq_21_xcalls_37 kq_21_xcalls_38 kq_21_xcalls_39 kq_18_xrows_4 kq_21_xcalls_40 rfl) rfl rfl rfl (by decide +kernel) ⟨Nat.le_of_ble_eq_true rfl, Nat.le_of_ble_eq_true rfl⟩) ⟨pPre_blind, va_recv hK hP (ci := 5) (q0 := 0) rfl rfl, pPre_give hP hK hG⟩ rfl rfl hl.1 rfl (lv_room (Nat.le_of_ble_eq_true rfl)) dX5_print_73 ⟨show cv + 0 ≤ 1200 from (by omega), show sv + 0 ≤ 600000 from (by omega)⟩) hS (fun z_61 locs hq_60 hS => ?_)
            refine W.eq (g2 := F0 m 76 ls [.int (iz z_61)]) rfl ?_
            try dsimp only at hq_60
            have eg_62 : z_61 = pt_gE lv ab Ez_15 EF_16 (FL28 1 k) := hq_60.1
            have hgb9 : -2147483648 ≤ pt_gE lv ab Ez_15 EF_16 (FL28 1 k) ∧ pt_gE lv ab Ez_15 EF_16 (FL28 1 k) < 2147483648 := by rw [← eg_62]; exact hq_60.2
            subst eg_62
            refine W.eq (g2 := F0 m 76 ls [.int (iz (pt_gE lv ab Ez_15 EF_16 (FL28 1 k)))]) rfl ?_
            replace hq_60 := fun (_ : Unit) => hq_60
            refine lv_istore (lv' := [(6, .int (iz (pt_gE lv ab Ez_15 EF_16 (FL28 1 k)))), (5, .int (iz (Ez_15 ((FL28 1 k + 1).toNat) 7))), (4, .int (iz (FL28 1 k))), (3, .int (iz k)), (2, .int (iz gv)), (1, .int (iz z_3)), (0, .ref (o 15))]) hx hb dX5_print_76 hl (by decide) rfl (fun ls hl => ?_)
            refine lv_aload_n hx hb dX5_print_78 rfl (lv_at hl 6 rfl) ?_
            refine lv_iload hx hb dX5_print_79 (lv_at hl 2 rfl) ?_
            have hxG9 : xG N (zL28 12) G Eo := ⟨by omega, by omega, by omega, fun e9 h9 => hN4 e9 (by omega)⟩
            have hP : va_P (dC, dI) kxCl (xU cI cB cE o rL28 nL28 zL28 FL28 G (Eo 0 0) ++ eP cI N Eo Er_13 En_14 Ez_15 EF_16) H := hP
            have hD : va_D A (xU cI cB cE o rL28 nL28 zL28 FL28 G (Eo 0 0) ++ eP cI N Eo Er_13 En_14 Ez_15 EF_16) := hD
            have hFc := xw_free hD hS hA
            refine xk_call (va_runV (As := [.int (iz (FL28 1 k))]) (rest := []) ⟨hx, hb, hml, hown, hts⟩ (y_findLocators7 l dC dI cI cB cE o rL28 nL28 zL28 FL28 G N Eo Er_13 En_14 Ez_15 EF_16 (FL28 1 k) H.size hRLL28.1 hxG9 hRLL28.2.2.1 (by omega) (by show ∀ e, 0 ≤ e → e < zL28 12 → 0 ≤ rs_sE Ez_15 e ∧ rs_sE Ez_15 e ≤ e; exact fun e a b => (hRrhme_54.1 e a (by omega)).1) (show zL28 12 ≤ 78 by omega) (by show lo_H (zL28 12) Ez_15 EF_16; rw [show zL28 12 = z 12 by omega]; exact lo_H.fr lH hRLL28.2.2.2 (by decide) (by decide)) (hckL.imp id (fun h9 => ⟨h9.2.1, h9.2.2⟩))) (cwV 1 hts (kx_gV kq_21_xcalls_29 kq_21_xcalls_30 kq_21_xcalls_31 kq_18_xrows_4 kq_21_xcalls_32 rfl) rfl rfl rfl (by decide +kernel) ⟨Nat.le_of_ble_eq_true rfl, Nat.le_of_ble_eq_true rfl⟩) ⟨kx_blind, va_recv hK hP (ci := 5) (q0 := 0) rfl rfl, kx_give (ws := []) (tys := []) hP hD hK hG hZ hS hFc⟩ rfl rfl hl.1 rfl (lv_room (Nat.le_of_ble_eq_true rfl)) dX5_print_81 ⟨show cv + 400 ≤ 1200 from (by omega), show sv + 170000 ≤ 600000 from (by omega)⟩) hS (fun q _ h => hFc q h) hFc (fun u dn_65 dm_66 t H locs ht hvm hq_63 hB hk1 hS => ?_)
            obtain ⟨r_67, n_68, z_69, F_70, Er_71, En_72, Ez_73, EF_74⟩ := u
            obtain ⟨hP, hK1, hD1⟩ := hB
            rw [ht] at hP
            have hD := hD1.weaken (fun _ q _ h => hFc _ h)
            obtain ⟨hR75, hC75, hq_63⟩ := hq_63
            obtain ⟨hn1175, hq_63⟩ := hq_63
            have hn1175 : n_68 11 = nL28 11 := hn1175
            have hok75 := hR75.1
            have hfr75 := hRLL28.2.1.tr (hR75.2.1.mono (S' := [0, 1, 2, 4, 5, 6, 7, 8, 9, 10, 11, 15, 16, 22, 23]) (T' := [0, 1, 2, 4, 5, 6, 7, 8, 9, 10, 11]) (by decide) (by decide))
            have hPE75 := hR75.2.2.1
            have hef75 := hRLL28.2.2.2.tr (hR75.2.2.2.mono (S' := [10]) (T' := []) (by decide) (by decide))
            have hz75 : z_69 12 = (zL28 12) := hR75.2.1.1 12 (by decide)
            have hkr75_1 : z_69 1 = zL28 1 := hR75.2.1.1 1 (by decide)
            have hkr75_15 : z_69 15 = zL28 15 := hR75.2.1.1 15 (by decide)
            have hkr75_10 : z_69 10 = zL28 10 := hR75.2.1.1 10 (by decide)
            have hkr75_11 : z_69 11 = zL28 11 := hR75.2.1.1 11 (by decide)
            have hkr75_23 : z_69 23 = zL28 23 := hR75.2.1.1 23 (by decide)
            have hkr75_2 : z_69 2 = zL28 2 := hR75.2.1.1 2 (by decide)
            have hkr75_3 : z_69 3 = zL28 3 := hR75.2.1.1 3 (by decide)
            refine W.eq (g2 := F0 m 84 ls []) rfl ?_
            try dsimp only at hq_63
            have hrk76 : rs_RK z_69 F_70 Ez_73 lv ab Wd cm := rs_RK.fr hrkL (hR75.2.1.1 15 (by decide)) (hR75.2.1.1 12 (by decide)) (hR75.2.1.1 1 (by decide)) (hR75.2.1.2 1 (by decide)) (fun j => hR75.2.2.2.1 j 10 (by decide))
            obtain ⟨hl1676, hlz76, hlq76, hkp76⟩ := hq_63
            obtain ⟨rfl, rfl, rfl, rfl⟩ := hkp76
            have hck76 : lo_K z_69 F_70 Ez_15 EF_16 := Or.inr ⟨by omega, hlz76, (by rw [hl1676, show z_69 12 = zL28 12 by omega]; exact hlq76)⟩
            have hF10_77 : F_70 10 = F 10 := (hR75.2.1.2 10 (by decide)).trans hF10L
            have hF1_78 : F_70 1 = FL28 1 := (hR75.2.1.2 1 (by decide)).trans rfl
            refine lv_aload_n hx hb dX5_print_84 rfl (lv_at hl 6 rfl) ?_
            refine lv_iload hx hb dX5_print_85 (lv_at hl 2 rfl) ?_
            have hxz_79 : -2147483648 ≤ z_69 12 ∧ z_69 12 < 2147483648 := hok75.2.2.2.1 12
            have hxG9 : xG N (z_69 12) G Eo := ⟨by omega, by omega, by omega, fun e9 h9 => hN4 e9 (by omega)⟩
            have hP : va_P (dC, dI) kxCl (xU cI cB cE o r_67 n_68 z_69 F_70 G (Eo 0 0) ++ eP cI N Eo Er_13 En_14 Ez_15 EF_16) H := hP
            have hD : va_D A (xU cI cB cE o r_67 n_68 z_69 F_70 G (Eo 0 0) ++ eP cI N Eo Er_13 En_14 Ez_15 EF_16) := hD
            have hFc := xw_free hD hS hA
            refine xk_call (va_runV (As := [.int (iz (FL28 1 k))]) (rest := []) ⟨hx, hb, hml, hown, hts⟩ (y_findSeen7 l dC dI cI cB cE o r_67 n_68 z_69 F_70 G N Eo Er_13 En_14 Ez_15 EF_16 (FL28 1 k) H.size hok75 hxG9 hPE75 (by omega) (by omega) (by show ∀ e, 0 ≤ e → e < z_69 12 → 0 ≤ rs_sE Ez_15 e ∧ rs_sE Ez_15 e ≤ e; exact fun e a b => (hRrhme_54.1 e a (by omega)).1) (show z_69 12 ≤ 78 by omega) (by show sn_H (z_69 12) Ez_15 EF_16; rw [show z_69 12 = z 12 by omega]; exact sn_H.fr sH hef75 (by decide) (by decide))) (cwV 1 hts (kx_gV kq_21_xcalls_33 kq_21_xcalls_34 kq_21_xcalls_35 kq_18_xrows_4 kq_21_xcalls_36 rfl) rfl rfl rfl (by decide +kernel) ⟨Nat.le_of_ble_eq_true rfl, Nat.le_of_ble_eq_true rfl⟩) ⟨kx_blind, va_recv hK hP (ci := 5) (q0 := 0) rfl rfl, kx_give (ws := []) (tys := []) hP hD hK hG hZ hS hFc⟩ rfl rfl hl.1 rfl (lv_room (Nat.le_of_ble_eq_true rfl)) dX5_print_87 ⟨show (cv + dn_65) + 260 ≤ 1200 from (by omega), show (sv + dm_66) + 110000 ≤ 600000 from (by omega)⟩) hS (fun q _ h => hFc q h) hFc (fun u dn_82 dm_83 t H locs ht hvm hq_80 hB hk1 hS => ?_)
            obtain ⟨r_84, n_85, z_86, F_87, Er_88, En_89, Ez_90, EF_91⟩ := u
            obtain ⟨hP, hK1, hD1⟩ := hB
            rw [ht] at hP
            have hD := hD1.weaken (fun _ q _ h => hFc _ h)
            obtain ⟨hR92, hC92, hq_80⟩ := hq_80
            obtain ⟨hn1192, hq_80⟩ := hq_80
            have hn1192 : n_85 11 = n_68 11 := hn1192
            have hok92 := hR92.1
            have hfr92 := hfr75.tr (hR92.2.1.mono (S' := [0, 1, 2, 4, 5, 6, 7, 8, 9, 10, 11, 15, 16, 22, 23]) (T' := [0, 1, 2, 4, 5, 6, 7, 8, 9, 10, 11]) (by decide) (by decide))
            have hPE92 := hR92.2.2.1
            have hef92 := hef75.tr (hR92.2.2.2.mono (S' := [10]) (T' := []) (by decide) (by decide))
            have hz92 : z_86 12 = (z_69 12) := hR92.2.1.1 12 (by decide)
            have hkr92_1 : z_86 1 = z_69 1 := hR92.2.1.1 1 (by decide)
            have hkr92_15 : z_86 15 = z_69 15 := hR92.2.1.1 15 (by decide)
            have hkr92_7 : z_86 7 = z_69 7 := hR92.2.1.1 7 (by decide)
            have hkr92_8 : z_86 8 = z_69 8 := hR92.2.1.1 8 (by decide)
            have hkr92_9 : z_86 9 = z_69 9 := hR92.2.1.1 9 (by decide)
            have hkr92_10 : z_86 10 = z_69 10 := hR92.2.1.1 10 (by decide)
            have hkr92_11 : z_86 11 = z_69 11 := hR92.2.1.1 11 (by decide)
            have hkr92_23 : z_86 23 = z_69 23 := hR92.2.1.1 23 (by decide)
            have hkr92_3 : z_86 3 = z_69 3 := hR92.2.1.1 3 (by decide)
            refine W.eq (g2 := F0 m 90 ls []) rfl ?_
            try dsimp only at hq_80
            have hrk93 : rs_RK z_86 F_87 Ez_90 lv ab Wd cm := rs_RK.fr hrk76 (hR92.2.1.1 15 (by decide)) (hR92.2.1.1 12 (by decide)) (hR92.2.1.1 1 (by decide)) (hR92.2.1.2 1 (by decide)) (fun j => hR92.2.2.2.1 j 10 (by decide))
            have hck93 : lo_K z_86 F_87 Ez_90 EF_91 := lo_K.fr hck76 (hR92.2.1.1 16 (by decide)) (hR92.2.1.1 15 (by decide)) (hR92.2.1.1 12 (by decide)) (hR92.2.1.1 7 (by decide)) (hR92.2.1.1 8 (by decide)) (hR92.2.1.1 9 (by decide)) (hR92.2.1.2 7 (by decide)) (hR92.2.1.2 8 (by decide)) (fun j => hR92.2.2.2.1 j 10 (by decide)) (fun j => hR92.2.2.2.1 j 4 (by decide)) (fun j => ⟨(hR92.2.2.2.2 j 4 (by decide)).2, (hR92.2.2.2.2 j 5 (by decide)).2, (hR92.2.2.2.2 j 6 (by decide)).2⟩)
            obtain ⟨hsl, hkp⟩ := hq_80
            obtain ⟨rfl, rfl, rfl, rfl⟩ := hkp
            have hF10_94 : F_87 10 = F 10 := (hR92.2.1.2 10 (by decide)).trans hF10_77
            have hlq7 : lo_Q (z 12) (rs_sE Ez_15) Ez_15 EF_16 (FL28 1 k) (lo_pl (F_87 7) (F_87 8) (z_86 7).toNat 0) := (by rw [hR92.2.1.2 7 (by decide), hR92.2.1.2 8 (by decide), hR92.2.1.1 7 (by decide)]; have h9 := hlq76; rw [show zL28 12 = z 12 by omega] at h9; exact h9)
            have hPL7 : lo_pl (F_87 7) (F_87 8) (z_86 7).toNat 0 = pt_lc (lo_row (rs_sE Ez_15) (lo_P Ez_15 EF_16) (FL28 1 k) (z 12).toNat) := lo_Q_lc hlq7 (show lo_H (z 12) Ez_15 EF_16 from lo_H.fr lH hef92 (by decide) (by decide))
            have hpv7 : ∀ y, y ∈ lo_pl (F_87 7) (F_87 8) (z_86 7).toNat 0 → pt_v y.1 ∧ pt_v y.2 := lo_Q_pv hlq7 (show lo_H (z 12) Ez_15 EF_16 from lo_H.fr lH hef92 (by decide) (by decide))
            have hSL7 : kf_ls (F_87 2) 0 (z_86 2).toNat = sn_r (rs_sE Ez_15) (sn_c Ez_15) (sn_f EF_16) (FL28 1 k) (z 12).toNat := (by have h9 := hsl; rw [show z_69 12 = z 12 by omega] at h9; exact h9)
            have hsH7 : sn_H (z 12) Ez_15 EF_16 := sn_H.fr sH hef92 (by decide) (by decide)
            have hsv7 : ∀ i, 0 ≤ i → i < z_86 2 → 0 ≤ F_87 2 i ∧ F_87 2 i < z_86 12 := fun i a9 b9 => by have h9 := pt_ls_at (A := fun x => 0 ≤ x ∧ x < z 12) (f := F_87 2) (n := z_86 2) (by rw [hSL7]; exact sn_r_mem (fun e c d => (hRrhme_54.1 e c (by omega)).1) hsH7 (z 12).toNat (by omega)) a9 b9; have h8 : 0 ≤ F_87 2 i ∧ F_87 2 i < z 12 := h9; omega
            have hlz7 : z_86 7 = z_86 8 ∧ z_86 8 = z_86 9 := by omega
            have hX0 : pt_X (FL28 11) (zL28 11) (zL28 23) [] (F_87 11) (z_86 11) (z_86 23) := (by rw [hR92.2.1.2 11 (by decide), hR92.2.1.1 11 (by decide), hR92.2.1.1 23 (by decide), hR75.2.1.2 11 (by decide), hR75.2.1.1 11 (by decide), hR75.2.1.1 23 (by decide)]; exact pt_X_nil _ _ _)
            have hF1_95 : F_87 1 = FL28 1 := (hR92.2.1.2 1 (by decide)).trans hF1_78
            refine lv_iload hx hb dX5_print_90 (lv_at hl 1 rfl) ?_
            refine ki_if_ne (tgt := 113) hx hb dX5_print_92 (by decide) (by omega) (by omega) (fun c_96 => ?_) (fun c_96 => ?_)
            · skip
              refine lv_aload_n hx hb dX5_print_113 rfl (lv_at hl 6 rfl) ?_
              refine lv_iconst (v := iz 1) hx hb dX5_print_114 (by decide) ?_
              refine lv_iload hx hb dX5_print_115 (lv_at hl 1 rfl) ?_
              refine ki_iadd hx hb dX5_print_117 ?_
              refine lv_iload hx hb dX5_print_118 (lv_at hl 2 rfl) ?_
              refine lv_iload hx hb dX5_print_120 (lv_at hl 0 rfl) ?_
              have hxz_97 : -2147483648 ≤ z_86 12 ∧ z_86 12 < 2147483648 := hok92.2.2.2.1 12
              have hxG9 : xG N (z_86 12) G Eo := ⟨by omega, by omega, by omega, fun e9 h9 => hN4 e9 (by omega)⟩
              have hP : va_P (dC, dI) kxCl (xU cI cB cE o r_84 n_85 z_86 F_87 G (Eo 0 0) ++ eP cI N Eo Er_13 En_14 Ez_15 EF_16) H := hP
              have hD : va_D A (xU cI cB cE o r_84 n_85 z_86 F_87 G (Eo 0 0) ++ eP cI N Eo Er_13 En_14 Ez_15 EF_16) := hD
              have hFc := xw_free hD hS hA
              refine xk_call (va_runV (As := [.int (iz (1 + (Ez_15 ((FL28 1 k + 1).toNat) 7))), .int (iz (FL28 1 k)), .int (iz (pt_gE lv ab Ez_15 EF_16 (FL28 1 k)))]) (rest := []) ⟨hx, hb, hml, hown, hts⟩ (y_writePart2 l dC dI cI cB cE o r_84 n_85 z_86 F_87 G N Eo Er_13 En_14 Ez_15 EF_16 (1 + (Ez_15 ((FL28 1 k + 1).toNat) 7)) (FL28 1 k) (pt_gE lv ab Ez_15 EF_16 (FL28 1 k)) H.size hok92 hxG9 hPE92 (by omega) (by omega) (by omega) (by omega) (by omega) (by omega) hlz7 hpv7 hsv7) (cwV 3 hts (kx_gV kq_24_xnew_9 kq_24_xnew_10 kq_24_xnew_11 kq_18_xrows_4 kq_24_xnew_12 rfl) rfl rfl rfl (by decide +kernel) ⟨Nat.le_of_ble_eq_true rfl, Nat.le_of_ble_eq_true rfl⟩) ⟨kx_blind, va_recv hK hP (ci := 5) (q0 := 0) rfl rfl, kx_give (ws := []) (tys := []) hP hD hK hG hZ hS hFc⟩ rfl rfl hl.1 rfl (lv_room (Nat.le_of_ble_eq_true rfl)) dX5_print_122 ⟨show ((cv + dn_65) + dn_82) + 200 ≤ 1200 from (by omega), show ((sv + dm_66) + dm_83) + 85000 ≤ 600000 from (by omega)⟩) hS (fun q _ h => hFc q h) hFc (fun u dn_100 dm_101 t H locs ht hvm hq_98 hB hk1 hS => ?_)
              obtain ⟨r_102, n_103, z_104, F_105, Er_106, En_107, Ez_108, EF_109⟩ := u
              obtain ⟨hP, hK1, hD1⟩ := hB
              rw [ht] at hP
              have hD := hD1.weaken (fun _ q _ h => hFc _ h)
              obtain ⟨hR110, hC110, hq_98⟩ := hq_98
              have hok110 := hR110.1
              have hfr110 := hfr92.tr (hR110.2.1.mono (S' := [0, 1, 2, 4, 5, 6, 7, 8, 9, 10, 11, 15, 16, 22, 23]) (T' := [0, 1, 2, 4, 5, 6, 7, 8, 9, 10, 11]) (by decide) (by decide))
              have hPE110 := hR110.2.2.1
              have hef110 := hef92.tr (hR110.2.2.2.mono (S' := [10]) (T' := []) (by decide) (by decide))
              have hz110 : z_104 12 = (z_86 12) := hR110.2.1.1 12 (by decide)
              have hkr110_1 : z_104 1 = z_86 1 := hR110.2.1.1 1 (by decide)
              have hkr110_15 : z_104 15 = z_86 15 := hR110.2.1.1 15 (by decide)
              have hkr110_7 : z_104 7 = z_86 7 := hR110.2.1.1 7 (by decide)
              have hkr110_8 : z_104 8 = z_86 8 := hR110.2.1.1 8 (by decide)
              have hkr110_9 : z_104 9 = z_86 9 := hR110.2.1.1 9 (by decide)
              have hkr110_10 : z_104 10 = z_86 10 := hR110.2.1.1 10 (by decide)
              have hkr110_2 : z_104 2 = z_86 2 := hR110.2.1.1 2 (by decide)
              have hkr110_3 : z_104 3 = z_86 3 := hR110.2.1.1 3 (by decide)
              refine W.eq (g2 := F0 m 125 ls []) rfl ?_
              try dsimp only at hq_98
              rw [show F_87 3 = F 3 from hfr92.2 3 (by decide), show z_86 3 = z 3 from hfr92.1 3 (by decide), hPL7, hSL7] at hq_98
              have hrk111 : rs_RK z_104 F_105 Ez_108 lv ab Wd cm := rs_RK.fr hrk93 (hR110.2.1.1 15 (by decide)) (hR110.2.1.1 12 (by decide)) (hR110.2.1.1 1 (by decide)) (hR110.2.1.2 1 (by decide)) (fun j => hR110.2.2.2.1 j 10 (by decide))
              have hck111 : lo_K z_104 F_105 Ez_108 EF_109 := lo_K.fr hck93 (hR110.2.1.1 16 (by decide)) (hR110.2.1.1 15 (by decide)) (hR110.2.1.1 12 (by decide)) (hR110.2.1.1 7 (by decide)) (hR110.2.1.1 8 (by decide)) (hR110.2.1.1 9 (by decide)) (hR110.2.1.2 7 (by decide)) (hR110.2.1.2 8 (by decide)) (fun j => hR110.2.2.2.1 j 10 (by decide)) (fun j => hR110.2.2.2.1 j 4 (by decide)) (fun j => ⟨(hR110.2.2.2.2 j 4 (by decide)).2, (hR110.2.2.2.2 j 5 (by decide)).2, (hR110.2.2.2.2 j 6 (by decide)).2⟩)
              obtain ⟨hX112, hnn112, hkp112⟩ := hq_98
              obtain ⟨rfl, rfl, rfl, rfl⟩ := hkp112
              have hF10_113 : F_105 10 = F 10 := (hR110.2.1.2 10 (by decide)).trans hF10_94
              have hXp112 : pt_X (F_87 11) (z_86 11) (z_86 23) (pt_l (pt_PE lv ab (F 3) (z 3) (z 12) Ez_15 EF_16 ((1 + (Ez_15 ((FL28 1 k + 1).toNat) 7))) (FL28 1 k))) (F_105 11) (z_104 11) (z_104 23) := hX112
              have hY112 := pt_X_app hX0 hXp112
              have hF1_114 : F_105 1 = FL28 1 := (hR110.2.1.2 1 (by decide)).trans hF1_95
              refine lv_iinc (v := iz (k + 1)) (lv' := [(3, .int (iz (k + 1))), (6, .int (iz (pt_gE lv ab Ez_15 EF_16 (FL28 1 k)))), (5, .int (iz (Ez_15 ((FL28 1 k + 1).toNat) 7))), (4, .int (iz (FL28 1 k))), (2, .int (iz gv)), (1, .int (iz z_3)), (0, .ref (o 15))]) hx hb dX5_print_125 hl (k := 3) rfl (iz_add k 1) (by decide) rfl (fun ls hl => ?_)
              refine lv_goto (tgt := 28) hx hb dX5_print_128 (by decide) ?_
              exact ih28 gv (k + 1) r_102 n_103 z_104 F_105 (((cv + dn_65) + dn_82) + dn_100) (((sv + dm_66) + dm_83) + dm_101) ⟨⟨hok110, hfr110, hPE110, hef110⟩, ⟨by omega, by omega⟩, (show z_104 12 = z 12 by omega), (by rw [pt_gb_s (show 0 ≤ k by omega)]; first | (rw [if_pos (show pt_lE Ez_15 (F_12 1 k) = 0 from (by show Ez_15 ((F_12 1 k + 1).toNat) 7 = 0; rw [← hF1L]; omega))]; (rw [← hF1L]; first | done | rfl | omega)) | (rw [if_neg (show ¬ pt_lE Ez_15 (F_12 1 k) = 0 from (by show ¬ Ez_15 ((F_12 1 k + 1).toNat) 7 = 0; rw [← hF1L]; omega))]; exact hgv)), by omega, by omega, hrk111, hck111, (show z_104 15 = 1 by omega), (show n_103 11 = 6000 by omega), hF10_113, (show z_104 10 = z 10 by omega), (by rw [← hF1L]; exact hF1_114), (show z_104 1 = z_11 1 by omega), (by show pt_h (pt_l (pt_al (pt_PE lv ab (F 3) (z 3) (z 12) Ez_15 EF_16) (pt_lE Ez_15) (pt_gE lv ab Ez_15 EF_16) (F_12 1) (k + 1).toNat)) (F_105 11) (z_104 11) (z_104 23); rw [pt_al_s (show 0 ≤ k by omega), if_neg (show ¬ (pt_lE Ez_15 (F_12 1 k) = 0 ∧ ¬ pt_gE lv ab Ez_15 EF_16 (F_12 1 k) = _) from (fun h9 => by have h8 : Ez_15 ((F_12 1 k + 1).toNat) 7 = 0 := h9.1; have h7 := h9.2; rw [← hgv, ← hF1L] at h7; rw [← hF1L] at h8; omega)), pt_l_app, pt_l_app]; have h9 := hY112 _ hXw; rw [hF1L] at h9; exact h9)⟩ (by omega) _ _ hP hD hS ls (lv_sub hl [0, 4, 5, 6] rfl)
            · skip
              refine lv_iload hx hb dX5_print_95 (lv_at hl 0 rfl) ?_
              refine lv_iload_n hx hb dX5_print_97 rfl (lv_at hl 4 rfl) ?_
              refine ki_icmp_eq (tgt := 113) hx hb dX5_print_98 (by decide) (by omega) (by omega) (by omega) (by omega) (fun c_115 => ?_) (fun c_115 => ?_)
              · skip
                refine lv_aload_n hx hb dX5_print_113 rfl (lv_at hl 6 rfl) ?_
                refine lv_iconst (v := iz 1) hx hb dX5_print_114 (by decide) ?_
                refine lv_iload hx hb dX5_print_115 (lv_at hl 1 rfl) ?_
                refine ki_iadd hx hb dX5_print_117 ?_
                refine lv_iload hx hb dX5_print_118 (lv_at hl 2 rfl) ?_
                refine lv_iload hx hb dX5_print_120 (lv_at hl 0 rfl) ?_
                have hxz_116 : -2147483648 ≤ z_86 12 ∧ z_86 12 < 2147483648 := hok92.2.2.2.1 12
                have hxG9 : xG N (z_86 12) G Eo := ⟨by omega, by omega, by omega, fun e9 h9 => hN4 e9 (by omega)⟩
                have hP : va_P (dC, dI) kxCl (xU cI cB cE o r_84 n_85 z_86 F_87 G (Eo 0 0) ++ eP cI N Eo Er_13 En_14 Ez_15 EF_16) H := hP
                have hD : va_D A (xU cI cB cE o r_84 n_85 z_86 F_87 G (Eo 0 0) ++ eP cI N Eo Er_13 En_14 Ez_15 EF_16) := hD
                have hFc := xw_free hD hS hA
                refine xk_call (va_runV (As := [.int (iz (1 + (Ez_15 ((FL28 1 k + 1).toNat) 7))), .int (iz (FL28 1 k)), .int (iz (pt_gE lv ab Ez_15 EF_16 (FL28 1 k)))]) (rest := []) ⟨hx, hb, hml, hown, hts⟩ (y_writePart2 l dC dI cI cB cE o r_84 n_85 z_86 F_87 G N Eo Er_13 En_14 Ez_15 EF_16 (1 + (Ez_15 ((FL28 1 k + 1).toNat) 7)) (FL28 1 k) (pt_gE lv ab Ez_15 EF_16 (FL28 1 k)) H.size hok92 hxG9 hPE92 (by omega) (by omega) (by omega) (by omega) (by omega) (by omega) hlz7 hpv7 hsv7) (cwV 3 hts (kx_gV kq_24_xnew_9 kq_24_xnew_10 kq_24_xnew_11 kq_18_xrows_4 kq_24_xnew_12 rfl) rfl rfl rfl (by decide +kernel) ⟨Nat.le_of_ble_eq_true rfl, Nat.le_of_ble_eq_true rfl⟩) ⟨kx_blind, va_recv hK hP (ci := 5) (q0 := 0) rfl rfl, kx_give (ws := []) (tys := []) hP hD hK hG hZ hS hFc⟩ rfl rfl hl.1 rfl (lv_room (Nat.le_of_ble_eq_true rfl)) dX5_print_122 ⟨show ((cv + dn_65) + dn_82) + 200 ≤ 1200 from (by omega), show ((sv + dm_66) + dm_83) + 85000 ≤ 600000 from (by omega)⟩) hS (fun q _ h => hFc q h) hFc (fun u dn_119 dm_120 t H locs ht hvm hq_117 hB hk1 hS => ?_)
                obtain ⟨r_121, n_122, z_123, F_124, Er_125, En_126, Ez_127, EF_128⟩ := u
                obtain ⟨hP, hK1, hD1⟩ := hB
                rw [ht] at hP
                have hD := hD1.weaken (fun _ q _ h => hFc _ h)
                obtain ⟨hR129, hC129, hq_117⟩ := hq_117
                have hok129 := hR129.1
                have hfr129 := hfr92.tr (hR129.2.1.mono (S' := [0, 1, 2, 4, 5, 6, 7, 8, 9, 10, 11, 15, 16, 22, 23]) (T' := [0, 1, 2, 4, 5, 6, 7, 8, 9, 10, 11]) (by decide) (by decide))
                have hPE129 := hR129.2.2.1
                have hef129 := hef92.tr (hR129.2.2.2.mono (S' := [10]) (T' := []) (by decide) (by decide))
                have hz129 : z_123 12 = (z_86 12) := hR129.2.1.1 12 (by decide)
                have hkr129_1 : z_123 1 = z_86 1 := hR129.2.1.1 1 (by decide)
                have hkr129_15 : z_123 15 = z_86 15 := hR129.2.1.1 15 (by decide)
                have hkr129_7 : z_123 7 = z_86 7 := hR129.2.1.1 7 (by decide)
                have hkr129_8 : z_123 8 = z_86 8 := hR129.2.1.1 8 (by decide)
                have hkr129_9 : z_123 9 = z_86 9 := hR129.2.1.1 9 (by decide)
                have hkr129_10 : z_123 10 = z_86 10 := hR129.2.1.1 10 (by decide)
                have hkr129_2 : z_123 2 = z_86 2 := hR129.2.1.1 2 (by decide)
                have hkr129_3 : z_123 3 = z_86 3 := hR129.2.1.1 3 (by decide)
                refine W.eq (g2 := F0 m 125 ls []) rfl ?_
                try dsimp only at hq_117
                rw [show F_87 3 = F 3 from hfr92.2 3 (by decide), show z_86 3 = z 3 from hfr92.1 3 (by decide), hPL7, hSL7] at hq_117
                have hrk130 : rs_RK z_123 F_124 Ez_127 lv ab Wd cm := rs_RK.fr hrk93 (hR129.2.1.1 15 (by decide)) (hR129.2.1.1 12 (by decide)) (hR129.2.1.1 1 (by decide)) (hR129.2.1.2 1 (by decide)) (fun j => hR129.2.2.2.1 j 10 (by decide))
                have hck130 : lo_K z_123 F_124 Ez_127 EF_128 := lo_K.fr hck93 (hR129.2.1.1 16 (by decide)) (hR129.2.1.1 15 (by decide)) (hR129.2.1.1 12 (by decide)) (hR129.2.1.1 7 (by decide)) (hR129.2.1.1 8 (by decide)) (hR129.2.1.1 9 (by decide)) (hR129.2.1.2 7 (by decide)) (hR129.2.1.2 8 (by decide)) (fun j => hR129.2.2.2.1 j 10 (by decide)) (fun j => hR129.2.2.2.1 j 4 (by decide)) (fun j => ⟨(hR129.2.2.2.2 j 4 (by decide)).2, (hR129.2.2.2.2 j 5 (by decide)).2, (hR129.2.2.2.2 j 6 (by decide)).2⟩)
                obtain ⟨hX131, hnn131, hkp131⟩ := hq_117
                obtain ⟨rfl, rfl, rfl, rfl⟩ := hkp131
                have hF10_132 : F_124 10 = F 10 := (hR129.2.1.2 10 (by decide)).trans hF10_94
                have hXp131 : pt_X (F_87 11) (z_86 11) (z_86 23) (pt_l (pt_PE lv ab (F 3) (z 3) (z 12) Ez_15 EF_16 ((1 + (Ez_15 ((FL28 1 k + 1).toNat) 7))) (FL28 1 k))) (F_124 11) (z_123 11) (z_123 23) := hX131
                have hY131 := pt_X_app hX0 hXp131
                have hF1_133 : F_124 1 = FL28 1 := (hR129.2.1.2 1 (by decide)).trans hF1_95
                refine lv_iinc (v := iz (k + 1)) (lv' := [(3, .int (iz (k + 1))), (6, .int (iz (pt_gE lv ab Ez_15 EF_16 (FL28 1 k)))), (5, .int (iz (Ez_15 ((FL28 1 k + 1).toNat) 7))), (4, .int (iz (FL28 1 k))), (2, .int (iz gv)), (1, .int (iz z_3)), (0, .ref (o 15))]) hx hb dX5_print_125 hl (k := 3) rfl (iz_add k 1) (by decide) rfl (fun ls hl => ?_)
                refine lv_goto (tgt := 28) hx hb dX5_print_128 (by decide) ?_
                exact ih28 gv (k + 1) r_121 n_122 z_123 F_124 (((cv + dn_65) + dn_82) + dn_119) (((sv + dm_66) + dm_83) + dm_120) ⟨⟨hok129, hfr129, hPE129, hef129⟩, ⟨by omega, by omega⟩, (show z_123 12 = z 12 by omega), (by rw [pt_gb_s (show 0 ≤ k by omega)]; first | (rw [if_pos (show pt_lE Ez_15 (F_12 1 k) = 0 from (by show Ez_15 ((F_12 1 k + 1).toNat) 7 = 0; rw [← hF1L]; omega))]; (rw [← hF1L]; first | done | rfl | omega)) | (rw [if_neg (show ¬ pt_lE Ez_15 (F_12 1 k) = 0 from (by show ¬ Ez_15 ((F_12 1 k + 1).toNat) 7 = 0; rw [← hF1L]; omega))]; exact hgv)), by omega, by omega, hrk130, hck130, (show z_123 15 = 1 by omega), (show n_122 11 = 6000 by omega), hF10_132, (show z_123 10 = z 10 by omega), (by rw [← hF1L]; exact hF1_133), (show z_123 1 = z_11 1 by omega), (by show pt_h (pt_l (pt_al (pt_PE lv ab (F 3) (z 3) (z 12) Ez_15 EF_16) (pt_lE Ez_15) (pt_gE lv ab Ez_15 EF_16) (F_12 1) (k + 1).toNat)) (F_124 11) (z_123 11) (z_123 23); rw [pt_al_s (show 0 ≤ k by omega), if_neg (show ¬ (pt_lE Ez_15 (F_12 1 k) = 0 ∧ ¬ pt_gE lv ab Ez_15 EF_16 (F_12 1 k) = _) from (fun h9 => by have h8 : Ez_15 ((F_12 1 k + 1).toNat) 7 = 0 := h9.1; have h7 := h9.2; rw [← hgv, ← hF1L] at h7; rw [← hF1L] at h8; omega)), pt_l_app, pt_l_app]; have h9 := hY131 _ hXw; rw [hF1L] at h9; exact h9)⟩ (by omega) _ _ hP hD hS ls (lv_sub hl [0, 4, 5, 6] rfl)
              · skip
                refine lv_aload_n hx hb dX5_print_101 rfl (lv_at hl 6 rfl) ?_
                refine lv_iconst (v := iz 0) hx hb dX5_print_102 (by decide) ?_
                refine lv_iload hx hb dX5_print_103 (lv_at hl 2 rfl) ?_
                refine lv_iload hx hb dX5_print_105 (lv_at hl 0 rfl) ?_
                have hxz_134 : -2147483648 ≤ z_86 12 ∧ z_86 12 < 2147483648 := hok92.2.2.2.1 12
                have hxG9 : xG N (z_86 12) G Eo := ⟨by omega, by omega, by omega, fun e9 h9 => hN4 e9 (by omega)⟩
                have hP : va_P (dC, dI) kxCl (xU cI cB cE o r_84 n_85 z_86 F_87 G (Eo 0 0) ++ eP cI N Eo Er_13 En_14 Ez_15 EF_16) H := hP
                have hD : va_D A (xU cI cB cE o r_84 n_85 z_86 F_87 G (Eo 0 0) ++ eP cI N Eo Er_13 En_14 Ez_15 EF_16) := hD
                have hFc := xw_free hD hS hA
                refine xk_call (va_runV (As := [.int (iz 0), .int (iz (FL28 1 k)), .int (iz (pt_gE lv ab Ez_15 EF_16 (FL28 1 k)))]) (rest := []) ⟨hx, hb, hml, hown, hts⟩ (y_writePart2 l dC dI cI cB cE o r_84 n_85 z_86 F_87 G N Eo Er_13 En_14 Ez_15 EF_16 0 (FL28 1 k) (pt_gE lv ab Ez_15 EF_16 (FL28 1 k)) H.size hok92 hxG9 hPE92 (by omega) (by omega) (by omega) (by omega) (by omega) (by omega) hlz7 hpv7 hsv7) (cwV 3 hts (kx_gV kq_24_xnew_9 kq_24_xnew_10 kq_24_xnew_11 kq_18_xrows_4 kq_24_xnew_12 rfl) rfl rfl rfl (by decide +kernel) ⟨Nat.le_of_ble_eq_true rfl, Nat.le_of_ble_eq_true rfl⟩) ⟨kx_blind, va_recv hK hP (ci := 5) (q0 := 0) rfl rfl, kx_give (ws := []) (tys := []) hP hD hK hG hZ hS hFc⟩ rfl rfl hl.1 rfl (lv_room (Nat.le_of_ble_eq_true rfl)) dX5_print_107 ⟨show ((cv + dn_65) + dn_82) + 200 ≤ 1200 from (by omega), show ((sv + dm_66) + dm_83) + 85000 ≤ 600000 from (by omega)⟩) hS (fun q _ h => hFc q h) hFc (fun u dn_137 dm_138 t H locs ht hvm hq_135 hB hk1 hS => ?_)
                obtain ⟨r_139, n_140, z_141, F_142, Er_143, En_144, Ez_145, EF_146⟩ := u
                obtain ⟨hP, hK1, hD1⟩ := hB
                rw [ht] at hP
                have hD := hD1.weaken (fun _ q _ h => hFc _ h)
                obtain ⟨hR147, hC147, hq_135⟩ := hq_135
                have hok147 := hR147.1
                have hfr147 := hfr92.tr (hR147.2.1.mono (S' := [0, 1, 2, 4, 5, 6, 7, 8, 9, 10, 11, 15, 16, 22, 23]) (T' := [0, 1, 2, 4, 5, 6, 7, 8, 9, 10, 11]) (by decide) (by decide))
                have hPE147 := hR147.2.2.1
                have hef147 := hef92.tr (hR147.2.2.2.mono (S' := [10]) (T' := []) (by decide) (by decide))
                have hz147 : z_141 12 = (z_86 12) := hR147.2.1.1 12 (by decide)
                have hkr147_1 : z_141 1 = z_86 1 := hR147.2.1.1 1 (by decide)
                have hkr147_15 : z_141 15 = z_86 15 := hR147.2.1.1 15 (by decide)
                have hkr147_7 : z_141 7 = z_86 7 := hR147.2.1.1 7 (by decide)
                have hkr147_8 : z_141 8 = z_86 8 := hR147.2.1.1 8 (by decide)
                have hkr147_9 : z_141 9 = z_86 9 := hR147.2.1.1 9 (by decide)
                have hkr147_10 : z_141 10 = z_86 10 := hR147.2.1.1 10 (by decide)
                have hkr147_2 : z_141 2 = z_86 2 := hR147.2.1.1 2 (by decide)
                have hkr147_3 : z_141 3 = z_86 3 := hR147.2.1.1 3 (by decide)
                refine W.eq (g2 := F0 m 110 ls []) rfl ?_
                try dsimp only at hq_135
                rw [show F_87 3 = F 3 from hfr92.2 3 (by decide), show z_86 3 = z 3 from hfr92.1 3 (by decide), hPL7, hSL7] at hq_135
                have hrk148 : rs_RK z_141 F_142 Ez_145 lv ab Wd cm := rs_RK.fr hrk93 (hR147.2.1.1 15 (by decide)) (hR147.2.1.1 12 (by decide)) (hR147.2.1.1 1 (by decide)) (hR147.2.1.2 1 (by decide)) (fun j => hR147.2.2.2.1 j 10 (by decide))
                have hck148 : lo_K z_141 F_142 Ez_145 EF_146 := lo_K.fr hck93 (hR147.2.1.1 16 (by decide)) (hR147.2.1.1 15 (by decide)) (hR147.2.1.1 12 (by decide)) (hR147.2.1.1 7 (by decide)) (hR147.2.1.1 8 (by decide)) (hR147.2.1.1 9 (by decide)) (hR147.2.1.2 7 (by decide)) (hR147.2.1.2 8 (by decide)) (fun j => hR147.2.2.2.1 j 10 (by decide)) (fun j => hR147.2.2.2.1 j 4 (by decide)) (fun j => ⟨(hR147.2.2.2.2 j 4 (by decide)).2, (hR147.2.2.2.2 j 5 (by decide)).2, (hR147.2.2.2.2 j 6 (by decide)).2⟩)
                obtain ⟨hX149, hnn149, hkp149⟩ := hq_135
                obtain ⟨rfl, rfl, rfl, rfl⟩ := hkp149
                have hF10_150 : F_142 10 = F 10 := (hR147.2.1.2 10 (by decide)).trans hF10_94
                have hXp149 : pt_X (F_87 11) (z_86 11) (z_86 23) (pt_l (pt_PE lv ab (F 3) (z 3) (z 12) Ez_15 EF_16 (0) (FL28 1 k))) (F_142 11) (z_141 11) (z_141 23) := hX149
                have hY149 := pt_X_app hX0 hXp149
                have hPL8 : lo_pl (F_142 7) (F_142 8) (z_141 7).toNat 0 = pt_lc (lo_row (rs_sE Ez_15) (lo_P Ez_15 EF_16) (FL28 1 k) (z 12).toNat) := (by rw [hR147.2.1.2 7 (by decide), hR147.2.1.2 8 (by decide), hR147.2.1.1 7 (by decide)]; exact hPL7)
                have hpv8 : ∀ y, y ∈ lo_pl (F_142 7) (F_142 8) (z_141 7).toNat 0 → pt_v y.1 ∧ pt_v y.2 := (by rw [hR147.2.1.2 7 (by decide), hR147.2.1.2 8 (by decide), hR147.2.1.1 7 (by decide)]; exact hpv7)
                have hSL8 : kf_ls (F_142 2) 0 (z_141 2).toNat = sn_r (rs_sE Ez_15) (sn_c Ez_15) (sn_f EF_16) (FL28 1 k) (z 12).toNat := (by rw [hR147.2.1.2 2 (by decide), hR147.2.1.1 2 (by decide)]; exact hSL7)
                have hsv8 : ∀ i, 0 ≤ i → i < z_141 2 → 0 ≤ F_142 2 i ∧ F_142 2 i < z_141 12 := (by rw [hR147.2.1.2 2 (by decide), hR147.2.1.1 2 (by decide), hR147.2.1.1 12 (by decide)]; exact hsv7)
                have hlz8 : z_141 7 = z_141 8 ∧ z_141 8 = z_141 9 := by omega
                have hF1_151 : F_142 1 = FL28 1 := (hR147.2.1.2 1 (by decide)).trans hF1_95
                refine lv_iload hx hb dX5_print_110 (lv_at hl 0 rfl) ?_
                refine lv_istore_n (lv' := [(2, .int (iz (pt_gE lv ab Ez_15 EF_16 (FL28 1 k)))), (6, .int (iz (pt_gE lv ab Ez_15 EF_16 (FL28 1 k)))), (5, .int (iz (Ez_15 ((FL28 1 k + 1).toNat) 7))), (4, .int (iz (FL28 1 k))), (3, .int (iz k)), (1, .int (iz z_3)), (0, .ref (o 15))]) hx hb dX5_print_112 rfl hl (by decide) rfl (fun ls hl => ?_)
                refine lv_aload_n hx hb dX5_print_113 rfl (lv_at hl 6 rfl) ?_
                refine lv_iconst (v := iz 1) hx hb dX5_print_114 (by decide) ?_
                refine lv_iload hx hb dX5_print_115 (lv_at hl 2 rfl) ?_
                refine ki_iadd hx hb dX5_print_117 ?_
                refine lv_iload hx hb dX5_print_118 (lv_at hl 3 rfl) ?_
                refine lv_iload hx hb dX5_print_120 (lv_at hl 1 rfl) ?_
                have hxz_152 : -2147483648 ≤ z_141 12 ∧ z_141 12 < 2147483648 := hok147.2.2.2.1 12
                have hxG9 : xG N (z_141 12) G Eo := ⟨by omega, by omega, by omega, fun e9 h9 => hN4 e9 (by omega)⟩
                have hP : va_P (dC, dI) kxCl (xU cI cB cE o r_139 n_140 z_141 F_142 G (Eo 0 0) ++ eP cI N Eo Er_13 En_14 Ez_15 EF_16) H := hP
                have hD : va_D A (xU cI cB cE o r_139 n_140 z_141 F_142 G (Eo 0 0) ++ eP cI N Eo Er_13 En_14 Ez_15 EF_16) := hD
                have hFc := xw_free hD hS hA
                refine xk_call (va_runV (As := [.int (iz (1 + (Ez_15 ((FL28 1 k + 1).toNat) 7))), .int (iz (FL28 1 k)), .int (iz (pt_gE lv ab Ez_15 EF_16 (FL28 1 k)))]) (rest := []) ⟨hx, hb, hml, hown, hts⟩ (y_writePart2 l dC dI cI cB cE o r_139 n_140 z_141 F_142 G N Eo Er_13 En_14 Ez_15 EF_16 (1 + (Ez_15 ((FL28 1 k + 1).toNat) 7)) (FL28 1 k) (pt_gE lv ab Ez_15 EF_16 (FL28 1 k)) H.size hok147 hxG9 hPE147 (by omega) (by omega) (by omega) (by omega) (by omega) (by omega) hlz8 hpv8 hsv8) (cwV 3 hts (kx_gV kq_24_xnew_9 kq_24_xnew_10 kq_24_xnew_11 kq_18_xrows_4 kq_24_xnew_12 rfl) rfl rfl rfl (by decide +kernel) ⟨Nat.le_of_ble_eq_true rfl, Nat.le_of_ble_eq_true rfl⟩) ⟨kx_blind, va_recv hK hP (ci := 5) (q0 := 0) rfl rfl, kx_give (ws := []) (tys := []) hP hD hK hG hZ hS hFc⟩ rfl rfl hl.1 rfl (lv_room (Nat.le_of_ble_eq_true rfl)) dX5_print_122 ⟨show (((cv + dn_65) + dn_82) + dn_137) + 200 ≤ 1200 from (by omega), show (((sv + dm_66) + dm_83) + dm_138) + 85000 ≤ 600000 from (by omega)⟩) hS (fun q _ h => hFc q h) hFc (fun u dn_155 dm_156 t H locs ht hvm hq_153 hB hk1 hS => ?_)
                obtain ⟨r_157, n_158, z_159, F_160, Er_161, En_162, Ez_163, EF_164⟩ := u
                obtain ⟨hP, hK1, hD1⟩ := hB
                rw [ht] at hP
                have hD := hD1.weaken (fun _ q _ h => hFc _ h)
                obtain ⟨hR165, hC165, hq_153⟩ := hq_153
                have hok165 := hR165.1
                have hfr165 := hfr147.tr (hR165.2.1.mono (S' := [0, 1, 2, 4, 5, 6, 7, 8, 9, 10, 11, 15, 16, 22, 23]) (T' := [0, 1, 2, 4, 5, 6, 7, 8, 9, 10, 11]) (by decide) (by decide))
                have hPE165 := hR165.2.2.1
                have hef165 := hef147.tr (hR165.2.2.2.mono (S' := [10]) (T' := []) (by decide) (by decide))
                have hz165 : z_159 12 = (z_141 12) := hR165.2.1.1 12 (by decide)
                have hkr165_1 : z_159 1 = z_141 1 := hR165.2.1.1 1 (by decide)
                have hkr165_15 : z_159 15 = z_141 15 := hR165.2.1.1 15 (by decide)
                have hkr165_7 : z_159 7 = z_141 7 := hR165.2.1.1 7 (by decide)
                have hkr165_8 : z_159 8 = z_141 8 := hR165.2.1.1 8 (by decide)
                have hkr165_9 : z_159 9 = z_141 9 := hR165.2.1.1 9 (by decide)
                have hkr165_10 : z_159 10 = z_141 10 := hR165.2.1.1 10 (by decide)
                have hkr165_2 : z_159 2 = z_141 2 := hR165.2.1.1 2 (by decide)
                have hkr165_3 : z_159 3 = z_141 3 := hR165.2.1.1 3 (by decide)
                refine W.eq (g2 := F0 m 125 ls []) rfl ?_
                try dsimp only at hq_153
                rw [show F_142 3 = F 3 from hfr147.2 3 (by decide), show z_141 3 = z 3 from hfr147.1 3 (by decide), hPL8, hSL8] at hq_153
                have hrk166 : rs_RK z_159 F_160 Ez_163 lv ab Wd cm := rs_RK.fr hrk148 (hR165.2.1.1 15 (by decide)) (hR165.2.1.1 12 (by decide)) (hR165.2.1.1 1 (by decide)) (hR165.2.1.2 1 (by decide)) (fun j => hR165.2.2.2.1 j 10 (by decide))
                have hck166 : lo_K z_159 F_160 Ez_163 EF_164 := lo_K.fr hck148 (hR165.2.1.1 16 (by decide)) (hR165.2.1.1 15 (by decide)) (hR165.2.1.1 12 (by decide)) (hR165.2.1.1 7 (by decide)) (hR165.2.1.1 8 (by decide)) (hR165.2.1.1 9 (by decide)) (hR165.2.1.2 7 (by decide)) (hR165.2.1.2 8 (by decide)) (fun j => hR165.2.2.2.1 j 10 (by decide)) (fun j => hR165.2.2.2.1 j 4 (by decide)) (fun j => ⟨(hR165.2.2.2.2 j 4 (by decide)).2, (hR165.2.2.2.2 j 5 (by decide)).2, (hR165.2.2.2.2 j 6 (by decide)).2⟩)
                obtain ⟨hX167, hnn167, hkp167⟩ := hq_153
                obtain ⟨rfl, rfl, rfl, rfl⟩ := hkp167
                have hF10_168 : F_160 10 = F 10 := (hR165.2.1.2 10 (by decide)).trans hF10_150
                have hXp167 : pt_X (F_142 11) (z_141 11) (z_141 23) (pt_l (pt_PE lv ab (F 3) (z 3) (z 12) Ez_15 EF_16 ((1 + (Ez_15 ((FL28 1 k + 1).toNat) 7))) (FL28 1 k))) (F_160 11) (z_159 11) (z_159 23) := hX167
                have hY167 := pt_X_app hY149 hXp167
                have hF1_169 : F_160 1 = FL28 1 := (hR165.2.1.2 1 (by decide)).trans hF1_151
                refine lv_iinc (v := iz (k + 1)) (lv' := [(3, .int (iz (k + 1))), (2, .int (iz (pt_gE lv ab Ez_15 EF_16 (FL28 1 k)))), (6, .int (iz (pt_gE lv ab Ez_15 EF_16 (FL28 1 k)))), (5, .int (iz (Ez_15 ((FL28 1 k + 1).toNat) 7))), (4, .int (iz (FL28 1 k))), (1, .int (iz z_3)), (0, .ref (o 15))]) hx hb dX5_print_125 hl (k := 4) rfl (iz_add k 1) (by decide) rfl (fun ls hl => ?_)
                refine lv_goto (tgt := 28) hx hb dX5_print_128 (by decide) ?_
                exact ih28 (pt_gE lv ab Ez_15 EF_16 (FL28 1 k)) (k + 1) r_157 n_158 z_159 F_160 ((((cv + dn_65) + dn_82) + dn_137) + dn_155) ((((sv + dm_66) + dm_83) + dm_138) + dm_156) ⟨⟨hok165, hfr165, hPE165, hef165⟩, ⟨by omega, by omega⟩, (show z_159 12 = z 12 by omega), (by rw [pt_gb_s (show 0 ≤ k by omega)]; first | (rw [if_pos (show pt_lE Ez_15 (F_12 1 k) = 0 from (by show Ez_15 ((F_12 1 k + 1).toNat) 7 = 0; rw [← hF1L]; omega))]; (rw [← hF1L]; first | done | rfl | omega)) | (rw [if_neg (show ¬ pt_lE Ez_15 (F_12 1 k) = 0 from (by show ¬ Ez_15 ((F_12 1 k + 1).toNat) 7 = 0; rw [← hF1L]; omega))]; exact hgv)), by omega, by omega, hrk166, hck166, (show z_159 15 = 1 by omega), (show n_158 11 = 6000 by omega), hF10_168, (show z_159 10 = z 10 by omega), (by rw [← hF1L]; exact hF1_169), (show z_159 1 = z_11 1 by omega), (by show pt_h (pt_l (pt_al (pt_PE lv ab (F 3) (z 3) (z 12) Ez_15 EF_16) (pt_lE Ez_15) (pt_gE lv ab Ez_15 EF_16) (F_12 1) (k + 1).toNat)) (F_160 11) (z_159 11) (z_159 23); rw [pt_al_s (show 0 ≤ k by omega), if_pos (show pt_lE Ez_15 (F_12 1 k) = 0 ∧ ¬ pt_gE lv ab Ez_15 EF_16 (F_12 1 k) = _ from ⟨(by show Ez_15 ((F_12 1 k + 1).toNat) 7 = 0; rw [← hF1L]; omega), (by rw [← hgv, ← hF1L]; omega)⟩), pt_l_app, pt_l_app]; have h9 := hY167 _ hXw; rw [hF1L] at h9; exact h9)⟩ (by omega) _ _ hP hD hS ls (lv_sub hl [0, 1, 5, 6] rfl)
    exact lp28 _ (-1) 0 (va_up r_9 11 r_26) (va_up n_10 11 n_27) (va_up (va_up z_11 11 z_28) 23 tl_29) (va_up F_12 11 F_30) ((0 + dn_7) + dn_24) ((0 + dm_8) + dm_25) ⟨⟨hok32, hfr32, hPE17, hef17⟩, ⟨by omega, by omega⟩, (show z_11 12 = z 12 by omega), (by rfl), by omega, ⟨by omega, by omega, (hok17.1 1 (by decide)).1⟩, hrk18, hck18, (show z_11 15 = 1 by omega), (show n_27 = 6000 by omega), (show F_12 10 = F 10 from hF10_19), (show z_11 10 = z 10 by omega), (show F_12 1 = F_12 1 from rfl), (show z_11 1 = z_11 1 from rfl), (show pt_h [] (F_30) (z_28) (tl_29) by rw [show z_28 = 0 by omega, show tl_29 = 0 by omega]; exact pt_h_0 _)⟩ (Nat.lt_succ_self _) _ _ hP hD hS ls (lv_sub hl [0, 1, 2, 3] rfl)
  · skip
    refine lv_iconst (v := iz (-1)) hx hb dX5_print_9 (by decide) ?_
    refine lv_iload_n hx hb dX5_print_10 rfl (lv_at hl 0 rfl) ?_
    refine ki_isub hx hb dX5_print_11 ?_
    rw [← hQe]
    refine vx_ret ?_
    exact xk_iret (ov := (fun u : (Int) × (Nat → Nat) × (Nat → Nat) × (Nat → Nat) × (Nat → Int) × (Nat → Int → Int) × (Nat → Nat → Nat) × (Nat → Nat → Nat) × (Nat → Nat → Int) × (Nat → Nat → Int → Int) => match u with | (q, o', r', n', z', F', Er', En', Ez', EF') => some (.int (iz q)))) (post := (fun (u : (Int) × (Nat → Nat) × (Nat → Nat) × (Nat → Nat) × (Nat → Int) × (Nat → Int → Int) × (Nat → Nat → Nat) × (Nat → Nat → Nat) × (Nat → Nat → Int) × (Nat → Nat → Int → Int)) (dn dm : Nat) => match u with | (q, o', r', n', z', F', Er', En', Ez', EF') => xR [0, 1, 2, 4, 5, 6, 7, 8, 9, 10, 11, 15, 16, 22, 23] [0, 1, 2, 4, 5, 6, 7, 8, 9, 10, 11] [10] [] N z F En Ez EF n' z' F' En' Ez' EF' ∧ (dn + xg n' ≤ xg n + 0 ∧ dm + xp n' ≤ xp n + 0) ∧ ((∀ k, k ≠ 10 → k ≠ 11 → o' k = o k) ∧ rs_RK z' F' Ez' lv ab Wd cm ∧ lo_K z' F' Ez' EF' ∧ ((0 ≤ pt_ft (F 3) (z 3) (z 3).toNat 0 0 ∧ q = -1 - pt_ft (F 3) (z 3) (z 3).toNat 0 0 ∧ z' 10 = z 10 ∧ F' 10 = F 10) ∨ (pt_ft (F 3) (z 3) (z 3).toNat 0 0 = -1 ∧ z' 15 = 1 ∧ q = z' 10 ∧ pt_h (pt_l (pt_aE lv ab (F' 3) (F' 1) (z' 3) (z' 12) Ez' EF' (z' 1).toNat)) (F' 10) (z' 10) 0))))) (ws := (fun u : (Int) × (Nat → Nat) × (Nat → Nat) × (Nat → Nat) × (Nat → Int) × (Nat → Int → Int) × (Nat → Nat → Nat) × (Nat → Nat → Nat) × (Nat → Nat → Int) × (Nat → Nat → Int → Int) => match u with | (q, o', r', n', z', F', Er', En', Ez', EF') => (xU cI cB cE o' r' n' z' F' G (Eo 0 0) ++ eP cI N Eo Er' En' Ez' EF'))) (tys := xT cI cB cE) (z := (-1) - z_3) ((-1) - z_3, o, r, n, z, F, Er, En, Ez, EF) hx hb hr rfl hlocks rfl hP hD hK hS dX5_print_12 (fun dn dm hdn hdm => ⟨⟨hok, hfr, hPE, hef⟩, ⟨by omega, by omega⟩, ⟨fun k _ _ => rfl, hkn, hck, Or.inl ⟨by omega, by omega, rfl, rfl⟩⟩⟩) (by omega) (by omega)
