/-! the landed object: its public calls, exact where keys are concerned -/

set_option maxHeartbeats 4000000 in
set_option maxRecDepth 100000 in
theorem y_sign2 (l : Launch) (hlf : l.stackTraces = false) (dC : Nat → ClassId) (dI : Nat → Nat → Nat) (cI cB cE : ClassId) (o r n : Nat → Nat) (z : Nat → Int) (F : Nat → Int → Int) (G : Nat → Option Nat) (N : Nat) (Eo Er En : Nat → Nat → Nat) (Ez : Nat → Nat → Int) (EF : Nat → Nat → Int → Int) (p0 : Int) (p1 : Int) (sz : Nat) (hok : xOk n z F) (hxG : xG N (z 12) G Eo) (hPE : eA N En Ez EF) (hp01 : -2147483648 ≤ p0) (hp02 : p0 < 2147483648) (hp11 : -2147483648 ≤ p1) (hp12 : p1 < 2147483648) (hsgE : (0 ≤ p0 ∧ p0 < z 12) → ∀ i, 0 ≤ i → i < Ez ((p0 + 1).toNat) 0 → 0 ≤ EF ((p0 + 1).toNat) 0 i ∧ EF ((p0 + 1).toNat) 0 i ≤ 255) : vx_Met l yX5_sign [.code yX5_sign cX5_sign 4 (some .int)] ({ frames := 8, cells := 200, slots := 60000, locals := 152 }) (va_Pc [.ref (o 15), .int (iz p0), .int (iz p1)] (kx_Pre dC dI (xU cI cB cE o r n z F G (Eo 0 0) ++ eP cI N Eo Er En Ez EF) (xT cI cB cE) sz)) (xQ (fun u : (Int) × (Nat → Nat) × (Nat → Nat) × (Nat → Int) × (Nat → Int → Int) × (Nat → Nat → Nat) × (Nat → Nat → Nat) × (Nat → Nat → Int) × (Nat → Nat → Int → Int) => match u with | (q, r', n', z', F', Er', En', Ez', EF') => some (.int (iz q))) (fun (u : (Int) × (Nat → Nat) × (Nat → Nat) × (Nat → Int) × (Nat → Int → Int) × (Nat → Nat → Nat) × (Nat → Nat → Nat) × (Nat → Nat → Int) × (Nat → Nat → Int → Int)) (dn dm : Nat) => match u with | (q, r', n', z', F', Er', En', Ez', EF') => xR [15, 16] [] [0, 1, 2] [0, 1, 2] N z F En Ez EF n' z' F' En' Ez' EF' ∧ (dn + xg n' ≤ xg n + 50 ∧ dm + xp n' ≤ xp n + 400) ∧ (((0 ≤ p0 ∧ p0 < z 12) ∧ (0 ≤ p1 ∧ p1 ≤ 255) ∧ Ez ((p0 + 1).toNat) 0 < 20 ∧ q = Ez ((p0 + 1).toNat) 0 + 1 ∧ Ez' ((p0 + 1).toNat) 0 = Ez ((p0 + 1).toNat) 0 + 1 ∧ (∀ j, j ≠ ((p0 + 1).toNat) → Ez' j = Ez j ∧ EF' j = EF j)) ∧ (iAdd 20 (Ez ((p0 + 1).toNat) 0) (EF ((p0 + 1).toNat) 0) (Ez' ((p0 + 1).toNat) 0) (EF' ((p0 + 1).toNat) 0) p1 ∧ iAdd 20 (Ez ((p0 + 1).toNat) 1) (EF ((p0 + 1).toNat) 1) (Ez' ((p0 + 1).toNat) 1) (EF' ((p0 + 1).toNat) 1) (kf_rk p1) ∧ kf_ls (EF' ((p0 + 1).toNat) 2) 0 (Ez' ((p0 + 1).toNat) 2).toNat = kf_kI (EF' ((p0 + 1).toNat) 0) (Ez' ((p0 + 1).toNat) 0) (z 13) (z 14) 0 0 0))) (fun u t => kx_At dC dI (va_A (xU cI cB cE o r n z F G (Eo 0 0) ++ eP cI N Eo Er En Ez EF) sz) ((fun u : (Int) × (Nat → Nat) × (Nat → Nat) × (Nat → Int) × (Nat → Int → Int) × (Nat → Nat → Nat) × (Nat → Nat → Nat) × (Nat → Nat → Int) × (Nat → Nat → Int → Int) => match u with | (q, r', n', z', F', Er', En', Ez', EF') => (xU cI cB cE o r' n' z' F' G (Eo 0 0) ++ eP cI N Eo Er' En' Ez' EF')) u) (xT cI cB cE) t) (va_A (xU cI cB cE o r n z F G (Eo 0 0) ++ eP cI N Eo Er En Ez EF) sz)) (yX (fun E => (E = "java/util/NoSuchElementException" ∧ (¬ (0 ≤ p0 ∧ p0 < z 12))) ∨ (E = "java/lang/IllegalArgumentException" ∧ ((0 ≤ p0 ∧ p0 < z 12) ∧ (p1 < 0 ∨ 255 < p1))) ∨ (E = "java/lang/UnsupportedOperationException" ∧ ((0 ≤ p0 ∧ p0 < z 12) ∧ (0 ≤ p1 ∧ p1 ≤ 255) ∧ 20 ≤ Ez ((p0 + 1).toNat) 0))) 2 12 (fun t => ∃ u : (Nat → Nat) × (Nat → Nat) × (Nat → Int) × (Nat → Int → Int) × (Nat → Nat → Nat) × (Nat → Nat → Nat) × (Nat → Nat → Int) × (Nat → Nat → Int → Int), match u with | (r', n', z', F', Er', En', Ez', EF') => xR [] [] [] [] N z F En Ez EF n' z' F' En' Ez' EF' ∧ kx_At dC dI (va_A (xU cI cB cE o r n z F G (Eo 0 0) ++ eP cI N Eo Er En Ez EF) sz) (xU cI cB cE o r' n' z' F' G (Eo 0 0) ++ eP cI N Eo Er' En' Ez' EF') (xT cI cB cE) t) (va_A (xU cI cB cE o r n z F G (Eo 0 0) ++ eP cI N Eo Er En Ez EF) sz)) 200 60000 (va_A (xU cI cB cE o r n z F G (Eo 0 0) ++ eP cI N Eo Er En Ez EF) sz) := by
  refine vx_ofW (cc := cX5_sign) (maxL := 4) (ret := (some .int)) (by decide) rfl ?_
  intro p e s m args below meth c s₁ B hml htab hv
  obtain ⟨rfl, hsz, hP, hK, hD0, hG, hZ⟩ := hv
  have hx := B.exec
  have hb := B.bytes
  have hr := B.returns
  have hts := kx_hts (a := ([.ref (o 15), .int (iz p0), .int (iz p1)] : List Value).toArray) hG
  have hown : s.vm.findClass RX5 = some m.cls := findClass_of_methodNamed B.named
  have hlocks := B.notSynchronized
  subst hsz
  have hD := hD0.self (sz := s.heap.size)
  generalize hAe : va_A (xU cI cB cE o r n z F G (Eo 0 0) ++ eP cI N Eo Er En Ez EF) s.heap.size = A at hD hZ ⊢
  have hA : ∀ q : Nat, s.heap.size ≤ q → A q := fun q h => by rw [← hAe]; exact Or.inr h
  have hS : va_S A s.heap s.heap [] := va_S.rf
  have hl := lv_entry ([.ref (o 15), .int (iz p0), .int (iz p1)]) (n := 4) (Nat.le_of_ble_eq_true rfl)
  rw [lg_entry_eq]
  generalize (lg_sl ([.ref (o 15), .int (iz p0), .int (iz p1)]) ++ List.replicate (4 - (lg_sl ([.ref (o 15), .int (iz p0), .int (iz p1)])).length) Slot.unset).toArray = ls at hl ⊢
  obtain ⟨hN1, hN2, hN3, hN4⟩ := hxG
  have hef : eFr [0, 1, 2] [0, 1, 2] En Ez EF En Ez EF := eFr.rf
  have hfr : xFr [15, 16] [] z F z F := xFr.rf
  have hxgl := xg_le n
  have hxpl := xp_le n
  have hl : lv_has ls 4 [(0, .ref (o 15)), (1, .int (iz p0)), (2, .int (iz p1))] := hl
  refine lv_aload_n hx hb dX5_sign_0 rfl (lv_at hl 0 rfl) ?_
  refine lv_iload_n hx hb dX5_sign_1 rfl (lv_at hl 1 rfl) ?_
  have hxz_1 : -2147483648 ≤ z 12 ∧ z 12 < 2147483648 := hok.2.2.2.1 12
  have hxG9 : xG N (z 12) G Eo := ⟨by omega, by omega, by omega, fun e9 h9 => hN4 e9 (by omega)⟩
  have hP : va_P (dC, dI) kxCl (xU cI cB cE o r n z F G (Eo 0 0) ++ eP cI N Eo Er En Ez EF) s.heap := hP
  have hD : va_D A (xU cI cB cE o r n z F G (Eo 0 0) ++ eP cI N Eo Er En Ez EF) := hD
  have hFc := xw_free hD hS hA
  refine yk_call (vx_runV (As := [.int (iz p0)]) (rest := []) ⟨hx, hb, hml, hown, hts⟩ (y_needEntry l hlf dC dI cI cB cE o r n z F G N Eo Er En Ez EF p0 s.heap.size hok hxG9 hPE (by omega) (by omega)) (cwV 1 hts (kx_gV kq_21_xcalls_10 kq_21_xcalls_11 kq_21_xcalls_12 kq_18_xrows_4 kq_21_xcalls_13 rfl) rfl rfl rfl (by decide +kernel) ⟨Nat.le_of_ble_eq_true rfl, Nat.le_of_ble_eq_true rfl⟩) ⟨kx_blind, va_recv hK hP (ci := 5) (q0 := 0) rfl rfl, kx_give (ws := []) (tys := []) hP hD hK hG hZ hS hFc⟩ rfl rfl hl.1 rfl (lv_room (Nat.le_of_ble_eq_true rfl)) dX5_sign_2 ⟨show 0 + 1 ≤ 200 from (by omega), show 0 + 6 ≤ 60000 from (by omega)⟩) hS (fun q _ h => hFc q h) hFc (fun E ce q9 t H1 locs ht hvm hEx hBx hk1 hS hcell hcv hcl => ?_) (fun u dn_4 dm_5 t H locs ht hvm hq_2 hB hk1 hS => ?_)
  · skip
    exact ky_out (fun x hx => (htab x hx).elim) hlocks hcell hcv hcl (by obtain ⟨rfl, h9⟩ := hEx; exact Or.inl ⟨rfl, by first | trivial | omega⟩) (fun t9 ht9 hvm9 => by obtain ⟨⟨r8, n8, z8, F8, Er8, En8, Ez8, EF8⟩, hR8, hP8, hK8, hD8⟩ := hBx; exact ⟨(r8, n8, z8, F8, Er8, En8, Ez8, EF8), hR8, (by rw [ht9, ← ht]; exact hP8), va_K.moved hvm9 hK, hD8.weaken (fun _ q _ h => hFc _ h)⟩) hS hS.2.2 (by omega) (by omega) (by omega) (by omega)
  · skip
    obtain ⟨r_6, n_7, z_8, F_9, Er_10, En_11, Ez_12, EF_13⟩ := u
    obtain ⟨hP, hK1, hD1⟩ := hB
    rw [ht] at hP
    have hD := hD1.weaken (fun _ q _ h => hFc _ h)
    obtain ⟨hR14, hC14, hq_2⟩ := hq_2
    obtain ⟨rfl, rfl, rfl, rfl, rfl, rfl, rfl, hq_2⟩ := hq_2
    obtain ⟨rfl, hq_2⟩ := hq_2
    refine W.eq (g2 := F0 m 5 ls []) rfl ?_
    refine lv_iload_n hx hb dX5_sign_5 rfl (lv_at hl 2 rfl) ?_
    refine ki_if_lt (tgt := 16) hx hb dX5_sign_6 (by decide) (by omega) (by omega) (fun c_15 => ?_) (fun c_15 => ?_)
    · skip
      exact ky_thr_IAE hx hb hlf hown hG hZ hS (hl.1.trans hml.symm) dX5_sign_16 dX5_sign_19 dX5_sign_20 dX5_sign_23 htab (Nat.le_of_ble_eq_true rfl) (Nat.le_of_ble_eq_true rfl) (show (0 + dn_4) + 1 ≤ 200 from (by omega)) (show (0 + dm_5) + 6 ≤ 60000 from (by omega)) hlocks (Or.inr (Or.inl ⟨rfl, by first | trivial | omega⟩)) (fun t hvm h1 h2 => ⟨(r, n, z, F, Er, En, Ez, EF), ⟨hok, xFr.rf, hPE, eFr.rf⟩, hP.kept (fun k q hk => h2 q.1 (hP k q hk).lt), va_K.moved hvm hK, hD⟩) hS.2.2 (by omega) (by omega) (by omega) (by omega)
    · skip
      refine lv_iload_n hx hb dX5_sign_9 rfl (lv_at hl 2 rfl) ?_
      refine lv_sipush (v := iz 255) hx hb dX5_sign_10 (by decide) ?_
      refine ki_icmp_le (tgt := 24) hx hb dX5_sign_13 (by decide) (by omega) (by omega) (by omega) (by omega) (fun c_16 => ?_) (fun c_16 => ?_)
      · skip
        refine lv_aload_n hx hb dX5_sign_24 rfl (lv_at hl 0 rfl) ?_
        refine lv_iload_n hx hb dX5_sign_25 rfl (lv_at hl 1 rfl) ?_
        have hxG9 : xG N (z 12) G Eo := ⟨by omega, by omega, by omega, fun e9 h9 => hN4 e9 (by omega)⟩
        have hP : va_P (dC, dI) kxCl (xU cI cB cE o r n z F G (Eo 0 0) ++ eP cI N Eo Er En Ez EF) H := hP
        refine xk_pure (va_runV (As := [.int (iz p0)]) (rest := []) ⟨hx, hb, hml, hown, hts⟩ (y_known l dC dI cI cB cE o r n z F G N Eo Er En Ez EF p0 H.size hok hxG9 hPE (by omega) (by omega)) (cwV 1 hts (kx_gV kq_18_xrows_8 kq_18_xrows_9 kq_18_xrows_10 kq_18_xrows_4 kq_18_xrows_11 rfl) rfl rfl rfl (by decide +kernel) ⟨Nat.le_of_ble_eq_true rfl, Nat.le_of_ble_eq_true rfl⟩) ⟨pPre_blind, va_recv hK hP (ci := 5) (q0 := 0) rfl rfl, pPre_give hP hK hG⟩ rfl rfl hl.1 rfl (lv_room (Nat.le_of_ble_eq_true rfl)) dX5_sign_26 ⟨show (0 + dn_4) + 0 ≤ 200 from (by omega), show (0 + dm_5) + 0 ≤ 60000 from (by omega)⟩) hS (fun z_18 locs hq_17 hS => ?_)
        refine W.eq (g2 := F0 m 29 ls [.ref z_18.toNat]) rfl ?_
        try dsimp only at hq_17
        obtain ⟨j19, hj19, ez19, hje19⟩ := hq_17
        subst ez19
        refine W.eq (g2 := F0 m 29 ls [.ref (Eo j19 0)]) rfl ?_
        have ej19 : j19 = (p0 + 1).toNat := by omega
        subst ej19
        refine lv_astore_n (lv' := [(3, .ref (Eo ((p0 + 1).toNat) 0)), (0, .ref (o 15)), (1, .int (iz p0)), (2, .int (iz p1))]) hx hb dX5_sign_29 rfl hl (by decide) rfl (fun ls hl => ?_)
        refine lv_aload_n hx hb dX5_sign_30 rfl (lv_at hl 0 rfl) ?_
        have hP := eP_foc hj19 hP
        have hD := eD_foc hj19 hD
        refine va_getN (D := (dC, dI)) (ci := 0) (v := .ref (Eo ((p0 + 1).toNat) 1)) (C := RX0) (T := TX0) (N := 12) hx hb hts kt_X0 hown hK hP 29 rfl rfl 2 (by decide) (va_Nw.use rfl (kx_nf hG kq_19_xouts_70)) (fun _ h9 => h9) rfl dX5_sign_31 ?_
        have he_20 : 0 ≤ Ez ((p0 + 1).toNat) 0 ∧ Ez ((p0 + 1).toNat) 0 ≤ ((En ((p0 + 1).toNat) 0 : Nat) : Int) ∧ ((En ((p0 + 1).toNat) 0 : Nat) : Int) ≤ 20 := (hPE ((p0 + 1).toNat) hj19).1 0 (by decide)
        have hPc := hP.sub (ws' := (iU cI 20 (Eo ((p0 + 1).toNat) 1) (Er ((p0 + 1).toNat) 0) (En ((p0 + 1).toNat) 0) (Ez ((p0 + 1).toNat) 0) (EF ((p0 + 1).toNat) 0))) [30, 31] rfl
        refine xk_pure (va_runV (As := []) (rest := []) ⟨hx, hb, hml, hown, hts⟩ (x_isFull l dC dI cI cB cE 20 (Eo ((p0 + 1).toNat) 1) (Er ((p0 + 1).toNat) 0) (En ((p0 + 1).toNat) 0) (Ez ((p0 + 1).toNat) 0) (EF ((p0 + 1).toNat) 0)  H.size (by omega)) (cwV 0 hts (kx_gV kq_21_xcalls_1 kq_15_xspan_35 kq_15_xspan_36 kq_13_xints_6 kq_15_xspan_37 rfl) rfl rfl rfl (by decide +kernel) ⟨Nat.le_of_ble_eq_true rfl, Nat.le_of_ble_eq_true rfl⟩) ⟨pPre_blind, va_recv hK hPc (ci := 1) (q0 := 0) rfl rfl, pPre_give hPc hK hG⟩ rfl rfl hl.1 rfl (lv_room (Nat.le_of_ble_eq_true rfl)) dX5_sign_34 ⟨show (0 + dn_4) + 0 ≤ 200 from (by omega), show (0 + dm_5) + 0 ≤ 60000 from (by omega)⟩) hS (fun z_22 locs hq_21 hS => ?_)
        refine W.eq (g2 := F0 m 37 ls [.int (iz z_22)]) rfl ?_
        try dsimp only at hq_21
        rcases hq_21 with ⟨rfl, hq_21⟩ | ⟨rfl, hq_21⟩
        · skip
          refine ki_if_eq (tgt := 48) hx hb dX5_sign_37 (by decide) (by omega) (by omega) (fun c_23 => ?_) (fun c_23 => ?_)
          · omega
          · skip
            have hP := eP_un0 hj19 hP
            have hD := eD_un0 hj19 hD
            exact ky_thr_UOE hx hb hlf hown hG hZ hS (hl.1.trans hml.symm) dX5_sign_40 dX5_sign_43 dX5_sign_44 dX5_sign_47 htab (Nat.le_of_ble_eq_true rfl) (Nat.le_of_ble_eq_true rfl) (show (0 + dn_4) + 1 ≤ 200 from (by omega)) (show (0 + dm_5) + 6 ≤ 60000 from (by omega)) hlocks (Or.inr (Or.inr (⟨rfl, by first | trivial | omega⟩))) (fun t hvm h1 h2 => ⟨(r, n, z, F, Er, En, Ez, EF), ⟨hok, xFr.rf, hPE, eFr.rf⟩, hP.kept (fun k q hk => h2 q.1 (hP k q hk).lt), va_K.moved hvm hK, hD⟩) hS.2.2 (by omega) (by omega) (by omega) (by omega)
        · skip
          refine ki_if_eq (tgt := 48) hx hb dX5_sign_37 (by decide) (by omega) (by omega) (fun c_24 => ?_) (fun c_24 => ?_)
          · skip
            refine lv_aload_n hx hb dX5_sign_48 rfl (lv_at hl 0 rfl) ?_
            refine lv_iload_n hx hb dX5_sign_49 rfl (lv_at hl 3 rfl) ?_
            have hPc := hP.sub (ws' := (eU cI (Eo ((p0 + 1).toNat)) (Er ((p0 + 1).toNat)) (En ((p0 + 1).toNat)) (Ez ((p0 + 1).toNat)) (EF ((p0 + 1).toNat)))) [29, 30, 31, 32, 33, 34, 35, 36, 37, 38, 39, 40, 41, 42, 43, 44] rfl
            have hDc := hD.sub (ws' := (eU cI (Eo ((p0 + 1).toNat)) (Er ((p0 + 1).toNat)) (En ((p0 + 1).toNat)) (Ez ((p0 + 1).toNat)) (EF ((p0 + 1).toNat)))) [29, 30, 31, 32, 33, 34, 35, 36, 37, 38, 39, 40, 41, 42, 43, 44] (by decide) rfl
            have hFc := va_free (wc := (eU cI (Eo ((p0 + 1).toNat)) (Er ((p0 + 1).toNat)) (En ((p0 + 1).toNat)) (Ez ((p0 + 1).toNat)) (EF ((p0 + 1).toNat)))) hD hS hA [29, 30, 31, 32, 33, 34, 35, 36, 37, 38, 39, 40, 41, 42, 43, 44] rfl
            refine xk_call (va_runV (As := [.int (iz p1)]) (rest := []) ⟨hx, hb, hml, hown, hts⟩ (x_addSign2 l dC dI cI cB cE (Eo ((p0 + 1).toNat)) (Er ((p0 + 1).toNat)) (En ((p0 + 1).toNat)) (Ez ((p0 + 1).toNat)) (EF ((p0 + 1).toNat)) p1 H.size (hPE ((p0 + 1).toNat) hj19) (by omega) (by omega) (by omega)) (cwV 1 hts (kx_gV kq_21_xcalls_14 kq_21_xcalls_15 kq_21_xcalls_16 kq_16_xentry_2 kq_21_xcalls_17 rfl) rfl rfl rfl (by decide +kernel) ⟨Nat.le_of_ble_eq_true rfl, Nat.le_of_ble_eq_true rfl⟩) ⟨kx_blind, va_recv hK hPc (ci := 0) (q0 := 0) rfl rfl, kx_give (ws := []) (tys := []) hPc hDc hK hG hZ hS hFc⟩ rfl rfl hl.1 rfl (lv_room (Nat.le_of_ble_eq_true rfl)) dX5_sign_50 ⟨show (0 + dn_4) + 20 ≤ 200 from (by omega), show (0 + dm_5) + 4800 ≤ 60000 from (by omega)⟩) hS (fun q _ h => hFc q h) hFc (fun u dn_26 dm_27 t H locs ht hvm hq_25 hB hk1 hS => ?_)
            obtain ⟨r0_28, n0_29, z0_30, F0_31, r1_32, n1_33, z1_34, F1_35⟩ := u
            obtain ⟨hP1, hK1, hD1⟩ := hB
            rw [ht] at hP1
            obtain ⟨hP, hD⟩ := xj_pool (wr := [(o 15, .inr (5, [.ref (o 16), .ref (Eo 0 0), .int (iz (z 12)), .int (iz (z 13)), .int (iz (z 14)), .ref (o 0), .ref (o 1), .int (iz (z 15)), .ref (o 13), .ref (o 14), .int (iz (z 16)), .ref (o 2), .ref (o 12), .ref (o 3), .ref (o 10), .ref (o 11)])), (o 16, .inl (cE, 80, .inr (.inr (.inr (.inr G))))), (o 0, .inr (1, [.int (iz 80), .ref (r 0), .int (iz (z 0))])), (r 0, .inl (cI, n 0, .inl (iA (F 0)))), (o 1, .inr (1, [.int (iz 80), .ref (r 1), .int (iz (z 1))])), (r 1, .inl (cI, n 1, .inl (iA (F 1)))), (o 2, .inr (1, [.int (iz 80), .ref (r 2), .int (iz (z 2))])), (r 2, .inl (cI, n 2, .inl (iA (F 2)))), (o 3, .inr (1, [.int (iz 80), .ref (r 3), .int (iz (z 3))])), (r 3, .inl (cI, n 3, .inl (iA (F 3)))), (o 13, .inr (3, [.ref (o 4), .ref (o 5), .ref (o 6)])), (o 4, .inr (1, [.int (iz 1600), .ref (r 4), .int (iz (z 4))])), (r 4, .inl (cI, n 4, .inl (iA (F 4)))), (o 5, .inr (1, [.int (iz 1600), .ref (r 5), .int (iz (z 5))])), (r 5, .inl (cI, n 5, .inl (iA (F 5)))), (o 6, .inr (1, [.int (iz 1600), .ref (r 6), .int (iz (z 6))])), (r 6, .inl (cI, n 6, .inl (iA (F 6)))), (o 14, .inr (3, [.ref (o 7), .ref (o 8), .ref (o 9)])), (o 7, .inr (1, [.int (iz 1600), .ref (r 7), .int (iz (z 7))])), (r 7, .inl (cI, n 7, .inl (iA (F 7)))), (o 8, .inr (1, [.int (iz 1600), .ref (r 8), .int (iz (z 8))])), (r 8, .inl (cI, n 8, .inl (iA (F 8)))), (o 9, .inr (1, [.int (iz 1600), .ref (r 9), .int (iz (z 9))])), (r 9, .inl (cI, n 9, .inl (iA (F 9)))), (o 12, .inr (4, [.int (iz (z 17)), .int (iz (z 18)), .int (iz (z 19)), .int (iz (z 20)), .int (iz (z 21))])), (o 10, .inr (2, [.ref (r 10), .int (iz (z 10)), .int (iz (z 22))])), (r 10, .inl (cB, n 10, .inl (iA (F 10)))), (o 11, .inr (2, [.ref (r 11), .int (iz (z 11)), .int (iz (z 23))])), (r 11, .inl (cB, n 11, .inl (iA (F 11))))]) (w1 := (eU cI (Eo ((p0 + 1).toNat)) (va_up (va_up (Er ((p0 + 1).toNat)) 0 r0_28) 1 r1_32) (va_up (va_up (En ((p0 + 1).toNat)) 0 n0_29) 1 n1_33) (va_up (va_up (Ez ((p0 + 1).toNat)) 0 z0_30) 1 z1_34) (va_up (va_up (EF ((p0 + 1).toNat)) 0 F0_31) 1 F1_35))) (ws' := ((xU cI cB cE o r n z F G (Eo 0 0)) ++ (eU cI (Eo ((p0 + 1).toNat)) (va_up (va_up (Er ((p0 + 1).toNat)) 0 r0_28) 1 r1_32) (va_up (va_up (En ((p0 + 1).toNat)) 0 n0_29) 1 n1_33) (va_up (va_up (Ez ((p0 + 1).toNat)) 0 z0_30) 1 z1_34) (va_up (va_up (EF ((p0 + 1).toNat)) 0 F0_31) 1 F1_35)))) hP hD [29, 30, 31, 32, 33, 34, 35, 36, 37, 38, 39, 40, 41, 42, 43, 44] [0, 1, 2, 3, 4, 5, 6, 7, 8, 9, 10, 11, 12, 13, 14, 15, 16, 17, 18, 19, 20, 21, 22, 23, 24, 25, 26, 27, 28] [0, 1, 2, 3, 4, 5, 6, 7, 8, 9, 10, 11, 12, 13, 14, 15, 16, 17, 18, 19, 20, 21, 22, 23, 24, 25, 26, 27, 28, 29, 30, 31, 32, 33, 34, 35, 36, 37, 38, 39, 40, 41, 42, 43, 44] rfl rfl (by decide) (by decide) hk1 hFc hP1 hD1 rfl (by decide)
            refine W.eq (g2 := F0 m 53 ls []) rfl ?_
            try dsimp only at hq_25
            obtain ⟨⟨ha36, hb036⟩, ⟨hb36, hb136⟩, hc36, hd36, hdr36⟩ := hq_25
            have hax36 := hd36.1
            refine lv_aload_n hx hb dX5_sign_53 rfl (lv_at hl 0 rfl) ?_
            refine lv_aload_n hx hb dX5_sign_54 rfl (lv_at hl 1 rfl) ?_
            have hxz_37 : -2147483648 ≤ z 13 ∧ z 13 < 2147483648 := hok.2.2.2.1 13
            have hxb_38 : z 13 = 0 ∨ z 13 = 1 := hok.2.2.2.2 13 (by decide)
            refine va_get (D := (dC, dI)) (ci := 5) (v := .int (iz (z 13))) (C := RX5) (T := TX5) (N := 16) hx hb hts kt_X5 hown hK hP 0 rfl rfl 3 (by decide) (kx_word hG kq_18_xrows_31 rfl) (fun _ h9 => h9) rfl dX5_sign_55 ?_
            refine lv_aload_n hx hb dX5_sign_58 rfl (lv_at hl 1 rfl) ?_
            have hxz_39 : -2147483648 ≤ z 14 ∧ z 14 < 2147483648 := hok.2.2.2.1 14
            have hxb_40 : z 14 = 0 ∨ z 14 = 1 := hok.2.2.2.2 14 (by decide)
            refine va_get (D := (dC, dI)) (ci := 5) (v := .int (iz (z 14))) (C := RX5) (T := TX5) (N := 16) hx hb hts kt_X5 hown hK hP 0 rfl rfl 4 (by decide) (kx_word hG kq_18_xrows_32 rfl) (fun _ h9 => h9) rfl dX5_sign_59 ?_
            have he_41 : 0 ≤ Ez ((p0 + 1).toNat) 1 ∧ Ez ((p0 + 1).toNat) 1 ≤ ((En ((p0 + 1).toNat) 1 : Nat) : Int) ∧ ((En ((p0 + 1).toNat) 1 : Nat) : Int) ≤ 20 := (hPE ((p0 + 1).toNat) hj19).1 1 (by decide)
            have hPc := hP.sub (ws' := (eU cI (Eo ((p0 + 1).toNat)) (va_up (va_up (Er ((p0 + 1).toNat)) 0 r0_28) 1 r1_32) (va_up (va_up (En ((p0 + 1).toNat)) 0 n0_29) 1 n1_33) (va_up (va_up (Ez ((p0 + 1).toNat)) 0 z0_30) 1 z1_34) (va_up (va_up (EF ((p0 + 1).toNat)) 0 F0_31) 1 F1_35))) [29, 30, 31, 32, 33, 34, 35, 36, 37, 38, 39, 40, 41, 42, 43, 44] rfl
            have hDc := hD.sub (ws' := (eU cI (Eo ((p0 + 1).toNat)) (va_up (va_up (Er ((p0 + 1).toNat)) 0 r0_28) 1 r1_32) (va_up (va_up (En ((p0 + 1).toNat)) 0 n0_29) 1 n1_33) (va_up (va_up (Ez ((p0 + 1).toNat)) 0 z0_30) 1 z1_34) (va_up (va_up (EF ((p0 + 1).toNat)) 0 F0_31) 1 F1_35))) [29, 30, 31, 32, 33, 34, 35, 36, 37, 38, 39, 40, 41, 42, 43, 44] (by decide) rfl
            have hFc := va_free (wc := (eU cI (Eo ((p0 + 1).toNat)) (va_up (va_up (Er ((p0 + 1).toNat)) 0 r0_28) 1 r1_32) (va_up (va_up (En ((p0 + 1).toNat)) 0 n0_29) 1 n1_33) (va_up (va_up (Ez ((p0 + 1).toNat)) 0 z0_30) 1 z1_34) (va_up (va_up (EF ((p0 + 1).toNat)) 0 F0_31) 1 F1_35))) hD hS hA [29, 30, 31, 32, 33, 34, 35, 36, 37, 38, 39, 40, 41, 42, 43, 44] rfl
            refine xk_call (va_runV (As := [.int (iz (z 13)), .int (iz (z 14))]) (rest := []) ⟨hx, hb, hml, hown, hts⟩ (x_makeKey2 l dC dI cI cB cE (Eo ((p0 + 1).toNat)) (va_up (va_up (Er ((p0 + 1).toNat)) 0 r0_28) 1 r1_32) (va_up (va_up (En ((p0 + 1).toNat)) 0 n0_29) 1 n1_33) (va_up (va_up (Ez ((p0 + 1).toNat)) 0 z0_30) 1 z1_34) (va_up (va_up (EF ((p0 + 1).toNat)) 0 F0_31) 1 F1_35) (z 13) (z 14) H.size (((hPE ((p0 + 1).toNat) hj19).i 0 (by decide) (show 0 ≤ z0_30 ∧ z0_30 ≤ ((n0_29 : Nat) : Int) ∧ ((n0_29 : Nat) : Int) ≤ 20 by omega) hb036 (by omega)).i 1 (by decide) (show 0 ≤ z1_34 ∧ z1_34 ≤ ((n1_33 : Nat) : Int) ∧ ((n1_33 : Nat) : Int) ≤ 20 by omega) hb136 (by omega)) (kf_sg_rng hd36 (hsgE (by omega)) (by omega)) (by omega) (by omega) (by omega) (by omega) (by omega) (by omega)) (cwV 2 hts (kx_gV kq_18_xrows_33 kq_18_xrows_34 kq_18_xrows_35 kq_16_xentry_2 kq_18_xrows_36 rfl) rfl rfl rfl (by decide +kernel) ⟨Nat.le_of_ble_eq_true rfl, Nat.le_of_ble_eq_true rfl⟩) ⟨kx_blind, va_recv hK hPc (ci := 0) (q0 := 0) rfl rfl, kx_give (ws := []) (tys := []) hPc hDc hK hG hZ hS hFc⟩ rfl rfl hl.1 rfl (lv_room (Nat.le_of_ble_eq_true rfl)) dX5_sign_62 ⟨show ((0 + dn_4) + dn_26) + 20 ≤ 200 from (by omega), show ((0 + dm_5) + dm_27) + 3500 ≤ 60000 from (by omega)⟩) hS (fun q _ h => hFc q h) hFc (fun u dn_43 dm_44 t H locs ht hvm hq_42 hB hk1 hS => ?_)
            obtain ⟨r2_45, n2_46, z2_47, F2_48⟩ := u
            obtain ⟨hP1, hK1, hD1⟩ := hB
            rw [ht] at hP1
            obtain ⟨hP, hD⟩ := xj_pool (wr := [(o 15, .inr (5, [.ref (o 16), .ref (Eo 0 0), .int (iz (z 12)), .int (iz (z 13)), .int (iz (z 14)), .ref (o 0), .ref (o 1), .int (iz (z 15)), .ref (o 13), .ref (o 14), .int (iz (z 16)), .ref (o 2), .ref (o 12), .ref (o 3), .ref (o 10), .ref (o 11)])), (o 16, .inl (cE, 80, .inr (.inr (.inr (.inr G))))), (o 0, .inr (1, [.int (iz 80), .ref (r 0), .int (iz (z 0))])), (r 0, .inl (cI, n 0, .inl (iA (F 0)))), (o 1, .inr (1, [.int (iz 80), .ref (r 1), .int (iz (z 1))])), (r 1, .inl (cI, n 1, .inl (iA (F 1)))), (o 2, .inr (1, [.int (iz 80), .ref (r 2), .int (iz (z 2))])), (r 2, .inl (cI, n 2, .inl (iA (F 2)))), (o 3, .inr (1, [.int (iz 80), .ref (r 3), .int (iz (z 3))])), (r 3, .inl (cI, n 3, .inl (iA (F 3)))), (o 13, .inr (3, [.ref (o 4), .ref (o 5), .ref (o 6)])), (o 4, .inr (1, [.int (iz 1600), .ref (r 4), .int (iz (z 4))])), (r 4, .inl (cI, n 4, .inl (iA (F 4)))), (o 5, .inr (1, [.int (iz 1600), .ref (r 5), .int (iz (z 5))])), (r 5, .inl (cI, n 5, .inl (iA (F 5)))), (o 6, .inr (1, [.int (iz 1600), .ref (r 6), .int (iz (z 6))])), (r 6, .inl (cI, n 6, .inl (iA (F 6)))), (o 14, .inr (3, [.ref (o 7), .ref (o 8), .ref (o 9)])), (o 7, .inr (1, [.int (iz 1600), .ref (r 7), .int (iz (z 7))])), (r 7, .inl (cI, n 7, .inl (iA (F 7)))), (o 8, .inr (1, [.int (iz 1600), .ref (r 8), .int (iz (z 8))])), (r 8, .inl (cI, n 8, .inl (iA (F 8)))), (o 9, .inr (1, [.int (iz 1600), .ref (r 9), .int (iz (z 9))])), (r 9, .inl (cI, n 9, .inl (iA (F 9)))), (o 12, .inr (4, [.int (iz (z 17)), .int (iz (z 18)), .int (iz (z 19)), .int (iz (z 20)), .int (iz (z 21))])), (o 10, .inr (2, [.ref (r 10), .int (iz (z 10)), .int (iz (z 22))])), (r 10, .inl (cB, n 10, .inl (iA (F 10)))), (o 11, .inr (2, [.ref (r 11), .int (iz (z 11)), .int (iz (z 23))])), (r 11, .inl (cB, n 11, .inl (iA (F 11))))]) (w1 := (eU cI (Eo ((p0 + 1).toNat)) (va_up (va_up (va_up (Er ((p0 + 1).toNat)) 0 r0_28) 1 r1_32) 2 r2_45) (va_up (va_up (va_up (En ((p0 + 1).toNat)) 0 n0_29) 1 n1_33) 2 n2_46) (va_up (va_up (va_up (Ez ((p0 + 1).toNat)) 0 z0_30) 1 z1_34) 2 z2_47) (va_up (va_up (va_up (EF ((p0 + 1).toNat)) 0 F0_31) 1 F1_35) 2 F2_48))) (ws' := ((xU cI cB cE o r n z F G (Eo 0 0)) ++ (eU cI (Eo ((p0 + 1).toNat)) (va_up (va_up (va_up (Er ((p0 + 1).toNat)) 0 r0_28) 1 r1_32) 2 r2_45) (va_up (va_up (va_up (En ((p0 + 1).toNat)) 0 n0_29) 1 n1_33) 2 n2_46) (va_up (va_up (va_up (Ez ((p0 + 1).toNat)) 0 z0_30) 1 z1_34) 2 z2_47) (va_up (va_up (va_up (EF ((p0 + 1).toNat)) 0 F0_31) 1 F1_35) 2 F2_48)))) hP hD [29, 30, 31, 32, 33, 34, 35, 36, 37, 38, 39, 40, 41, 42, 43, 44] [0, 1, 2, 3, 4, 5, 6, 7, 8, 9, 10, 11, 12, 13, 14, 15, 16, 17, 18, 19, 20, 21, 22, 23, 24, 25, 26, 27, 28] [0, 1, 2, 3, 4, 5, 6, 7, 8, 9, 10, 11, 12, 13, 14, 15, 16, 17, 18, 19, 20, 21, 22, 23, 24, 25, 26, 27, 28, 29, 30, 31, 32, 33, 34, 35, 36, 37, 38, 39, 40, 41, 42, 43, 44] rfl rfl (by decide) (by decide) hk1 hFc hP1 hD1 rfl (by decide)
            refine W.eq (g2 := F0 m 65 ls []) rfl ?_
            try dsimp only at hq_42
            try simp (decide := true) only [va_ev, ↓reduceIte] at hq_42
            obtain ⟨⟨ha49, hb49⟩, hc49, hlk49⟩ := hq_42
            have hpg49 := psg_le 40 (En ((p0 + 1).toNat) 2)
            have hpj49 := psj_le (L := 40) (by omega) (En ((p0 + 1).toNat) 2)
            refine lv_aload_n hx hb dX5_sign_65 rfl (lv_at hl 1 rfl) ?_
            have he_50 : 0 ≤ Ez ((p0 + 1).toNat) 2 ∧ Ez ((p0 + 1).toNat) 2 ≤ ((En ((p0 + 1).toNat) 2 : Nat) : Int) ∧ ((En ((p0 + 1).toNat) 2 : Nat) : Int) ≤ 40 := (hPE ((p0 + 1).toNat) hj19).1 2 (by decide)
            have hP : va_P (dC, dI) kxCl (((xU cI cB cE o r n z F G (Eo 0 0)) ++ (eU cI (Eo ((p0 + 1).toNat)) (va_up (va_up (va_up (Er ((p0 + 1).toNat)) 0 r0_28) 1 r1_32) 2 r2_45) (va_up (va_up (va_up (En ((p0 + 1).toNat)) 0 n0_29) 1 n1_33) 2 n2_46) (va_up (va_up (va_up (Ez ((p0 + 1).toNat)) 0 z0_30) 1 z1_34) 2 z2_47) (va_up (va_up (va_up (EF ((p0 + 1).toNat)) 0 F0_31) 1 F1_35) 2 F2_48))) ++ (eR cI N ((p0 + 1).toNat) Eo Er En Ez EF)) H := hP
            have hD : va_D A (((xU cI cB cE o r n z F G (Eo 0 0)) ++ (eU cI (Eo ((p0 + 1).toNat)) (va_up (va_up (va_up (Er ((p0 + 1).toNat)) 0 r0_28) 1 r1_32) 2 r2_45) (va_up (va_up (va_up (En ((p0 + 1).toNat)) 0 n0_29) 1 n1_33) 2 n2_46) (va_up (va_up (va_up (Ez ((p0 + 1).toNat)) 0 z0_30) 1 z1_34) 2 z2_47) (va_up (va_up (va_up (EF ((p0 + 1).toNat)) 0 F0_31) 1 F1_35) 2 F2_48))) ++ (eR cI N ((p0 + 1).toNat) Eo Er En Ez EF)) := hD
            have hP := eP_unf hj19 hP
            have hD := eD_unf hj19 hD
            have hPE51 := hPE.up ((p0 + 1).toNat) ((((hPE ((p0 + 1).toNat) hj19).i 0 (by decide) (show 0 ≤ z0_30 ∧ z0_30 ≤ ((n0_29 : Nat) : Int) ∧ ((n0_29 : Nat) : Int) ≤ 20 by omega) hb036 (by omega)).i 1 (by decide) (show 0 ≤ z1_34 ∧ z1_34 ≤ ((n1_33 : Nat) : Int) ∧ ((n1_33 : Nat) : Int) ≤ 20 by omega) hb136 (by omega)).i 2 (by decide) (show 0 ≤ z2_47 ∧ z2_47 ≤ ((n2_46 : Nat) : Int) ∧ ((n2_46 : Nat) : Int) ≤ 40 by omega) hb49 (by omega))
            have hef51 := hef.up ((p0 + 1).toNat) (z := (va_up (va_up (va_up (Ez ((p0 + 1).toNat)) 0 z0_30) 1 z1_34) 2 z2_47)) (n := (va_up (va_up (va_up (En ((p0 + 1).toNat)) 0 n0_29) 1 n1_33) 2 n2_46)) (F := (va_up (va_up (va_up (EF ((p0 + 1).toNat)) 0 F0_31) 1 F1_35) 2 F2_48)) (fun k hk => (vfr hk _ (by decide) (vfr hk _ (by decide) (vfr hk _ (by decide) rfl)))) (fun k hk => ⟨(vfr hk _ (by decide) (vfr hk _ (by decide) (vfr hk _ (by decide) rfl))), (vfr hk _ (by decide) (vfr hk _ (by decide) (vfr hk _ (by decide) rfl)))⟩)
            generalize eEr51 : va_up Er ((p0 + 1).toNat) (va_up (va_up (va_up (Er ((p0 + 1).toNat)) 0 r0_28) 1 r1_32) 2 r2_45) = Er51 at hP hD
            generalize eEn51 : va_up En ((p0 + 1).toNat) (va_up (va_up (va_up (En ((p0 + 1).toNat)) 0 n0_29) 1 n1_33) 2 n2_46) = En51 at hP hD hPE51 hef51
            generalize eEz51 : va_up Ez ((p0 + 1).toNat) (va_up (va_up (va_up (Ez ((p0 + 1).toNat)) 0 z0_30) 1 z1_34) 2 z2_47) = Ez51 at hP hD hPE51 hef51
            generalize eEF51 : va_up EF ((p0 + 1).toNat) (va_up (va_up (va_up (EF ((p0 + 1).toNat)) 0 F0_31) 1 F1_35) 2 F2_48) = EF51 at hP hD hPE51 hef51
            have hcl51_0 : Ez51 ((p0 + 1).toNat) 0 = z0_30 := by rw [← eEz51]; simp (decide := true) only [va_ev, ↓reduceIte]
            have hcl51_1 : Ez51 ((p0 + 1).toNat) 1 = z1_34 := by rw [← eEz51]; simp (decide := true) only [va_ev, ↓reduceIte]
            have hcl51_2 : Ez51 ((p0 + 1).toNat) 2 = z2_47 := by rw [← eEz51]; simp (decide := true) only [va_ev, ↓reduceIte]
            have hcl51_4 : Ez51 ((p0 + 1).toNat) 4 = Ez ((p0 + 1).toNat) 4 := by rw [← eEz51]; simp (decide := true) only [va_ev, ↓reduceIte]
            have hcl51_7 : Ez51 ((p0 + 1).toNat) 7 = Ez ((p0 + 1).toNat) 7 := by rw [← eEz51]; simp (decide := true) only [va_ev, ↓reduceIte]
            have hcl51_9 : Ez51 ((p0 + 1).toNat) 9 = Ez ((p0 + 1).toNat) 9 := by rw [← eEz51]; simp (decide := true) only [va_ev, ↓reduceIte]
            have hcF51_0 : EF51 ((p0 + 1).toNat) 0 = F0_31 := by rw [← eEF51]; simp (decide := true) only [va_ev, ↓reduceIte]
            have hcF51_1 : EF51 ((p0 + 1).toNat) 1 = F1_35 := by rw [← eEF51]; simp (decide := true) only [va_ev, ↓reduceIte]
            have hcF51_2 : EF51 ((p0 + 1).toNat) 2 = F2_48 := by rw [← eEF51]; simp (decide := true) only [va_ev, ↓reduceIte]
            have hcF51_4 : EF51 ((p0 + 1).toNat) 4 = EF ((p0 + 1).toNat) 4 := by rw [← eEF51]; simp (decide := true) only [va_ev, ↓reduceIte]
            have hxG9 : xG N (z 12) G Eo := ⟨by omega, by omega, by omega, fun e9 h9 => hN4 e9 (by omega)⟩
            have hP : va_P (dC, dI) kxCl (xU cI cB cE o r n z F G (Eo 0 0) ++ eP cI N Eo Er51 En51 Ez51 EF51) H := hP
            have hD : va_D A (xU cI cB cE o r n z F G (Eo 0 0) ++ eP cI N Eo Er51 En51 Ez51 EF51) := hD
            have hFc := xw_free hD hS hA
            refine xk_call (va_runV (As := []) (rest := []) ⟨hx, hb, hml, hown, hts⟩ (y_forgetRows l dC dI cI cB cE o r n z F G N Eo Er51 En51 Ez51 EF51  H.size hok hxG9 hPE51 ) (cwV 0 hts (kx_gV kq_21_xcalls_6 kq_21_xcalls_7 kq_21_xcalls_8 kq_18_xrows_4 kq_21_xcalls_9 rfl) rfl rfl rfl (by decide +kernel) ⟨Nat.le_of_ble_eq_true rfl, Nat.le_of_ble_eq_true rfl⟩) ⟨kx_blind, va_recv hK hP (ci := 5) (q0 := 0) rfl rfl, kx_give (ws := []) (tys := []) hP hD hK hG hZ hS hFc⟩ rfl rfl hl.1 rfl (lv_room (Nat.le_of_ble_eq_true rfl)) dX5_sign_66 ⟨show (((0 + dn_4) + dn_26) + dn_43) + 0 ≤ 200 from (by omega), show (((0 + dm_5) + dm_27) + dm_44) + 0 ≤ 60000 from (by omega)⟩) hS (fun q _ h => hFc q h) hFc (fun u dn_54 dm_55 t H locs ht hvm hq_52 hB hk1 hS => ?_)
            obtain ⟨r_56, n_57, z_58, F_59, Er_60, En_61, Ez_62, EF_63⟩ := u
            obtain ⟨hP, hK1, hD1⟩ := hB
            rw [ht] at hP
            have hD := hD1.weaken (fun _ q _ h => hFc _ h)
            obtain ⟨hR64, hC64, hq_52⟩ := hq_52
            obtain ⟨rfl, rfl, rfl, rfl, rfl, rfl, rfl, hq_52⟩ := hq_52
            subst hq_52
            have hP : va_P (dC, dI) kxCl ((xU cI cB cE o r n (va_up (va_up z 15 0) 16 (-1)) F G (Eo 0 0)) ++ (eP cI N Eo Er51 En51 Ez51 EF51)) H := hP
            have hD : va_D A ((xU cI cB cE o r n (va_up (va_up z 15 0) 16 (-1)) F G (Eo 0 0)) ++ (eP cI N Eo Er51 En51 Ez51 EF51)) := hD
            refine W.eq (g2 := F0 m 69 ls []) rfl ?_
            refine lv_aload_n hx hb dX5_sign_69 rfl (lv_at hl 0 rfl) ?_
            have hP := eP_foc hj19 hP
            have hD := eD_foc hj19 hD
            refine va_getN (D := (dC, dI)) (ci := 0) (v := .ref (Eo ((p0 + 1).toNat) 1)) (C := RX0) (T := TX0) (N := 12) hx hb hts kt_X0 hown hK hP 29 rfl rfl 2 (by decide) (va_Nw.use rfl (kx_nf hG kq_19_xouts_70)) (fun _ h9 => h9) rfl dX5_sign_70 ?_
            have he_65 : 0 ≤ Ez51 ((p0 + 1).toNat) 0 ∧ Ez51 ((p0 + 1).toNat) 0 ≤ ((En51 ((p0 + 1).toNat) 0 : Nat) : Int) ∧ ((En51 ((p0 + 1).toNat) 0 : Nat) : Int) ≤ 20 := (hPE51 ((p0 + 1).toNat) hj19).1 0 (by decide)
            have hPc := hP.sub (ws' := (iU cI 20 (Eo ((p0 + 1).toNat) 1) (Er51 ((p0 + 1).toNat) 0) (En51 ((p0 + 1).toNat) 0) (Ez51 ((p0 + 1).toNat) 0) (EF51 ((p0 + 1).toNat) 0))) [30, 31] rfl
            refine xk_pure (va_runV (As := []) (rest := []) ⟨hx, hb, hml, hown, hts⟩ (x_size l dC dI cI cB cE 20 (Eo ((p0 + 1).toNat) 1) (Er51 ((p0 + 1).toNat) 0) (En51 ((p0 + 1).toNat) 0) (Ez51 ((p0 + 1).toNat) 0) (EF51 ((p0 + 1).toNat) 0)  H.size ) (cwV 0 hts (kx_gV kq_18_xrows_40 kq_15_xspan_10 kq_15_xspan_11 kq_13_xints_6 kq_15_xspan_12 rfl) rfl rfl rfl (by decide +kernel) ⟨Nat.le_of_ble_eq_true rfl, Nat.le_of_ble_eq_true rfl⟩) ⟨pPre_blind, va_recv hK hPc (ci := 1) (q0 := 0) rfl rfl, pPre_give hPc hK hG⟩ rfl rfl hl.1 rfl (lv_room (Nat.le_of_ble_eq_true rfl)) dX5_sign_73 ⟨show ((((0 + dn_4) + dn_26) + dn_43) + dn_54) + 0 ≤ 200 from (by omega), show ((((0 + dm_5) + dm_27) + dm_44) + dm_55) + 0 ≤ 60000 from (by omega)⟩) hS (fun z_67 locs hq_66 hS => ?_)
            refine W.eq (g2 := F0 m 76 ls [.int (iz z_67)]) rfl ?_
            try dsimp only at hq_66
            have hq_66 := hq_66.symm
            subst hq_66
            have hP := eP_un0 hj19 hP
            have hD := eD_un0 hj19 hD
            have hxz_68 : -2147483648 ≤ z 15 ∧ z 15 < 2147483648 := hok.2.2.2.1 15
            have hxb_69 : z 15 = 0 ∨ z 15 = 1 := hok.2.2.2.2 15 (by decide)
            have hxz_70 : -2147483648 ≤ z 16 ∧ z 16 < 2147483648 := hok.2.2.2.1 16
            have hok71 : xOk n (va_up (va_up z 15 0) 16 (-1)) F := ((hok.s 15 (by decide) (show -2147483648 ≤ 0 ∧ 0 < 2147483648 by omega) (by omega)).s 16 (by decide) (show -2147483648 ≤ (-1) ∧ (-1) < 2147483648 by omega) (by omega))
            have hfr71 : xFr [15, 16] [] z F (va_up (va_up z 15 0) 16 (-1)) F := ((hfr.uz 15 (by decide) _).uz 16 (by decide) _)
            refine vx_ret ?_
            exact xk_iret (ov := (fun u : (Int) × (Nat → Nat) × (Nat → Nat) × (Nat → Int) × (Nat → Int → Int) × (Nat → Nat → Nat) × (Nat → Nat → Nat) × (Nat → Nat → Int) × (Nat → Nat → Int → Int) => match u with | (q, r', n', z', F', Er', En', Ez', EF') => some (.int (iz q)))) (post := (fun (u : (Int) × (Nat → Nat) × (Nat → Nat) × (Nat → Int) × (Nat → Int → Int) × (Nat → Nat → Nat) × (Nat → Nat → Nat) × (Nat → Nat → Int) × (Nat → Nat → Int → Int)) (dn dm : Nat) => match u with | (q, r', n', z', F', Er', En', Ez', EF') => xR [15, 16] [] [0, 1, 2] [0, 1, 2] N z F En Ez EF n' z' F' En' Ez' EF' ∧ (dn + xg n' ≤ xg n + 50 ∧ dm + xp n' ≤ xp n + 400) ∧ (((0 ≤ p0 ∧ p0 < z 12) ∧ (0 ≤ p1 ∧ p1 ≤ 255) ∧ Ez ((p0 + 1).toNat) 0 < 20 ∧ q = Ez ((p0 + 1).toNat) 0 + 1 ∧ Ez' ((p0 + 1).toNat) 0 = Ez ((p0 + 1).toNat) 0 + 1 ∧ (∀ j, j ≠ ((p0 + 1).toNat) → Ez' j = Ez j ∧ EF' j = EF j)) ∧ (iAdd 20 (Ez ((p0 + 1).toNat) 0) (EF ((p0 + 1).toNat) 0) (Ez' ((p0 + 1).toNat) 0) (EF' ((p0 + 1).toNat) 0) p1 ∧ iAdd 20 (Ez ((p0 + 1).toNat) 1) (EF ((p0 + 1).toNat) 1) (Ez' ((p0 + 1).toNat) 1) (EF' ((p0 + 1).toNat) 1) (kf_rk p1) ∧ kf_ls (EF' ((p0 + 1).toNat) 2) 0 (Ez' ((p0 + 1).toNat) 2).toNat = kf_kI (EF' ((p0 + 1).toNat) 0) (Ez' ((p0 + 1).toNat) 0) (z 13) (z 14) 0 0 0)))) (ws := (fun u : (Int) × (Nat → Nat) × (Nat → Nat) × (Nat → Int) × (Nat → Int → Int) × (Nat → Nat → Nat) × (Nat → Nat → Nat) × (Nat → Nat → Int) × (Nat → Nat → Int → Int) => match u with | (q, r', n', z', F', Er', En', Ez', EF') => (xU cI cB cE o r' n' z' F' G (Eo 0 0) ++ eP cI N Eo Er' En' Ez' EF'))) (tys := xT cI cB cE) (z := Ez51 ((p0 + 1).toNat) 0) (Ez51 ((p0 + 1).toNat) 0, r, n, (va_up (va_up z 15 0) 16 (-1)), F, Er51, En51, Ez51, EF51) hx hb hr rfl hlocks rfl hP hD hK hS dX5_sign_76 (fun dn dm hdn hdm => ⟨⟨hok71, hfr71, hPE51, hef51⟩, ⟨by omega, by omega⟩, ⟨⟨by omega, by omega, by omega, by omega, by omega, fun j hj => ⟨by rw [← eEz51]; exact va_up_ne _ _ hj, by rw [← eEF51]; exact va_up_ne _ _ hj⟩⟩, (by rw [hcl51_0, hcF51_0]; exact hd36), (by rw [hcl51_1, hcF51_1]; exact hdr36), (by rw [hcl51_0, hcF51_0, hcl51_2, hcF51_2]; exact hlk49)⟩⟩) (by omega) (by omega)
          · omega
      · skip
        exact ky_thr_IAE hx hb hlf hown hG hZ hS (hl.1.trans hml.symm) dX5_sign_16 dX5_sign_19 dX5_sign_20 dX5_sign_23 htab (Nat.le_of_ble_eq_true rfl) (Nat.le_of_ble_eq_true rfl) (show (0 + dn_4) + 1 ≤ 200 from (by omega)) (show (0 + dm_5) + 6 ≤ 60000 from (by omega)) hlocks (Or.inr (Or.inl ⟨rfl, by first | trivial | omega⟩)) (fun t hvm h1 h2 => ⟨(r, n, z, F, Er, En, Ez, EF), ⟨hok, xFr.rf, hPE, eFr.rf⟩, hP.kept (fun k q hk => h2 q.1 (hP k q hk).lt), va_K.moved hvm hK, hD⟩) hS.2.2 (by omega) (by omega) (by omega) (by omega)
set_option maxHeartbeats 4000000 in
set_option maxRecDepth 100000 in
theorem y_makeKeys2 (l : Launch) (dC : Nat → ClassId) (dI : Nat → Nat → Nat) (cI cB cE : ClassId) (o r n : Nat → Nat) (z : Nat → Int) (F : Nat → Int → Int) (G : Nat → Option Nat) (N : Nat) (Eo Er En : Nat → Nat → Nat) (Ez : Nat → Nat → Int) (EF : Nat → Nat → Int → Int) (sz : Nat) (hok : xOk n z F) (hxG : xG N (z 12) G Eo) (hPE : eA N En Ez EF) (hsgA : ∀ j : Nat, 1 ≤ j → j < N → ∀ i, 0 ≤ i → i < Ez j 0 → 0 ≤ EF j 0 i ∧ EF j 0 i ≤ 255) : Met l yX5_makeKeys [.code yX5_makeKeys cX5_makeKeys 2 none] ({ frames := 5, cells := 900, slots := 55000, locals := 152 }) (va_Pc [.ref (o 15)] (kx_Pre dC dI (xU cI cB cE o r n z F G (Eo 0 0) ++ eP cI N Eo Er En Ez EF) (xT cI cB cE) sz)) (xQ (fun _ : (Nat → Nat) × (Nat → Nat) × (Nat → Int) × (Nat → Int → Int) × (Nat → Nat → Nat) × (Nat → Nat → Nat) × (Nat → Nat → Int) × (Nat → Nat → Int → Int) => none) (fun (u : (Nat → Nat) × (Nat → Nat) × (Nat → Int) × (Nat → Int → Int) × (Nat → Nat → Nat) × (Nat → Nat → Nat) × (Nat → Nat → Int) × (Nat → Nat → Int → Int)) (dn dm : Nat) => match u with | (r', n', z', F', Er', En', Ez', EF') => xR [] [] [2] [2] N z F En Ez EF n' z' F' En' Ez' EF' ∧ (dn + xg n' ≤ xg n + 720 ∧ dm + xp n' ≤ xp n + 9600) ∧ (∀ j : Nat, 1 ≤ j → (j : Int) ≤ z 12 → kf_ls (EF' j 2) 0 (Ez' j 2).toNat = kf_kI (EF j 0) (Ez j 0) (z 13) (z 14) 0 0 0)) (fun u t => kx_At dC dI (va_A (xU cI cB cE o r n z F G (Eo 0 0) ++ eP cI N Eo Er En Ez EF) sz) ((fun u : (Nat → Nat) × (Nat → Nat) × (Nat → Int) × (Nat → Int → Int) × (Nat → Nat → Nat) × (Nat → Nat → Nat) × (Nat → Nat → Int) × (Nat → Nat → Int → Int) => match u with | (r', n', z', F', Er', En', Ez', EF') => (xU cI cB cE o r' n' z' F' G (Eo 0 0) ++ eP cI N Eo Er' En' Ez' EF')) u) (xT cI cB cE) t) (va_A (xU cI cB cE o r n z F G (Eo 0 0) ++ eP cI N Eo Er En Ez EF) sz)) 900 55000 (va_A (xU cI cB cE o r n z F G (Eo 0 0) ++ eP cI N Eo Er En Ez EF) sz) := by
  refine Met.ofW (cc := cX5_makeKeys) (maxL := 2) (ret := none) (by decide) rfl ?_
  intro p e s m args below meth c s₁ B hml hv
  obtain ⟨rfl, hsz, hP, hK, hD0, hG, hZ⟩ := hv
  have hx := B.exec
  have hb := B.bytes
  have hr := B.returns
  have hts := kx_hts (a := ([.ref (o 15)] : List Value).toArray) hG
  have hown : s.vm.findClass RX5 = some m.cls := findClass_of_methodNamed B.named
  have hlocks := B.notSynchronized
  subst hsz
  have hD := hD0.self (sz := s.heap.size)
  generalize hAe : va_A (xU cI cB cE o r n z F G (Eo 0 0) ++ eP cI N Eo Er En Ez EF) s.heap.size = A at hD hZ ⊢
  have hA : ∀ q : Nat, s.heap.size ≤ q → A q := fun q h => by rw [← hAe]; exact Or.inr h
  have hS : va_S A s.heap s.heap [] := va_S.rf
  have hl := lv_entry ([.ref (o 15)]) (n := 2) (Nat.le_of_ble_eq_true rfl)
  rw [lg_entry_eq]
  generalize (lg_sl ([.ref (o 15)]) ++ List.replicate (2 - (lg_sl ([.ref (o 15)])).length) Slot.unset).toArray = ls at hl ⊢
  obtain ⟨hN1, hN2, hN3, hN4⟩ := hxG
  have hef : eFr [2] [2] En Ez EF En Ez EF := eFr.rf
  have hfr : xFr [] [] z F z F := xFr.rf
  have hxgl := xg_le n
  have hxpl := xp_le n
  have hl : lv_has ls 2 [(0, .ref (o 15))] := hl
  generalize hQe : MQ below (xQ (fun _ : (Nat → Nat) × (Nat → Nat) × (Nat → Int) × (Nat → Int → Int) × (Nat → Nat → Nat) × (Nat → Nat → Nat) × (Nat → Nat → Int) × (Nat → Nat → Int → Int) => none) (fun (u : (Nat → Nat) × (Nat → Nat) × (Nat → Int) × (Nat → Int → Int) × (Nat → Nat → Nat) × (Nat → Nat → Nat) × (Nat → Nat → Int) × (Nat → Nat → Int → Int)) (dn dm : Nat) => match u with | (r', n', z', F', Er', En', Ez', EF') => xR [] [] [2] [2] N z F En Ez EF n' z' F' En' Ez' EF' ∧ (dn + xg n' ≤ xg n + 720 ∧ dm + xp n' ≤ xp n + 9600) ∧ (∀ j : Nat, 1 ≤ j → (j : Int) ≤ z 12 → kf_ls (EF' j 2) 0 (Ez' j 2).toNat = kf_kI (EF j 0) (Ez j 0) (z 13) (z 14) 0 0 0)) (fun u t => kx_At dC dI A ((fun u : (Nat → Nat) × (Nat → Nat) × (Nat → Int) × (Nat → Int → Int) × (Nat → Nat → Nat) × (Nat → Nat → Nat) × (Nat → Nat → Int) × (Nat → Nat → Int → Int) => match u with | (r', n', z', F', Er', En', Ez', EF') => (xU cI cB cE o r' n' z' F' G (Eo 0 0) ++ eP cI N Eo Er' En' Ez' EF')) u) (xT cI cB cE) t) A) ([.ref (o 15)] : List Value).toArray s 900 55000 A = QQ
  refine lv_iconst (v := iz 0) hx hb dX5_makeKeys_0 (by decide) ?_
  refine lv_istore_n (lv' := [(1, .int (iz 0)), (0, .ref (o 15))]) hx hb dX5_makeKeys_1 rfl hl (by decide) rfl (fun ls hl => ?_)
  have lp2 : ∀ (n0 : Nat) (k : Int) (rL2 : Nat → Nat) (nL2 : Nat → Nat) (zL2 : Nat → Int) (FL2 : Nat → Int → Int) (ErL2 : Nat → Nat → Nat) (EnL2 : Nat → Nat → Nat) (EzL2 : Nat → Nat → Int) (EFL2 : Nat → Nat → Int → Int) (cv : Nat) (sv : Nat), ((xR [] [] [2] [2] N z F En Ez EF nL2 zL2 FL2 EnL2 EzL2 EFL2) ∧ (cv + xg nL2 ≤ xg n + (9 * k.toNat) ∧ sv + xp nL2 ≤ xp n + (120 * k.toNat)) ∧ (zL2 12 = z 12) ∧ (0 ≤ k ∧ k ≤ 79) ∧ (∀ j : Nat, 1 ≤ j → (j : Int) ≤ k → kf_ls (EFL2 j 2) 0 (EzL2 j 2).toNat = kf_kI (EF j 0) (Ez j 0) (z 13) (z 14) 0 0 0)) → (z 12 - k).toNat < n0 → ∀ (H : Heap) (locs : List Loc), va_P (dC, dI) kxCl ((xU cI cB cE o rL2 nL2 zL2 FL2 G (Eo 0 0)) ++ (eP cI N Eo ErL2 EnL2 EzL2 EFL2)) H → va_D A ((xU cI cB cE o rL2 nL2 zL2 FL2 G (Eo 0 0)) ++ (eP cI N Eo ErL2 EnL2 EzL2 EFL2)) → va_S A s.heap H locs → ∀ ls : Array Slot, lv_has ls 2 [(1, .int (iz k)), (0, .ref (o 15))] → W p l e (headSpec [.code yX5_makeKeys cX5_makeKeys 2 none] ({ frames := 5, cells := 900, slots := 55000, locals := 152 })).room s m ([.ref (o 15)] : List Value).toArray below meth c H locs cv sv QQ (F0 m 2 ls []) := by
    intro n0
    induction n0 with
    | zero => intro k rL2 nL2 zL2 FL2 ErL2 EnL2 EzL2 EFL2 cv sv hinv hm0; exact absurd hm0 (Nat.not_lt_zero _)
    | succ n0 ih2 =>
      intro k rL2 nL2 zL2 FL2 ErL2 EnL2 EzL2 EFL2 cv sv hinv hm0 H locs hP hD hS ls hl
      obtain ⟨hRLL2, hCLL2, hZLL2, hk, hky⟩ := hinv
      have hkzL2_13 : zL2 13 = z 13 := hRLL2.2.1.1 13 (by decide)
      have hkzL2_14 : zL2 14 = z 14 := hRLL2.2.1.1 14 (by decide)
      refine lv_iload_n hx hb dX5_makeKeys_2 rfl (lv_at hl 0 rfl) ?_
      refine lv_aload_n hx hb dX5_makeKeys_3 rfl (lv_at hl 1 rfl) ?_
      have hxz_1 : -2147483648 ≤ zL2 12 ∧ zL2 12 < 2147483648 := hRLL2.1.2.2.2.1 12
      refine va_get (D := (dC, dI)) (ci := 5) (v := .int (iz (zL2 12))) (C := RX5) (T := TX5) (N := 16) hx hb hts kt_X5 hown hK hP 0 rfl rfl 2 (by decide) (kx_word hG kq_18_xrows_0 rfl) (fun _ h9 => h9) rfl dX5_makeKeys_4 ?_
      refine ki_icmp_ge (tgt := 32) hx hb dX5_makeKeys_7 (by decide) (by omega) (by omega) (by omega) (by omega) (fun c_2 => ?_) (fun c_2 => ?_)
      · skip
        rw [← hQe]
        exact xk_vret (ov := (fun _ : (Nat → Nat) × (Nat → Nat) × (Nat → Int) × (Nat → Int → Int) × (Nat → Nat → Nat) × (Nat → Nat → Nat) × (Nat → Nat → Int) × (Nat → Nat → Int → Int) => none)) (post := (fun (u : (Nat → Nat) × (Nat → Nat) × (Nat → Int) × (Nat → Int → Int) × (Nat → Nat → Nat) × (Nat → Nat → Nat) × (Nat → Nat → Int) × (Nat → Nat → Int → Int)) (dn dm : Nat) => match u with | (r', n', z', F', Er', En', Ez', EF') => xR [] [] [2] [2] N z F En Ez EF n' z' F' En' Ez' EF' ∧ (dn + xg n' ≤ xg n + 720 ∧ dm + xp n' ≤ xp n + 9600) ∧ (∀ j : Nat, 1 ≤ j → (j : Int) ≤ z 12 → kf_ls (EF' j 2) 0 (Ez' j 2).toNat = kf_kI (EF j 0) (Ez j 0) (z 13) (z 14) 0 0 0))) (ws := (fun u : (Nat → Nat) × (Nat → Nat) × (Nat → Int) × (Nat → Int → Int) × (Nat → Nat → Nat) × (Nat → Nat → Nat) × (Nat → Nat → Int) × (Nat → Nat → Int → Int) => match u with | (r', n', z', F', Er', En', Ez', EF') => (xU cI cB cE o r' n' z' F' G (Eo 0 0) ++ eP cI N Eo Er' En' Ez' EF'))) (tys := xT cI cB cE) (rL2, nL2, zL2, FL2, ErL2, EnL2, EzL2, EFL2) hx hb hr hlocks rfl hP hD hK hS dX5_makeKeys_32 (fun dn dm hdn hdm => ⟨⟨hRLL2.1, hRLL2.2.1, hRLL2.2.2.1, hRLL2.2.2.2⟩, ⟨by omega, by omega⟩, fun j h1 h2 => hky j h1 (by omega)⟩) (by omega) (by omega)
      · skip
        refine lv_aload_n hx hb dX5_makeKeys_10 rfl (lv_at hl 1 rfl) ?_
        refine lv_iload_n hx hb dX5_makeKeys_11 rfl (lv_at hl 0 rfl) ?_
        have hxG9 : xG N (zL2 12) G Eo := ⟨by omega, by omega, by omega, fun e9 h9 => hN4 e9 (by omega)⟩
        have hP : va_P (dC, dI) kxCl (xU cI cB cE o rL2 nL2 zL2 FL2 G (Eo 0 0) ++ eP cI N Eo ErL2 EnL2 EzL2 EFL2) H := hP
        refine xk_pure (va_runV (As := [.int (iz k)]) (rest := []) ⟨hx, hb, hml, hown, hts⟩ (y_known l dC dI cI cB cE o rL2 nL2 zL2 FL2 G N Eo ErL2 EnL2 EzL2 EFL2 k H.size hRLL2.1 hxG9 hRLL2.2.2.1 (by omega) (by omega)) (cwV 1 hts (kx_gV kq_18_xrows_8 kq_18_xrows_9 kq_18_xrows_10 kq_18_xrows_4 kq_18_xrows_11 rfl) rfl rfl rfl (by decide +kernel) ⟨Nat.le_of_ble_eq_true rfl, Nat.le_of_ble_eq_true rfl⟩) ⟨pPre_blind, va_recv hK hP (ci := 5) (q0 := 0) rfl rfl, pPre_give hP hK hG⟩ rfl rfl hl.1 rfl (lv_room (Nat.le_of_ble_eq_true rfl)) dX5_makeKeys_12 ⟨show cv + 0 ≤ 900 from (by omega), show sv + 0 ≤ 55000 from (by omega)⟩) hS (fun z_4 locs hq_3 hS => ?_)
        refine W.eq (g2 := F0 m 15 ls [.ref z_4.toNat]) rfl ?_
        try dsimp only at hq_3
        obtain ⟨j5, hj5, ez5, hje5⟩ := hq_3
        subst ez5
        refine W.eq (g2 := F0 m 15 ls [.ref (Eo j5 0)]) rfl ?_
        refine lv_aload_n hx hb dX5_makeKeys_15 rfl (lv_at hl 1 rfl) ?_
        have hxz_6 : -2147483648 ≤ zL2 13 ∧ zL2 13 < 2147483648 := hRLL2.1.2.2.2.1 13
        have hxb_7 : zL2 13 = 0 ∨ zL2 13 = 1 := hRLL2.1.2.2.2.2 13 (by decide)
        refine va_get (D := (dC, dI)) (ci := 5) (v := .int (iz (zL2 13))) (C := RX5) (T := TX5) (N := 16) hx hb hts kt_X5 hown hK hP 0 rfl rfl 3 (by decide) (kx_word hG kq_18_xrows_31 rfl) (fun _ h9 => h9) rfl dX5_makeKeys_16 ?_
        refine lv_aload_n hx hb dX5_makeKeys_19 rfl (lv_at hl 1 rfl) ?_
        have hxz_8 : -2147483648 ≤ zL2 14 ∧ zL2 14 < 2147483648 := hRLL2.1.2.2.2.1 14
        have hxb_9 : zL2 14 = 0 ∨ zL2 14 = 1 := hRLL2.1.2.2.2.2 14 (by decide)
        refine va_get (D := (dC, dI)) (ci := 5) (v := .int (iz (zL2 14))) (C := RX5) (T := TX5) (N := 16) hx hb hts kt_X5 hown hK hP 0 rfl rfl 4 (by decide) (kx_word hG kq_18_xrows_32 rfl) (fun _ h9 => h9) rfl dX5_makeKeys_20 ?_
        have hP := eP_foc hj5 hP
        have hD := eD_foc hj5 hD
        have hPc := hP.sub (ws' := (eU cI (Eo j5) (ErL2 j5) (EnL2 j5) (EzL2 j5) (EFL2 j5))) [29, 30, 31, 32, 33, 34, 35, 36, 37, 38, 39, 40, 41, 42, 43, 44] rfl
        have hDc := hD.sub (ws' := (eU cI (Eo j5) (ErL2 j5) (EnL2 j5) (EzL2 j5) (EFL2 j5))) [29, 30, 31, 32, 33, 34, 35, 36, 37, 38, 39, 40, 41, 42, 43, 44] (by decide) rfl
        have hFc := va_free (wc := (eU cI (Eo j5) (ErL2 j5) (EnL2 j5) (EzL2 j5) (EFL2 j5))) hD hS hA [29, 30, 31, 32, 33, 34, 35, 36, 37, 38, 39, 40, 41, 42, 43, 44] rfl
        refine xk_call (va_runV (As := [.int (iz (zL2 13)), .int (iz (zL2 14))]) (rest := []) ⟨hx, hb, hml, hown, hts⟩ (x_makeKey2 l dC dI cI cB cE (Eo j5) (ErL2 j5) (EnL2 j5) (EzL2 j5) (EFL2 j5) (zL2 13) (zL2 14) H.size (hRLL2.2.2.1 j5 hj5) (fun i h1 h2 => by have e8 := (hRLL2.2.2.2.2 j5 0 (by decide)).2; have e9 := hRLL2.2.2.2.1 j5 0 (by decide); have h3 := hsgA j5 (by omega) hj5 i h1 (by rw [← e9]; exact h2); rw [← e8] at h3; exact h3) (by omega) (by omega) (by omega) (by omega) (by omega) (by omega)) (cwV 2 hts (kx_gV kq_18_xrows_33 kq_18_xrows_34 kq_18_xrows_35 kq_16_xentry_2 kq_18_xrows_36 rfl) rfl rfl rfl (by decide +kernel) ⟨Nat.le_of_ble_eq_true rfl, Nat.le_of_ble_eq_true rfl⟩) ⟨kx_blind, va_recv hK hPc (ci := 0) (q0 := 0) rfl rfl, kx_give (ws := []) (tys := []) hPc hDc hK hG hZ hS hFc⟩ rfl rfl hl.1 rfl (lv_room (Nat.le_of_ble_eq_true rfl)) dX5_makeKeys_23 ⟨show cv + 20 ≤ 900 from (by omega), show sv + 3500 ≤ 55000 from (by omega)⟩) hS (fun q _ h => hFc q h) hFc (fun u dn_11 dm_12 t H locs ht hvm hq_10 hB hk1 hS => ?_)
        obtain ⟨r2_13, n2_14, z2_15, F2_16⟩ := u
        obtain ⟨hP1, hK1, hD1⟩ := hB
        rw [ht] at hP1
        obtain ⟨hP, hD⟩ := xj_pool (wr := [(o 15, .inr (5, [.ref (o 16), .ref (Eo 0 0), .int (iz (zL2 12)), .int (iz (zL2 13)), .int (iz (zL2 14)), .ref (o 0), .ref (o 1), .int (iz (zL2 15)), .ref (o 13), .ref (o 14), .int (iz (zL2 16)), .ref (o 2), .ref (o 12), .ref (o 3), .ref (o 10), .ref (o 11)])), (o 16, .inl (cE, 80, .inr (.inr (.inr (.inr G))))), (o 0, .inr (1, [.int (iz 80), .ref (rL2 0), .int (iz (zL2 0))])), (rL2 0, .inl (cI, nL2 0, .inl (iA (FL2 0)))), (o 1, .inr (1, [.int (iz 80), .ref (rL2 1), .int (iz (zL2 1))])), (rL2 1, .inl (cI, nL2 1, .inl (iA (FL2 1)))), (o 2, .inr (1, [.int (iz 80), .ref (rL2 2), .int (iz (zL2 2))])), (rL2 2, .inl (cI, nL2 2, .inl (iA (FL2 2)))), (o 3, .inr (1, [.int (iz 80), .ref (rL2 3), .int (iz (zL2 3))])), (rL2 3, .inl (cI, nL2 3, .inl (iA (FL2 3)))), (o 13, .inr (3, [.ref (o 4), .ref (o 5), .ref (o 6)])), (o 4, .inr (1, [.int (iz 1600), .ref (rL2 4), .int (iz (zL2 4))])), (rL2 4, .inl (cI, nL2 4, .inl (iA (FL2 4)))), (o 5, .inr (1, [.int (iz 1600), .ref (rL2 5), .int (iz (zL2 5))])), (rL2 5, .inl (cI, nL2 5, .inl (iA (FL2 5)))), (o 6, .inr (1, [.int (iz 1600), .ref (rL2 6), .int (iz (zL2 6))])), (rL2 6, .inl (cI, nL2 6, .inl (iA (FL2 6)))), (o 14, .inr (3, [.ref (o 7), .ref (o 8), .ref (o 9)])), (o 7, .inr (1, [.int (iz 1600), .ref (rL2 7), .int (iz (zL2 7))])), (rL2 7, .inl (cI, nL2 7, .inl (iA (FL2 7)))), (o 8, .inr (1, [.int (iz 1600), .ref (rL2 8), .int (iz (zL2 8))])), (rL2 8, .inl (cI, nL2 8, .inl (iA (FL2 8)))), (o 9, .inr (1, [.int (iz 1600), .ref (rL2 9), .int (iz (zL2 9))])), (rL2 9, .inl (cI, nL2 9, .inl (iA (FL2 9)))), (o 12, .inr (4, [.int (iz (zL2 17)), .int (iz (zL2 18)), .int (iz (zL2 19)), .int (iz (zL2 20)), .int (iz (zL2 21))])), (o 10, .inr (2, [.ref (rL2 10), .int (iz (zL2 10)), .int (iz (zL2 22))])), (rL2 10, .inl (cB, nL2 10, .inl (iA (FL2 10)))), (o 11, .inr (2, [.ref (rL2 11), .int (iz (zL2 11)), .int (iz (zL2 23))])), (rL2 11, .inl (cB, nL2 11, .inl (iA (FL2 11))))]) (w1 := (eU cI (Eo j5) (va_up (ErL2 j5) 2 r2_13) (va_up (EnL2 j5) 2 n2_14) (va_up (EzL2 j5) 2 z2_15) (va_up (EFL2 j5) 2 F2_16))) (ws' := ((xU cI cB cE o rL2 nL2 zL2 FL2 G (Eo 0 0)) ++ (eU cI (Eo j5) (va_up (ErL2 j5) 2 r2_13) (va_up (EnL2 j5) 2 n2_14) (va_up (EzL2 j5) 2 z2_15) (va_up (EFL2 j5) 2 F2_16)))) hP hD [29, 30, 31, 32, 33, 34, 35, 36, 37, 38, 39, 40, 41, 42, 43, 44] [0, 1, 2, 3, 4, 5, 6, 7, 8, 9, 10, 11, 12, 13, 14, 15, 16, 17, 18, 19, 20, 21, 22, 23, 24, 25, 26, 27, 28] [0, 1, 2, 3, 4, 5, 6, 7, 8, 9, 10, 11, 12, 13, 14, 15, 16, 17, 18, 19, 20, 21, 22, 23, 24, 25, 26, 27, 28, 29, 30, 31, 32, 33, 34, 35, 36, 37, 38, 39, 40, 41, 42, 43, 44] rfl rfl (by decide) (by decide) hk1 hFc hP1 hD1 rfl (by decide)
        refine W.eq (g2 := F0 m 26 ls []) rfl ?_
        try dsimp only at hq_10
        obtain ⟨⟨ha17, hb17⟩, hc17, hlk17⟩ := hq_10
        have hpg17 := psg_le 40 (EnL2 j5 2)
        have hpj17 := psj_le (L := 40) (by omega) (EnL2 j5 2)
        refine lv_iinc (v := iz (k + 1)) (lv' := [(1, .int (iz (k + 1))), (0, .ref (o 15))]) hx hb dX5_makeKeys_26 hl (k := 0) rfl (iz_add k 1) (by decide) rfl (fun ls hl => ?_)
        refine lv_goto (tgt := 2) hx hb dX5_makeKeys_29 (by decide) ?_
        have he_18 : 0 ≤ EzL2 j5 2 ∧ EzL2 j5 2 ≤ ((EnL2 j5 2 : Nat) : Int) ∧ ((EnL2 j5 2 : Nat) : Int) ≤ 40 := (hRLL2.2.2.1 j5 hj5).1 2 (by decide)
        have hP : va_P (dC, dI) kxCl (((xU cI cB cE o rL2 nL2 zL2 FL2 G (Eo 0 0)) ++ (eU cI (Eo j5) (va_up (ErL2 j5) 2 r2_13) (va_up (EnL2 j5) 2 n2_14) (va_up (EzL2 j5) 2 z2_15) (va_up (EFL2 j5) 2 F2_16))) ++ (eR cI N j5 Eo ErL2 EnL2 EzL2 EFL2)) H := hP
        have hD : va_D A (((xU cI cB cE o rL2 nL2 zL2 FL2 G (Eo 0 0)) ++ (eU cI (Eo j5) (va_up (ErL2 j5) 2 r2_13) (va_up (EnL2 j5) 2 n2_14) (va_up (EzL2 j5) 2 z2_15) (va_up (EFL2 j5) 2 F2_16))) ++ (eR cI N j5 Eo ErL2 EnL2 EzL2 EFL2)) := hD
        have hP := eP_unf hj5 hP
        have hD := eD_unf hj5 hD
        have hPE19 := hRLL2.2.2.1.up j5 ((hRLL2.2.2.1 j5 hj5).i 2 (by decide) (show 0 ≤ z2_15 ∧ z2_15 ≤ ((n2_14 : Nat) : Int) ∧ ((n2_14 : Nat) : Int) ≤ 40 by omega) hb17 (by omega))
        have hef19 := hRLL2.2.2.2.up j5 (z := (va_up (EzL2 j5) 2 z2_15)) (n := (va_up (EnL2 j5) 2 n2_14)) (F := (va_up (EFL2 j5) 2 F2_16)) (fun k hk => (vfr hk _ (by decide) rfl)) (fun k hk => ⟨(vfr hk _ (by decide) rfl), (vfr hk _ (by decide) rfl)⟩)
        generalize eEr19 : va_up ErL2 j5 (va_up (ErL2 j5) 2 r2_13) = Er19 at hP hD
        generalize eEn19 : va_up EnL2 j5 (va_up (EnL2 j5) 2 n2_14) = En19 at hP hD hPE19 hef19
        generalize eEz19 : va_up EzL2 j5 (va_up (EzL2 j5) 2 z2_15) = Ez19 at hP hD hPE19 hef19
        generalize eEF19 : va_up EFL2 j5 (va_up (EFL2 j5) 2 F2_16) = EF19 at hP hD hPE19 hef19
        have hcl19_2 : Ez19 j5 2 = z2_15 := by rw [← eEz19]; simp (decide := true) only [va_ev, ↓reduceIte]
        have hcF19_2 : EF19 j5 2 = F2_16 := by rw [← eEF19]; simp (decide := true) only [va_ev, ↓reduceIte]
        exact ih2 (k + 1) rL2 nL2 zL2 FL2 Er19 En19 Ez19 EF19 (cv + dn_11) (sv + dm_12) ⟨⟨hRLL2.1, hRLL2.2.1, hPE19, hef19⟩, ⟨by omega, by omega⟩, (show zL2 12 = z 12 by omega), by omega, fun j h1 h2 => by by_cases c9 : j = j5; (rw [c9, hcF19_2, hcl19_2, hlk17, (hRLL2.2.2.2.2 j5 0 (by decide)).2, hRLL2.2.2.2.1 j5 0 (by decide), hkzL2_13, hkzL2_14]); (rw [← eEF19, ← eEz19, va_up_ne _ _ c9, va_up_ne _ _ c9]; exact hky j h1 (by omega))⟩ (by omega) _ _ hP hD hS ls (lv_sub hl [0, 1] rfl)
  exact lp2 _ 0 r n z F Er En Ez EF 0 0 ⟨⟨hok, hfr, hPE, hef⟩, ⟨by omega, by omega⟩, (show z 12 = z 12 by omega), by omega, fun j h1 h2 => absurd h1 (by omega)⟩ (Nat.lt_succ_self _) _ _ hP hD hS ls (lv_sub hl [0, 1] rfl)
set_option maxHeartbeats 4000000 in
set_option maxRecDepth 100000 in
theorem y_rule2 (l : Launch) (hlf : l.stackTraces = false) (dC : Nat → ClassId) (dI : Nat → Nat → Nat) (cI cB cE : ClassId) (o r n : Nat → Nat) (z : Nat → Int) (F : Nat → Int → Int) (G : Nat → Option Nat) (N : Nat) (Eo Er En : Nat → Nat → Nat) (Ez : Nat → Nat → Int) (EF : Nat → Nat → Int → Int) (p0 : Int) (p1 : Int) (sz : Nat) (hok : xOk n z F) (hxG : xG N (z 12) G Eo) (hPE : eA N En Ez EF) (hp01 : -2147483648 ≤ p0) (hp02 : p0 < 2147483648) (hp1 : p1 = 0 ∨ p1 = 1) (hsgA : ∀ j : Nat, 1 ≤ j → j < N → ∀ i, 0 ≤ i → i < Ez j 0 → 0 ≤ EF j 0 i ∧ EF j 0 i ≤ 255) : vx_Met l yX5_rule [.code yX5_rule cX5_rule 4 (some .int)] ({ frames := 7, cells := 1000, slots := 60000, locals := 173 }) (va_Pc [.ref (o 15), .int (iz p0), .int (iz p1)] (kx_Pre dC dI (xU cI cB cE o r n z F G (Eo 0 0) ++ eP cI N Eo Er En Ez EF) (xT cI cB cE) sz)) (xQ (fun u : (Int) × (Nat → Nat) × (Nat → Nat) × (Nat → Int) × (Nat → Int → Int) × (Nat → Nat → Nat) × (Nat → Nat → Nat) × (Nat → Nat → Int) × (Nat → Nat → Int → Int) => match u with | (q, r', n', z', F', Er', En', Ez', EF') => some (.int (iz q))) (fun (u : (Int) × (Nat → Nat) × (Nat → Nat) × (Nat → Int) × (Nat → Int → Int) × (Nat → Nat → Nat) × (Nat → Nat → Nat) × (Nat → Nat → Int) × (Nat → Nat → Int → Int)) (dn dm : Nat) => match u with | (q, r', n', z', F', Er', En', Ez', EF') => xR [13, 14, 15, 16] [] [2] [2] N z F En Ez EF n' z' F' En' Ez' EF' ∧ (dn + xg n' ≤ xg n + 720 ∧ dm + xp n' ≤ xp n + 9600) ∧ (((p0 = 0 ∧ q = z 13 ∧ z' 13 = p1 ∧ z' 14 = z 14) ∨ (p0 = 1 ∧ q = z 14 ∧ z' 14 = p1 ∧ z' 13 = z 13)) ∧ ((z' 13 = z 13 ∧ z' 14 = z 14 ∧ ∀ j, Ez' j = Ez j ∧ EF' j = EF j) ∨ (∀ j : Nat, 1 ≤ j → (j : Int) ≤ z 12 → kf_ls (EF' j 2) 0 (Ez' j 2).toNat = kf_kI (EF j 0) (Ez j 0) (z' 13) (z' 14) 0 0 0)))) (fun u t => kx_At dC dI (va_A (xU cI cB cE o r n z F G (Eo 0 0) ++ eP cI N Eo Er En Ez EF) sz) ((fun u : (Int) × (Nat → Nat) × (Nat → Nat) × (Nat → Int) × (Nat → Int → Int) × (Nat → Nat → Nat) × (Nat → Nat → Nat) × (Nat → Nat → Int) × (Nat → Nat → Int → Int) => match u with | (q, r', n', z', F', Er', En', Ez', EF') => (xU cI cB cE o r' n' z' F' G (Eo 0 0) ++ eP cI N Eo Er' En' Ez' EF')) u) (xT cI cB cE) t) (va_A (xU cI cB cE o r n z F G (Eo 0 0) ++ eP cI N Eo Er En Ez EF) sz)) (yX (fun E => (E = "java/lang/IllegalArgumentException" ∧ (¬ p0 = 0 ∧ ¬ p0 = 1))) 1 6 (fun t => ∃ u : (Nat → Nat) × (Nat → Nat) × (Nat → Int) × (Nat → Int → Int) × (Nat → Nat → Nat) × (Nat → Nat → Nat) × (Nat → Nat → Int) × (Nat → Nat → Int → Int), match u with | (r', n', z', F', Er', En', Ez', EF') => xR [] [] [] [] N z F En Ez EF n' z' F' En' Ez' EF' ∧ kx_At dC dI (va_A (xU cI cB cE o r n z F G (Eo 0 0) ++ eP cI N Eo Er En Ez EF) sz) (xU cI cB cE o r' n' z' F' G (Eo 0 0) ++ eP cI N Eo Er' En' Ez' EF') (xT cI cB cE) t) (va_A (xU cI cB cE o r n z F G (Eo 0 0) ++ eP cI N Eo Er En Ez EF) sz)) 1000 60000 (va_A (xU cI cB cE o r n z F G (Eo 0 0) ++ eP cI N Eo Er En Ez EF) sz) := by
  refine vx_ofW (cc := cX5_rule) (maxL := 4) (ret := (some .int)) (by decide) rfl ?_
  intro p e s m args below meth c s₁ B hml htab hv
  obtain ⟨rfl, hsz, hP, hK, hD0, hG, hZ⟩ := hv
  have hx := B.exec
  have hb := B.bytes
  have hr := B.returns
  have hts := kx_hts (a := ([.ref (o 15), .int (iz p0), .int (iz p1)] : List Value).toArray) hG
  have hown : s.vm.findClass RX5 = some m.cls := findClass_of_methodNamed B.named
  have hlocks := B.notSynchronized
  subst hsz
  have hD := hD0.self (sz := s.heap.size)
  generalize hAe : va_A (xU cI cB cE o r n z F G (Eo 0 0) ++ eP cI N Eo Er En Ez EF) s.heap.size = A at hD hZ ⊢
  have hA : ∀ q : Nat, s.heap.size ≤ q → A q := fun q h => by rw [← hAe]; exact Or.inr h
  have hS : va_S A s.heap s.heap [] := va_S.rf
  have hl := lv_entry ([.ref (o 15), .int (iz p0), .int (iz p1)]) (n := 4) (Nat.le_of_ble_eq_true rfl)
  rw [lg_entry_eq]
  generalize (lg_sl ([.ref (o 15), .int (iz p0), .int (iz p1)]) ++ List.replicate (4 - (lg_sl ([.ref (o 15), .int (iz p0), .int (iz p1)])).length) Slot.unset).toArray = ls at hl ⊢
  obtain ⟨hN1, hN2, hN3, hN4⟩ := hxG
  have hef : eFr [2] [2] En Ez EF En Ez EF := eFr.rf
  have hfr : xFr [13, 14, 15, 16] [] z F z F := xFr.rf
  have hxgl := xg_le n
  have hxpl := xp_le n
  have hl : lv_has ls 4 [(0, .ref (o 15)), (1, .int (iz p0)), (2, .int (iz p1))] := hl
  refine lv_iload_n hx hb dX5_rule_0 rfl (lv_at hl 1 rfl) ?_
  refine ki_if_lt (tgt := 9) hx hb dX5_rule_1 (by decide) (by omega) (by omega) (fun c_1 => ?_) (fun c_1 => ?_)
  · skip
    exact ky_thr_IAE hx hb hlf hown hG hZ hS (hl.1.trans hml.symm) dX5_rule_9 dX5_rule_12 dX5_rule_13 dX5_rule_16 htab (Nat.le_of_ble_eq_true rfl) (Nat.le_of_ble_eq_true rfl) (show 0 + 1 ≤ 1000 from (by omega)) (show 0 + 6 ≤ 60000 from (by omega)) hlocks (⟨rfl, by first | trivial | omega⟩) (fun t hvm h1 h2 => ⟨(r, n, z, F, Er, En, Ez, EF), ⟨hok, xFr.rf, hPE, eFr.rf⟩, hP.kept (fun k q hk => h2 q.1 (hP k q hk).lt), va_K.moved hvm hK, hD⟩) hS.2.2 (by omega) (by omega) (by omega) (by omega)
  · skip
    refine lv_iload_n hx hb dX5_rule_4 rfl (lv_at hl 1 rfl) ?_
    refine lv_iconst (v := iz 1) hx hb dX5_rule_5 (by decide) ?_
    refine ki_icmp_le (tgt := 17) hx hb dX5_rule_6 (by decide) (by omega) (by omega) (by omega) (by omega) (fun c_2 => ?_) (fun c_2 => ?_)
    · skip
      refine lv_iload_n hx hb dX5_rule_17 rfl (lv_at hl 1 rfl) ?_
      refine ki_if_ne (tgt := 28) hx hb dX5_rule_18 (by decide) (by omega) (by omega) (fun c_3 => ?_) (fun c_3 => ?_)
      · skip
        refine lv_aload_n hx hb dX5_rule_28 rfl (lv_at hl 0 rfl) ?_
        have hxz_4 : -2147483648 ≤ z 14 ∧ z 14 < 2147483648 := hok.2.2.2.1 14
        have hxb_5 : z 14 = 0 ∨ z 14 = 1 := hok.2.2.2.2 14 (by decide)
        refine va_get (D := (dC, dI)) (ci := 5) (v := .int (iz (z 14))) (C := RX5) (T := TX5) (N := 16) hx hb hts kt_X5 hown hK hP 0 rfl rfl 4 (by decide) (kx_word hG kq_18_xrows_32 rfl) (fun _ h9 => h9) rfl dX5_rule_29 ?_
        refine lv_istore_n (lv' := [(3, .int (iz (z 14))), (0, .ref (o 15)), (1, .int (iz p0)), (2, .int (iz p1))]) hx hb dX5_rule_32 rfl hl (by decide) rfl (fun ls hl => ?_)
        refine lv_iload_n hx hb dX5_rule_33 rfl (lv_at hl 2 rfl) ?_
        refine ki_if_ne (tgt := 45) hx hb dX5_rule_34 (by decide) (by omega) (by omega) (fun c_6 => ?_) (fun c_6 => ?_)
        · skip
          refine lv_aload_n hx hb dX5_rule_45 rfl (lv_at hl 1 rfl) ?_
          refine lv_iload_n hx hb dX5_rule_46 rfl (lv_at hl 3 rfl) ?_
          refine va_put (D := (dC, dI)) (ci := 5) (v := .int (iz p1)) (ty := .boolean) (C := RX5) (T := TX5) (N := 16) hx hb hts kt_X5 tyX5 tyX5_ok nmX5 hown hK hP hD hS 0 rfl rfl 4 (by decide) (kx_word hG kq_18_xrows_32 rfl) (fun _ h9 => h9) rfl (by decide +kernel) (mz_bool (by omega)).1 (mz_bool (by omega)).2 (Nat.le_of_ble_eq_true rfl) dX5_rule_47 (fun H locs hP hD hS => ?_)
          have hP : va_P (dC, dI) kxCl ((xU cI cB cE o r n (va_up z 14 p1) F G (Eo 0 0)) ++ (eP cI N Eo Er En Ez EF)) H := hP
          have hD : va_D A ((xU cI cB cE o r n (va_up z 14 p1) F G (Eo 0 0)) ++ (eP cI N Eo Er En Ez EF)) := hD
          refine lv_iload_n hx hb dX5_rule_50 rfl (lv_at hl 0 rfl) ?_
          refine lv_iload_n hx hb dX5_rule_51 rfl (lv_at hl 3 rfl) ?_
          refine ki_icmp_eq (tgt := 63) hx hb dX5_rule_52 (by decide) (by omega) (by omega) (by omega) (by omega) (fun c_7 => ?_) (fun c_7 => ?_)
          · skip
            refine lv_iload_n hx hb dX5_rule_63 rfl (lv_at hl 0 rfl) ?_
            refine ki_if_eq (tgt := 71) hx hb dX5_rule_64 (by decide) (by omega) (by omega) (fun c_8 => ?_) (fun c_8 => ?_)
            · skip
              refine lv_iconst (v := iz 0) hx hb dX5_rule_71 (by decide) ?_
              have hok9 : xOk n (va_up z 14 p1) F := (hok.s 14 (by decide) (show -2147483648 ≤ p1 ∧ p1 < 2147483648 by omega) (by omega))
              have hfr9 : xFr [13, 14, 15, 16] [] z F (va_up z 14 p1) F := (hfr.uz 14 (by decide) _)
              have hzo13 : (va_up z 14 p1) 13 = z 13 := rfl
              have hzo14 : (va_up z 14 p1) 14 = p1 := rfl
              refine vx_ret ?_
              exact xk_iret (ov := (fun u : (Int) × (Nat → Nat) × (Nat → Nat) × (Nat → Int) × (Nat → Int → Int) × (Nat → Nat → Nat) × (Nat → Nat → Nat) × (Nat → Nat → Int) × (Nat → Nat → Int → Int) => match u with | (q, r', n', z', F', Er', En', Ez', EF') => some (.int (iz q)))) (post := (fun (u : (Int) × (Nat → Nat) × (Nat → Nat) × (Nat → Int) × (Nat → Int → Int) × (Nat → Nat → Nat) × (Nat → Nat → Nat) × (Nat → Nat → Int) × (Nat → Nat → Int → Int)) (dn dm : Nat) => match u with | (q, r', n', z', F', Er', En', Ez', EF') => xR [13, 14, 15, 16] [] [2] [2] N z F En Ez EF n' z' F' En' Ez' EF' ∧ (dn + xg n' ≤ xg n + 720 ∧ dm + xp n' ≤ xp n + 9600) ∧ (((p0 = 0 ∧ q = z 13 ∧ z' 13 = p1 ∧ z' 14 = z 14) ∨ (p0 = 1 ∧ q = z 14 ∧ z' 14 = p1 ∧ z' 13 = z 13)) ∧ ((z' 13 = z 13 ∧ z' 14 = z 14 ∧ ∀ j, Ez' j = Ez j ∧ EF' j = EF j) ∨ (∀ j : Nat, 1 ≤ j → (j : Int) ≤ z 12 → kf_ls (EF' j 2) 0 (Ez' j 2).toNat = kf_kI (EF j 0) (Ez j 0) (z' 13) (z' 14) 0 0 0))))) (ws := (fun u : (Int) × (Nat → Nat) × (Nat → Nat) × (Nat → Int) × (Nat → Int → Int) × (Nat → Nat → Nat) × (Nat → Nat → Nat) × (Nat → Nat → Int) × (Nat → Nat → Int → Int) => match u with | (q, r', n', z', F', Er', En', Ez', EF') => (xU cI cB cE o r' n' z' F' G (Eo 0 0) ++ eP cI N Eo Er' En' Ez' EF'))) (tys := xT cI cB cE) (z := 0) (0, r, n, (va_up z 14 p1), F, Er, En, Ez, EF) hx hb hr rfl hlocks rfl hP hD hK hS dX5_rule_72 (fun dn dm hdn hdm => ⟨⟨hok9, hfr9, hPE, hef⟩, ⟨by omega, by omega⟩, ⟨by omega, Or.inl ⟨by omega, by omega, fun j => ⟨rfl, rfl⟩⟩⟩⟩) (by omega) (by omega)
            · skip
              refine lv_iconst (v := iz 1) hx hb dX5_rule_67 (by decide) ?_
              refine lv_goto (tgt := 72) hx hb dX5_rule_68 (by decide) ?_
              have hok10 : xOk n (va_up z 14 p1) F := (hok.s 14 (by decide) (show -2147483648 ≤ p1 ∧ p1 < 2147483648 by omega) (by omega))
              have hfr10 : xFr [13, 14, 15, 16] [] z F (va_up z 14 p1) F := (hfr.uz 14 (by decide) _)
              have hzo13 : (va_up z 14 p1) 13 = z 13 := rfl
              have hzo14 : (va_up z 14 p1) 14 = p1 := rfl
              refine vx_ret ?_
              exact xk_iret (ov := (fun u : (Int) × (Nat → Nat) × (Nat → Nat) × (Nat → Int) × (Nat → Int → Int) × (Nat → Nat → Nat) × (Nat → Nat → Nat) × (Nat → Nat → Int) × (Nat → Nat → Int → Int) => match u with | (q, r', n', z', F', Er', En', Ez', EF') => some (.int (iz q)))) (post := (fun (u : (Int) × (Nat → Nat) × (Nat → Nat) × (Nat → Int) × (Nat → Int → Int) × (Nat → Nat → Nat) × (Nat → Nat → Nat) × (Nat → Nat → Int) × (Nat → Nat → Int → Int)) (dn dm : Nat) => match u with | (q, r', n', z', F', Er', En', Ez', EF') => xR [13, 14, 15, 16] [] [2] [2] N z F En Ez EF n' z' F' En' Ez' EF' ∧ (dn + xg n' ≤ xg n + 720 ∧ dm + xp n' ≤ xp n + 9600) ∧ (((p0 = 0 ∧ q = z 13 ∧ z' 13 = p1 ∧ z' 14 = z 14) ∨ (p0 = 1 ∧ q = z 14 ∧ z' 14 = p1 ∧ z' 13 = z 13)) ∧ ((z' 13 = z 13 ∧ z' 14 = z 14 ∧ ∀ j, Ez' j = Ez j ∧ EF' j = EF j) ∨ (∀ j : Nat, 1 ≤ j → (j : Int) ≤ z 12 → kf_ls (EF' j 2) 0 (Ez' j 2).toNat = kf_kI (EF j 0) (Ez j 0) (z' 13) (z' 14) 0 0 0))))) (ws := (fun u : (Int) × (Nat → Nat) × (Nat → Nat) × (Nat → Int) × (Nat → Int → Int) × (Nat → Nat → Nat) × (Nat → Nat → Nat) × (Nat → Nat → Int) × (Nat → Nat → Int → Int) => match u with | (q, r', n', z', F', Er', En', Ez', EF') => (xU cI cB cE o r' n' z' F' G (Eo 0 0) ++ eP cI N Eo Er' En' Ez' EF'))) (tys := xT cI cB cE) (z := 1) (1, r, n, (va_up z 14 p1), F, Er, En, Ez, EF) hx hb hr rfl hlocks rfl hP hD hK hS dX5_rule_72 (fun dn dm hdn hdm => ⟨⟨hok10, hfr10, hPE, hef⟩, ⟨by omega, by omega⟩, ⟨by omega, Or.inl ⟨by omega, by omega, fun j => ⟨rfl, rfl⟩⟩⟩⟩) (by omega) (by omega)
          · skip
            refine lv_aload_n hx hb dX5_rule_55 rfl (lv_at hl 1 rfl) ?_
            have hok11 : xOk n (va_up z 14 p1) F := (hok.s 14 (by decide) (show -2147483648 ≤ p1 ∧ p1 < 2147483648 by omega) (by omega))
            have hfr11 : xFr [13, 14, 15, 16] [] z F (va_up z 14 p1) F := (hfr.uz 14 (by decide) _)
            have hxz_12 : -2147483648 ≤ z 12 ∧ z 12 < 2147483648 := hok.2.2.2.1 12
            have hxG9 : xG N (z 12) G Eo := ⟨by omega, by omega, by omega, fun e9 h9 => hN4 e9 (by omega)⟩
            have hP : va_P (dC, dI) kxCl (xU cI cB cE o r n (va_up z 14 p1) F G (Eo 0 0) ++ eP cI N Eo Er En Ez EF) H := hP
            have hD : va_D A (xU cI cB cE o r n (va_up z 14 p1) F G (Eo 0 0) ++ eP cI N Eo Er En Ez EF) := hD
            have hFc := xw_free hD hS hA
            refine xk_call (va_runV (As := []) (rest := []) ⟨hx, hb, hml, hown, hts⟩ (y_makeKeys2 l dC dI cI cB cE o r n (va_up z 14 p1) F G N Eo Er En Ez EF  H.size hok11 hxG9 hPE hsgA) (cwV 0 hts (kx_gV kq_21_xcalls_2 kq_21_xcalls_3 kq_21_xcalls_4 kq_18_xrows_4 kq_21_xcalls_5 rfl) rfl rfl rfl (by decide +kernel) ⟨Nat.le_of_ble_eq_true rfl, Nat.le_of_ble_eq_true rfl⟩) ⟨kx_blind, va_recv hK hP (ci := 5) (q0 := 0) rfl rfl, kx_give (ws := []) (tys := []) hP hD hK hG hZ hS hFc⟩ rfl rfl hl.1 rfl (lv_room (Nat.le_of_ble_eq_true rfl)) dX5_rule_56 ⟨show 0 + 900 ≤ 1000 from (by omega), show 0 + 55000 ≤ 60000 from (by omega)⟩) hS (fun q _ h => hFc q h) hFc (fun u dn_15 dm_16 t H locs ht hvm hq_13 hB hk1 hS => ?_)
            obtain ⟨r_17, n_18, z_19, F_20, Er_21, En_22, Ez_23, EF_24⟩ := u
            obtain ⟨hP, hK1, hD1⟩ := hB
            rw [ht] at hP
            have hD := hD1.weaken (fun _ q _ h => hFc _ h)
            obtain ⟨hR25, hC25, hq_13⟩ := hq_13
            have hok25 := hR25.1
            have hfr25 := hfr11.tr (hR25.2.1.mono (S' := [13, 14, 15, 16]) (T' := []) (by decide) (by decide))
            have hPE25 := hR25.2.2.1
            have hef25 := hef.tr (hR25.2.2.2.mono (S' := [2]) (T' := [2]) (by decide) (by decide))
            have hz25 : z_19 12 = (z 12) := hR25.2.1.1 12 (by decide)
            have hkr25_13 : z_19 13 = z 13 := hR25.2.1.1 13 (by decide)
            have hkr25_14 : z_19 14 = p1 := hR25.2.1.1 14 (by decide)
            refine W.eq (g2 := F0 m 59 ls []) rfl ?_
            try dsimp only at hq_13
            try simp (decide := true) only [va_ev, ↓reduceIte] at hq_13
            refine lv_aload_n hx hb dX5_rule_59 rfl (lv_at hl 1 rfl) ?_
            have hxz_26 : -2147483648 ≤ z_19 12 ∧ z_19 12 < 2147483648 := hok25.2.2.2.1 12
            have hxG9 : xG N (z_19 12) G Eo := ⟨by omega, by omega, by omega, fun e9 h9 => hN4 e9 (by omega)⟩
            have hP : va_P (dC, dI) kxCl (xU cI cB cE o r_17 n_18 z_19 F_20 G (Eo 0 0) ++ eP cI N Eo Er_21 En_22 Ez_23 EF_24) H := hP
            have hD : va_D A (xU cI cB cE o r_17 n_18 z_19 F_20 G (Eo 0 0) ++ eP cI N Eo Er_21 En_22 Ez_23 EF_24) := hD
            have hFc := xw_free hD hS hA
            refine xk_call (va_runV (As := []) (rest := []) ⟨hx, hb, hml, hown, hts⟩ (y_forgetRows l dC dI cI cB cE o r_17 n_18 z_19 F_20 G N Eo Er_21 En_22 Ez_23 EF_24  H.size hok25 hxG9 hPE25 ) (cwV 0 hts (kx_gV kq_21_xcalls_6 kq_21_xcalls_7 kq_21_xcalls_8 kq_18_xrows_4 kq_21_xcalls_9 rfl) rfl rfl rfl (by decide +kernel) ⟨Nat.le_of_ble_eq_true rfl, Nat.le_of_ble_eq_true rfl⟩) ⟨kx_blind, va_recv hK hP (ci := 5) (q0 := 0) rfl rfl, kx_give (ws := []) (tys := []) hP hD hK hG hZ hS hFc⟩ rfl rfl hl.1 rfl (lv_room (Nat.le_of_ble_eq_true rfl)) dX5_rule_60 ⟨show (0 + dn_15) + 0 ≤ 1000 from (by omega), show (0 + dm_16) + 0 ≤ 60000 from (by omega)⟩) hS (fun q _ h => hFc q h) hFc (fun u dn_29 dm_30 t H locs ht hvm hq_27 hB hk1 hS => ?_)
            obtain ⟨r_31, n_32, z_33, F_34, Er_35, En_36, Ez_37, EF_38⟩ := u
            obtain ⟨hP, hK1, hD1⟩ := hB
            rw [ht] at hP
            have hD := hD1.weaken (fun _ q _ h => hFc _ h)
            obtain ⟨hR39, hC39, hq_27⟩ := hq_27
            obtain ⟨rfl, rfl, rfl, rfl, rfl, rfl, rfl, hq_27⟩ := hq_27
            subst hq_27
            have hP : va_P (dC, dI) kxCl ((xU cI cB cE o r_17 n_18 (va_up (va_up z_19 15 0) 16 (-1)) F_20 G (Eo 0 0)) ++ (eP cI N Eo Er_21 En_22 Ez_23 EF_24)) H := hP
            have hD : va_D A ((xU cI cB cE o r_17 n_18 (va_up (va_up z_19 15 0) 16 (-1)) F_20 G (Eo 0 0)) ++ (eP cI N Eo Er_21 En_22 Ez_23 EF_24)) := hD
            refine W.eq (g2 := F0 m 63 ls []) rfl ?_
            refine lv_iload_n hx hb dX5_rule_63 rfl (lv_at hl 0 rfl) ?_
            refine ki_if_eq (tgt := 71) hx hb dX5_rule_64 (by decide) (by omega) (by omega) (fun c_40 => ?_) (fun c_40 => ?_)
            · skip
              refine lv_iconst (v := iz 0) hx hb dX5_rule_71 (by decide) ?_
              have hxz_41 : -2147483648 ≤ z_19 15 ∧ z_19 15 < 2147483648 := hok25.2.2.2.1 15
              have hxb_42 : z_19 15 = 0 ∨ z_19 15 = 1 := hok25.2.2.2.2 15 (by decide)
              have hxz_43 : -2147483648 ≤ z_19 16 ∧ z_19 16 < 2147483648 := hok25.2.2.2.1 16
              have hok44 : xOk n_18 (va_up (va_up z_19 15 0) 16 (-1)) F_20 := ((hok25.s 15 (by decide) (show -2147483648 ≤ 0 ∧ 0 < 2147483648 by omega) (by omega)).s 16 (by decide) (show -2147483648 ≤ (-1) ∧ (-1) < 2147483648 by omega) (by omega))
              have hfr44 : xFr [13, 14, 15, 16] [] z F (va_up (va_up z_19 15 0) 16 (-1)) F_20 := ((hfr25.uz 15 (by decide) _).uz 16 (by decide) _)
              have hzo13 : (va_up (va_up z_19 15 0) 16 (-1)) 13 = z_19 13 := rfl
              have hzo14 : (va_up (va_up z_19 15 0) 16 (-1)) 14 = z_19 14 := rfl
              refine vx_ret ?_
              exact xk_iret (ov := (fun u : (Int) × (Nat → Nat) × (Nat → Nat) × (Nat → Int) × (Nat → Int → Int) × (Nat → Nat → Nat) × (Nat → Nat → Nat) × (Nat → Nat → Int) × (Nat → Nat → Int → Int) => match u with | (q, r', n', z', F', Er', En', Ez', EF') => some (.int (iz q)))) (post := (fun (u : (Int) × (Nat → Nat) × (Nat → Nat) × (Nat → Int) × (Nat → Int → Int) × (Nat → Nat → Nat) × (Nat → Nat → Nat) × (Nat → Nat → Int) × (Nat → Nat → Int → Int)) (dn dm : Nat) => match u with | (q, r', n', z', F', Er', En', Ez', EF') => xR [13, 14, 15, 16] [] [2] [2] N z F En Ez EF n' z' F' En' Ez' EF' ∧ (dn + xg n' ≤ xg n + 720 ∧ dm + xp n' ≤ xp n + 9600) ∧ (((p0 = 0 ∧ q = z 13 ∧ z' 13 = p1 ∧ z' 14 = z 14) ∨ (p0 = 1 ∧ q = z 14 ∧ z' 14 = p1 ∧ z' 13 = z 13)) ∧ ((z' 13 = z 13 ∧ z' 14 = z 14 ∧ ∀ j, Ez' j = Ez j ∧ EF' j = EF j) ∨ (∀ j : Nat, 1 ≤ j → (j : Int) ≤ z 12 → kf_ls (EF' j 2) 0 (Ez' j 2).toNat = kf_kI (EF j 0) (Ez j 0) (z' 13) (z' 14) 0 0 0))))) (ws := (fun u : (Int) × (Nat → Nat) × (Nat → Nat) × (Nat → Int) × (Nat → Int → Int) × (Nat → Nat → Nat) × (Nat → Nat → Nat) × (Nat → Nat → Int) × (Nat → Nat → Int → Int) => match u with | (q, r', n', z', F', Er', En', Ez', EF') => (xU cI cB cE o r' n' z' F' G (Eo 0 0) ++ eP cI N Eo Er' En' Ez' EF'))) (tys := xT cI cB cE) (z := 0) (0, r_17, n_18, (va_up (va_up z_19 15 0) 16 (-1)), F_20, Er_21, En_22, Ez_23, EF_24) hx hb hr rfl hlocks rfl hP hD hK hS dX5_rule_72 (fun dn dm hdn hdm => ⟨⟨hok44, hfr44, hPE25, hef25⟩, ⟨by omega, by omega⟩, ⟨by omega, Or.inr (fun j h1 h2 => by rw [hzo13, hzo14, hkr25_13, hkr25_14]; exact hq_13 j h1 h2)⟩⟩) (by omega) (by omega)
            · skip
              refine lv_iconst (v := iz 1) hx hb dX5_rule_67 (by decide) ?_
              refine lv_goto (tgt := 72) hx hb dX5_rule_68 (by decide) ?_
              have hxz_45 : -2147483648 ≤ z_19 15 ∧ z_19 15 < 2147483648 := hok25.2.2.2.1 15
              have hxb_46 : z_19 15 = 0 ∨ z_19 15 = 1 := hok25.2.2.2.2 15 (by decide)
              have hxz_47 : -2147483648 ≤ z_19 16 ∧ z_19 16 < 2147483648 := hok25.2.2.2.1 16
              have hok48 : xOk n_18 (va_up (va_up z_19 15 0) 16 (-1)) F_20 := ((hok25.s 15 (by decide) (show -2147483648 ≤ 0 ∧ 0 < 2147483648 by omega) (by omega)).s 16 (by decide) (show -2147483648 ≤ (-1) ∧ (-1) < 2147483648 by omega) (by omega))
              have hfr48 : xFr [13, 14, 15, 16] [] z F (va_up (va_up z_19 15 0) 16 (-1)) F_20 := ((hfr25.uz 15 (by decide) _).uz 16 (by decide) _)
              have hzo13 : (va_up (va_up z_19 15 0) 16 (-1)) 13 = z_19 13 := rfl
              have hzo14 : (va_up (va_up z_19 15 0) 16 (-1)) 14 = z_19 14 := rfl
              refine vx_ret ?_
              exact xk_iret (ov := (fun u : (Int) × (Nat → Nat) × (Nat → Nat) × (Nat → Int) × (Nat → Int → Int) × (Nat → Nat → Nat) × (Nat → Nat → Nat) × (Nat → Nat → Int) × (Nat → Nat → Int → Int) => match u with | (q, r', n', z', F', Er', En', Ez', EF') => some (.int (iz q)))) (post := (fun (u : (Int) × (Nat → Nat) × (Nat → Nat) × (Nat → Int) × (Nat → Int → Int) × (Nat → Nat → Nat) × (Nat → Nat → Nat) × (Nat → Nat → Int) × (Nat → Nat → Int → Int)) (dn dm : Nat) => match u with | (q, r', n', z', F', Er', En', Ez', EF') => xR [13, 14, 15, 16] [] [2] [2] N z F En Ez EF n' z' F' En' Ez' EF' ∧ (dn + xg n' ≤ xg n + 720 ∧ dm + xp n' ≤ xp n + 9600) ∧ (((p0 = 0 ∧ q = z 13 ∧ z' 13 = p1 ∧ z' 14 = z 14) ∨ (p0 = 1 ∧ q = z 14 ∧ z' 14 = p1 ∧ z' 13 = z 13)) ∧ ((z' 13 = z 13 ∧ z' 14 = z 14 ∧ ∀ j, Ez' j = Ez j ∧ EF' j = EF j) ∨ (∀ j : Nat, 1 ≤ j → (j : Int) ≤ z 12 → kf_ls (EF' j 2) 0 (Ez' j 2).toNat = kf_kI (EF j 0) (Ez j 0) (z' 13) (z' 14) 0 0 0))))) (ws := (fun u : (Int) × (Nat → Nat) × (Nat → Nat) × (Nat → Int) × (Nat → Int → Int) × (Nat → Nat → Nat) × (Nat → Nat → Nat) × (Nat → Nat → Int) × (Nat → Nat → Int → Int) => match u with | (q, r', n', z', F', Er', En', Ez', EF') => (xU cI cB cE o r' n' z' F' G (Eo 0 0) ++ eP cI N Eo Er' En' Ez' EF'))) (tys := xT cI cB cE) (z := 1) (1, r_17, n_18, (va_up (va_up z_19 15 0) 16 (-1)), F_20, Er_21, En_22, Ez_23, EF_24) hx hb hr rfl hlocks rfl hP hD hK hS dX5_rule_72 (fun dn dm hdn hdm => ⟨⟨hok48, hfr48, hPE25, hef25⟩, ⟨by omega, by omega⟩, ⟨by omega, Or.inr (fun j h1 h2 => by rw [hzo13, hzo14, hkr25_13, hkr25_14]; exact hq_13 j h1 h2)⟩⟩) (by omega) (by omega)
        · omega
      · skip
        refine lv_aload_n hx hb dX5_rule_21 rfl (lv_at hl 0 rfl) ?_
        have hxz_49 : -2147483648 ≤ z 13 ∧ z 13 < 2147483648 := hok.2.2.2.1 13
        have hxb_50 : z 13 = 0 ∨ z 13 = 1 := hok.2.2.2.2 13 (by decide)
        refine va_get (D := (dC, dI)) (ci := 5) (v := .int (iz (z 13))) (C := RX5) (T := TX5) (N := 16) hx hb hts kt_X5 hown hK hP 0 rfl rfl 3 (by decide) (kx_word hG kq_18_xrows_31 rfl) (fun _ h9 => h9) rfl dX5_rule_22 ?_
        refine lv_goto (tgt := 32) hx hb dX5_rule_25 (by decide) ?_
        refine lv_istore_n (lv' := [(3, .int (iz (z 13))), (0, .ref (o 15)), (1, .int (iz p0)), (2, .int (iz p1))]) hx hb dX5_rule_32 rfl hl (by decide) rfl (fun ls hl => ?_)
        refine lv_iload_n hx hb dX5_rule_33 rfl (lv_at hl 2 rfl) ?_
        refine ki_if_ne (tgt := 45) hx hb dX5_rule_34 (by decide) (by omega) (by omega) (fun c_51 => ?_) (fun c_51 => ?_)
        · omega
        · skip
          refine lv_aload_n hx hb dX5_rule_37 rfl (lv_at hl 1 rfl) ?_
          refine lv_iload_n hx hb dX5_rule_38 rfl (lv_at hl 3 rfl) ?_
          refine va_put (D := (dC, dI)) (ci := 5) (v := .int (iz p1)) (ty := .boolean) (C := RX5) (T := TX5) (N := 16) hx hb hts kt_X5 tyX5 tyX5_ok nmX5 hown hK hP hD hS 0 rfl rfl 3 (by decide) (kx_word hG kq_18_xrows_31 rfl) (fun _ h9 => h9) rfl (by decide +kernel) (mz_bool (by omega)).1 (mz_bool (by omega)).2 (Nat.le_of_ble_eq_true rfl) dX5_rule_39 (fun H locs hP hD hS => ?_)
          have hP : va_P (dC, dI) kxCl ((xU cI cB cE o r n (va_up z 13 p1) F G (Eo 0 0)) ++ (eP cI N Eo Er En Ez EF)) H := hP
          have hD : va_D A ((xU cI cB cE o r n (va_up z 13 p1) F G (Eo 0 0)) ++ (eP cI N Eo Er En Ez EF)) := hD
          refine lv_goto (tgt := 50) hx hb dX5_rule_42 (by decide) ?_
          refine lv_iload_n hx hb dX5_rule_50 rfl (lv_at hl 0 rfl) ?_
          refine lv_iload_n hx hb dX5_rule_51 rfl (lv_at hl 3 rfl) ?_
          refine ki_icmp_eq (tgt := 63) hx hb dX5_rule_52 (by decide) (by omega) (by omega) (by omega) (by omega) (fun c_52 => ?_) (fun c_52 => ?_)
          · skip
            refine lv_iload_n hx hb dX5_rule_63 rfl (lv_at hl 0 rfl) ?_
            refine ki_if_eq (tgt := 71) hx hb dX5_rule_64 (by decide) (by omega) (by omega) (fun c_53 => ?_) (fun c_53 => ?_)
            · skip
              refine lv_iconst (v := iz 0) hx hb dX5_rule_71 (by decide) ?_
              have hok54 : xOk n (va_up z 13 p1) F := (hok.s 13 (by decide) (show -2147483648 ≤ p1 ∧ p1 < 2147483648 by omega) (by omega))
              have hfr54 : xFr [13, 14, 15, 16] [] z F (va_up z 13 p1) F := (hfr.uz 13 (by decide) _)
              have hzo13 : (va_up z 13 p1) 13 = p1 := rfl
              have hzo14 : (va_up z 13 p1) 14 = z 14 := rfl
              refine vx_ret ?_
              exact xk_iret (ov := (fun u : (Int) × (Nat → Nat) × (Nat → Nat) × (Nat → Int) × (Nat → Int → Int) × (Nat → Nat → Nat) × (Nat → Nat → Nat) × (Nat → Nat → Int) × (Nat → Nat → Int → Int) => match u with | (q, r', n', z', F', Er', En', Ez', EF') => some (.int (iz q)))) (post := (fun (u : (Int) × (Nat → Nat) × (Nat → Nat) × (Nat → Int) × (Nat → Int → Int) × (Nat → Nat → Nat) × (Nat → Nat → Nat) × (Nat → Nat → Int) × (Nat → Nat → Int → Int)) (dn dm : Nat) => match u with | (q, r', n', z', F', Er', En', Ez', EF') => xR [13, 14, 15, 16] [] [2] [2] N z F En Ez EF n' z' F' En' Ez' EF' ∧ (dn + xg n' ≤ xg n + 720 ∧ dm + xp n' ≤ xp n + 9600) ∧ (((p0 = 0 ∧ q = z 13 ∧ z' 13 = p1 ∧ z' 14 = z 14) ∨ (p0 = 1 ∧ q = z 14 ∧ z' 14 = p1 ∧ z' 13 = z 13)) ∧ ((z' 13 = z 13 ∧ z' 14 = z 14 ∧ ∀ j, Ez' j = Ez j ∧ EF' j = EF j) ∨ (∀ j : Nat, 1 ≤ j → (j : Int) ≤ z 12 → kf_ls (EF' j 2) 0 (Ez' j 2).toNat = kf_kI (EF j 0) (Ez j 0) (z' 13) (z' 14) 0 0 0))))) (ws := (fun u : (Int) × (Nat → Nat) × (Nat → Nat) × (Nat → Int) × (Nat → Int → Int) × (Nat → Nat → Nat) × (Nat → Nat → Nat) × (Nat → Nat → Int) × (Nat → Nat → Int → Int) => match u with | (q, r', n', z', F', Er', En', Ez', EF') => (xU cI cB cE o r' n' z' F' G (Eo 0 0) ++ eP cI N Eo Er' En' Ez' EF'))) (tys := xT cI cB cE) (z := 0) (0, r, n, (va_up z 13 p1), F, Er, En, Ez, EF) hx hb hr rfl hlocks rfl hP hD hK hS dX5_rule_72 (fun dn dm hdn hdm => ⟨⟨hok54, hfr54, hPE, hef⟩, ⟨by omega, by omega⟩, ⟨by omega, Or.inl ⟨by omega, by omega, fun j => ⟨rfl, rfl⟩⟩⟩⟩) (by omega) (by omega)
            · skip
              refine lv_iconst (v := iz 1) hx hb dX5_rule_67 (by decide) ?_
              refine lv_goto (tgt := 72) hx hb dX5_rule_68 (by decide) ?_
              have hok55 : xOk n (va_up z 13 p1) F := (hok.s 13 (by decide) (show -2147483648 ≤ p1 ∧ p1 < 2147483648 by omega) (by omega))
              have hfr55 : xFr [13, 14, 15, 16] [] z F (va_up z 13 p1) F := (hfr.uz 13 (by decide) _)
              have hzo13 : (va_up z 13 p1) 13 = p1 := rfl
              have hzo14 : (va_up z 13 p1) 14 = z 14 := rfl
              refine vx_ret ?_
              exact xk_iret (ov := (fun u : (Int) × (Nat → Nat) × (Nat → Nat) × (Nat → Int) × (Nat → Int → Int) × (Nat → Nat → Nat) × (Nat → Nat → Nat) × (Nat → Nat → Int) × (Nat → Nat → Int → Int) => match u with | (q, r', n', z', F', Er', En', Ez', EF') => some (.int (iz q)))) (post := (fun (u : (Int) × (Nat → Nat) × (Nat → Nat) × (Nat → Int) × (Nat → Int → Int) × (Nat → Nat → Nat) × (Nat → Nat → Nat) × (Nat → Nat → Int) × (Nat → Nat → Int → Int)) (dn dm : Nat) => match u with | (q, r', n', z', F', Er', En', Ez', EF') => xR [13, 14, 15, 16] [] [2] [2] N z F En Ez EF n' z' F' En' Ez' EF' ∧ (dn + xg n' ≤ xg n + 720 ∧ dm + xp n' ≤ xp n + 9600) ∧ (((p0 = 0 ∧ q = z 13 ∧ z' 13 = p1 ∧ z' 14 = z 14) ∨ (p0 = 1 ∧ q = z 14 ∧ z' 14 = p1 ∧ z' 13 = z 13)) ∧ ((z' 13 = z 13 ∧ z' 14 = z 14 ∧ ∀ j, Ez' j = Ez j ∧ EF' j = EF j) ∨ (∀ j : Nat, 1 ≤ j → (j : Int) ≤ z 12 → kf_ls (EF' j 2) 0 (Ez' j 2).toNat = kf_kI (EF j 0) (Ez j 0) (z' 13) (z' 14) 0 0 0))))) (ws := (fun u : (Int) × (Nat → Nat) × (Nat → Nat) × (Nat → Int) × (Nat → Int → Int) × (Nat → Nat → Nat) × (Nat → Nat → Nat) × (Nat → Nat → Int) × (Nat → Nat → Int → Int) => match u with | (q, r', n', z', F', Er', En', Ez', EF') => (xU cI cB cE o r' n' z' F' G (Eo 0 0) ++ eP cI N Eo Er' En' Ez' EF'))) (tys := xT cI cB cE) (z := 1) (1, r, n, (va_up z 13 p1), F, Er, En, Ez, EF) hx hb hr rfl hlocks rfl hP hD hK hS dX5_rule_72 (fun dn dm hdn hdm => ⟨⟨hok55, hfr55, hPE, hef⟩, ⟨by omega, by omega⟩, ⟨by omega, Or.inl ⟨by omega, by omega, fun j => ⟨rfl, rfl⟩⟩⟩⟩) (by omega) (by omega)
          · skip
            refine lv_aload_n hx hb dX5_rule_55 rfl (lv_at hl 1 rfl) ?_
            have hok56 : xOk n (va_up z 13 p1) F := (hok.s 13 (by decide) (show -2147483648 ≤ p1 ∧ p1 < 2147483648 by omega) (by omega))
            have hfr56 : xFr [13, 14, 15, 16] [] z F (va_up z 13 p1) F := (hfr.uz 13 (by decide) _)
            have hxz_57 : -2147483648 ≤ z 12 ∧ z 12 < 2147483648 := hok.2.2.2.1 12
            have hxG9 : xG N (z 12) G Eo := ⟨by omega, by omega, by omega, fun e9 h9 => hN4 e9 (by omega)⟩
            have hP : va_P (dC, dI) kxCl (xU cI cB cE o r n (va_up z 13 p1) F G (Eo 0 0) ++ eP cI N Eo Er En Ez EF) H := hP
            have hD : va_D A (xU cI cB cE o r n (va_up z 13 p1) F G (Eo 0 0) ++ eP cI N Eo Er En Ez EF) := hD
            have hFc := xw_free hD hS hA
            refine xk_call (va_runV (As := []) (rest := []) ⟨hx, hb, hml, hown, hts⟩ (y_makeKeys2 l dC dI cI cB cE o r n (va_up z 13 p1) F G N Eo Er En Ez EF  H.size hok56 hxG9 hPE hsgA) (cwV 0 hts (kx_gV kq_21_xcalls_2 kq_21_xcalls_3 kq_21_xcalls_4 kq_18_xrows_4 kq_21_xcalls_5 rfl) rfl rfl rfl (by decide +kernel) ⟨Nat.le_of_ble_eq_true rfl, Nat.le_of_ble_eq_true rfl⟩) ⟨kx_blind, va_recv hK hP (ci := 5) (q0 := 0) rfl rfl, kx_give (ws := []) (tys := []) hP hD hK hG hZ hS hFc⟩ rfl rfl hl.1 rfl (lv_room (Nat.le_of_ble_eq_true rfl)) dX5_rule_56 ⟨show 0 + 900 ≤ 1000 from (by omega), show 0 + 55000 ≤ 60000 from (by omega)⟩) hS (fun q _ h => hFc q h) hFc (fun u dn_60 dm_61 t H locs ht hvm hq_58 hB hk1 hS => ?_)
            obtain ⟨r_62, n_63, z_64, F_65, Er_66, En_67, Ez_68, EF_69⟩ := u
            obtain ⟨hP, hK1, hD1⟩ := hB
            rw [ht] at hP
            have hD := hD1.weaken (fun _ q _ h => hFc _ h)
            obtain ⟨hR70, hC70, hq_58⟩ := hq_58
            have hok70 := hR70.1
            have hfr70 := hfr56.tr (hR70.2.1.mono (S' := [13, 14, 15, 16]) (T' := []) (by decide) (by decide))
            have hPE70 := hR70.2.2.1
            have hef70 := hef.tr (hR70.2.2.2.mono (S' := [2]) (T' := [2]) (by decide) (by decide))
            have hz70 : z_64 12 = (z 12) := hR70.2.1.1 12 (by decide)
            have hkr70_13 : z_64 13 = p1 := hR70.2.1.1 13 (by decide)
            have hkr70_14 : z_64 14 = z 14 := hR70.2.1.1 14 (by decide)
            refine W.eq (g2 := F0 m 59 ls []) rfl ?_
            try dsimp only at hq_58
            try simp (decide := true) only [va_ev, ↓reduceIte] at hq_58
            refine lv_aload_n hx hb dX5_rule_59 rfl (lv_at hl 1 rfl) ?_
            have hxz_71 : -2147483648 ≤ z_64 12 ∧ z_64 12 < 2147483648 := hok70.2.2.2.1 12
            have hxG9 : xG N (z_64 12) G Eo := ⟨by omega, by omega, by omega, fun e9 h9 => hN4 e9 (by omega)⟩
            have hP : va_P (dC, dI) kxCl (xU cI cB cE o r_62 n_63 z_64 F_65 G (Eo 0 0) ++ eP cI N Eo Er_66 En_67 Ez_68 EF_69) H := hP
            have hD : va_D A (xU cI cB cE o r_62 n_63 z_64 F_65 G (Eo 0 0) ++ eP cI N Eo Er_66 En_67 Ez_68 EF_69) := hD
            have hFc := xw_free hD hS hA
            refine xk_call (va_runV (As := []) (rest := []) ⟨hx, hb, hml, hown, hts⟩ (y_forgetRows l dC dI cI cB cE o r_62 n_63 z_64 F_65 G N Eo Er_66 En_67 Ez_68 EF_69  H.size hok70 hxG9 hPE70 ) (cwV 0 hts (kx_gV kq_21_xcalls_6 kq_21_xcalls_7 kq_21_xcalls_8 kq_18_xrows_4 kq_21_xcalls_9 rfl) rfl rfl rfl (by decide +kernel) ⟨Nat.le_of_ble_eq_true rfl, Nat.le_of_ble_eq_true rfl⟩) ⟨kx_blind, va_recv hK hP (ci := 5) (q0 := 0) rfl rfl, kx_give (ws := []) (tys := []) hP hD hK hG hZ hS hFc⟩ rfl rfl hl.1 rfl (lv_room (Nat.le_of_ble_eq_true rfl)) dX5_rule_60 ⟨show (0 + dn_60) + 0 ≤ 1000 from (by omega), show (0 + dm_61) + 0 ≤ 60000 from (by omega)⟩) hS (fun q _ h => hFc q h) hFc (fun u dn_74 dm_75 t H locs ht hvm hq_72 hB hk1 hS => ?_)
            obtain ⟨r_76, n_77, z_78, F_79, Er_80, En_81, Ez_82, EF_83⟩ := u
            obtain ⟨hP, hK1, hD1⟩ := hB
            rw [ht] at hP
            have hD := hD1.weaken (fun _ q _ h => hFc _ h)
            obtain ⟨hR84, hC84, hq_72⟩ := hq_72
            obtain ⟨rfl, rfl, rfl, rfl, rfl, rfl, rfl, hq_72⟩ := hq_72
            subst hq_72
            have hP : va_P (dC, dI) kxCl ((xU cI cB cE o r_62 n_63 (va_up (va_up z_64 15 0) 16 (-1)) F_65 G (Eo 0 0)) ++ (eP cI N Eo Er_66 En_67 Ez_68 EF_69)) H := hP
            have hD : va_D A ((xU cI cB cE o r_62 n_63 (va_up (va_up z_64 15 0) 16 (-1)) F_65 G (Eo 0 0)) ++ (eP cI N Eo Er_66 En_67 Ez_68 EF_69)) := hD
            refine W.eq (g2 := F0 m 63 ls []) rfl ?_
            refine lv_iload_n hx hb dX5_rule_63 rfl (lv_at hl 0 rfl) ?_
            refine ki_if_eq (tgt := 71) hx hb dX5_rule_64 (by decide) (by omega) (by omega) (fun c_85 => ?_) (fun c_85 => ?_)
            · skip
              refine lv_iconst (v := iz 0) hx hb dX5_rule_71 (by decide) ?_
              have hxz_86 : -2147483648 ≤ z_64 15 ∧ z_64 15 < 2147483648 := hok70.2.2.2.1 15
              have hxb_87 : z_64 15 = 0 ∨ z_64 15 = 1 := hok70.2.2.2.2 15 (by decide)
              have hxz_88 : -2147483648 ≤ z_64 16 ∧ z_64 16 < 2147483648 := hok70.2.2.2.1 16
              have hok89 : xOk n_63 (va_up (va_up z_64 15 0) 16 (-1)) F_65 := ((hok70.s 15 (by decide) (show -2147483648 ≤ 0 ∧ 0 < 2147483648 by omega) (by omega)).s 16 (by decide) (show -2147483648 ≤ (-1) ∧ (-1) < 2147483648 by omega) (by omega))
              have hfr89 : xFr [13, 14, 15, 16] [] z F (va_up (va_up z_64 15 0) 16 (-1)) F_65 := ((hfr70.uz 15 (by decide) _).uz 16 (by decide) _)
              have hzo13 : (va_up (va_up z_64 15 0) 16 (-1)) 13 = z_64 13 := rfl
              have hzo14 : (va_up (va_up z_64 15 0) 16 (-1)) 14 = z_64 14 := rfl
              refine vx_ret ?_
              exact xk_iret (ov := (fun u : (Int) × (Nat → Nat) × (Nat → Nat) × (Nat → Int) × (Nat → Int → Int) × (Nat → Nat → Nat) × (Nat → Nat → Nat) × (Nat → Nat → Int) × (Nat → Nat → Int → Int) => match u with | (q, r', n', z', F', Er', En', Ez', EF') => some (.int (iz q)))) (post := (fun (u : (Int) × (Nat → Nat) × (Nat → Nat) × (Nat → Int) × (Nat → Int → Int) × (Nat → Nat → Nat) × (Nat → Nat → Nat) × (Nat → Nat → Int) × (Nat → Nat → Int → Int)) (dn dm : Nat) => match u with | (q, r', n', z', F', Er', En', Ez', EF') => xR [13, 14, 15, 16] [] [2] [2] N z F En Ez EF n' z' F' En' Ez' EF' ∧ (dn + xg n' ≤ xg n + 720 ∧ dm + xp n' ≤ xp n + 9600) ∧ (((p0 = 0 ∧ q = z 13 ∧ z' 13 = p1 ∧ z' 14 = z 14) ∨ (p0 = 1 ∧ q = z 14 ∧ z' 14 = p1 ∧ z' 13 = z 13)) ∧ ((z' 13 = z 13 ∧ z' 14 = z 14 ∧ ∀ j, Ez' j = Ez j ∧ EF' j = EF j) ∨ (∀ j : Nat, 1 ≤ j → (j : Int) ≤ z 12 → kf_ls (EF' j 2) 0 (Ez' j 2).toNat = kf_kI (EF j 0) (Ez j 0) (z' 13) (z' 14) 0 0 0))))) (ws := (fun u : (Int) × (Nat → Nat) × (Nat → Nat) × (Nat → Int) × (Nat → Int → Int) × (Nat → Nat → Nat) × (Nat → Nat → Nat) × (Nat → Nat → Int) × (Nat → Nat → Int → Int) => match u with | (q, r', n', z', F', Er', En', Ez', EF') => (xU cI cB cE o r' n' z' F' G (Eo 0 0) ++ eP cI N Eo Er' En' Ez' EF'))) (tys := xT cI cB cE) (z := 0) (0, r_62, n_63, (va_up (va_up z_64 15 0) 16 (-1)), F_65, Er_66, En_67, Ez_68, EF_69) hx hb hr rfl hlocks rfl hP hD hK hS dX5_rule_72 (fun dn dm hdn hdm => ⟨⟨hok89, hfr89, hPE70, hef70⟩, ⟨by omega, by omega⟩, ⟨by omega, Or.inr (fun j h1 h2 => by rw [hzo13, hzo14, hkr70_13, hkr70_14]; exact hq_58 j h1 h2)⟩⟩) (by omega) (by omega)
            · skip
              refine lv_iconst (v := iz 1) hx hb dX5_rule_67 (by decide) ?_
              refine lv_goto (tgt := 72) hx hb dX5_rule_68 (by decide) ?_
              have hxz_90 : -2147483648 ≤ z_64 15 ∧ z_64 15 < 2147483648 := hok70.2.2.2.1 15
              have hxb_91 : z_64 15 = 0 ∨ z_64 15 = 1 := hok70.2.2.2.2 15 (by decide)
              have hxz_92 : -2147483648 ≤ z_64 16 ∧ z_64 16 < 2147483648 := hok70.2.2.2.1 16
              have hok93 : xOk n_63 (va_up (va_up z_64 15 0) 16 (-1)) F_65 := ((hok70.s 15 (by decide) (show -2147483648 ≤ 0 ∧ 0 < 2147483648 by omega) (by omega)).s 16 (by decide) (show -2147483648 ≤ (-1) ∧ (-1) < 2147483648 by omega) (by omega))
              have hfr93 : xFr [13, 14, 15, 16] [] z F (va_up (va_up z_64 15 0) 16 (-1)) F_65 := ((hfr70.uz 15 (by decide) _).uz 16 (by decide) _)
              have hzo13 : (va_up (va_up z_64 15 0) 16 (-1)) 13 = z_64 13 := rfl
              have hzo14 : (va_up (va_up z_64 15 0) 16 (-1)) 14 = z_64 14 := rfl
              refine vx_ret ?_
              exact xk_iret (ov := (fun u : (Int) × (Nat → Nat) × (Nat → Nat) × (Nat → Int) × (Nat → Int → Int) × (Nat → Nat → Nat) × (Nat → Nat → Nat) × (Nat → Nat → Int) × (Nat → Nat → Int → Int) => match u with | (q, r', n', z', F', Er', En', Ez', EF') => some (.int (iz q)))) (post := (fun (u : (Int) × (Nat → Nat) × (Nat → Nat) × (Nat → Int) × (Nat → Int → Int) × (Nat → Nat → Nat) × (Nat → Nat → Nat) × (Nat → Nat → Int) × (Nat → Nat → Int → Int)) (dn dm : Nat) => match u with | (q, r', n', z', F', Er', En', Ez', EF') => xR [13, 14, 15, 16] [] [2] [2] N z F En Ez EF n' z' F' En' Ez' EF' ∧ (dn + xg n' ≤ xg n + 720 ∧ dm + xp n' ≤ xp n + 9600) ∧ (((p0 = 0 ∧ q = z 13 ∧ z' 13 = p1 ∧ z' 14 = z 14) ∨ (p0 = 1 ∧ q = z 14 ∧ z' 14 = p1 ∧ z' 13 = z 13)) ∧ ((z' 13 = z 13 ∧ z' 14 = z 14 ∧ ∀ j, Ez' j = Ez j ∧ EF' j = EF j) ∨ (∀ j : Nat, 1 ≤ j → (j : Int) ≤ z 12 → kf_ls (EF' j 2) 0 (Ez' j 2).toNat = kf_kI (EF j 0) (Ez j 0) (z' 13) (z' 14) 0 0 0))))) (ws := (fun u : (Int) × (Nat → Nat) × (Nat → Nat) × (Nat → Int) × (Nat → Int → Int) × (Nat → Nat → Nat) × (Nat → Nat → Nat) × (Nat → Nat → Int) × (Nat → Nat → Int → Int) => match u with | (q, r', n', z', F', Er', En', Ez', EF') => (xU cI cB cE o r' n' z' F' G (Eo 0 0) ++ eP cI N Eo Er' En' Ez' EF'))) (tys := xT cI cB cE) (z := 1) (1, r_62, n_63, (va_up (va_up z_64 15 0) 16 (-1)), F_65, Er_66, En_67, Ez_68, EF_69) hx hb hr rfl hlocks rfl hP hD hK hS dX5_rule_72 (fun dn dm hdn hdm => ⟨⟨hok93, hfr93, hPE70, hef70⟩, ⟨by omega, by omega⟩, ⟨by omega, Or.inr (fun j h1 h2 => by rw [hzo13, hzo14, hkr70_13, hkr70_14]; exact hq_58 j h1 h2)⟩⟩) (by omega) (by omega)
    · skip
      exact ky_thr_IAE hx hb hlf hown hG hZ hS (hl.1.trans hml.symm) dX5_rule_9 dX5_rule_12 dX5_rule_13 dX5_rule_16 htab (Nat.le_of_ble_eq_true rfl) (Nat.le_of_ble_eq_true rfl) (show 0 + 1 ≤ 1000 from (by omega)) (show 0 + 6 ≤ 60000 from (by omega)) hlocks (⟨rfl, by first | trivial | omega⟩) (fun t hvm h1 h2 => ⟨(r, n, z, F, Er, En, Ez, EF), ⟨hok, xFr.rf, hPE, eFr.rf⟩, hP.kept (fun k q hk => h2 q.1 (hP k q hk).lt), va_K.moved hvm hK, hD⟩) hS.2.2 (by omega) (by omega) (by omega) (by omega)
set_option maxHeartbeats 4000000 in
set_option maxRecDepth 100000 in
theorem y_compare2 (l : Launch) (hlf : l.stackTraces = false) (dC : Nat → ClassId) (dI : Nat → Nat → Nat) (cI cB cE : ClassId) (o r n : Nat → Nat) (z : Nat → Int) (F : Nat → Int → Int) (G : Nat → Option Nat) (N : Nat) (Eo Er En : Nat → Nat → Nat) (Ez : Nat → Nat → Int) (EF : Nat → Nat → Int → Int) (p0 : Int) (p1 : Int) (sz : Nat) (hok : xOk n z F) (hxG : xG N (z 12) G Eo) (hPE : eA N En Ez EF) (hp01 : -2147483648 ≤ p0) (hp02 : p0 < 2147483648) (hp11 : -2147483648 ≤ p1) (hp12 : p1 < 2147483648) : vx_Met l yX5_compare [.code yX5_compare cX5_compare 3 (some .int)] ({ frames := 8, cells := 100, slots := 42000, locals := 121 }) (va_Pc [.ref (o 15), .int (iz p0), .int (iz p1)] (kx_Pre dC dI (xU cI cB cE o r n z F G (Eo 0 0) ++ eP cI N Eo Er En Ez EF) (xT cI cB cE) sz)) (xQ (fun u : (Int) × (Nat → Nat) × (Nat → Nat) × (Nat → Int) × (Nat → Int → Int) × (Nat → Nat → Nat) × (Nat → Nat → Nat) × (Nat → Nat → Int) × (Nat → Nat → Int → Int) => match u with | (q, r', n', z', F', Er', En', Ez', EF') => some (.int (iz q))) (fun (u : (Int) × (Nat → Nat) × (Nat → Nat) × (Nat → Int) × (Nat → Int → Int) × (Nat → Nat → Nat) × (Nat → Nat → Nat) × (Nat → Nat → Int) × (Nat → Nat → Int → Int)) (dn dm : Nat) => match u with | (q, r', n', z', F', Er', En', Ez', EF') => xR [] [] [] [] N z F En Ez EF n' z' F' En' Ez' EF' ∧ (dn + xg n' ≤ xg n + 0 ∧ dm + xp n' ≤ xp n + 0) ∧ (((0 ≤ p0 ∧ p0 < z 12) ∧ (0 ≤ p1 ∧ p1 < z 12)) ∧ ((¬ kf_lx (kf_ls (EF ((p0 + 1).toNat) 2) 0 (Ez ((p0 + 1).toNat) 2).toNat) (kf_ls (EF ((p1 + 1).toNat) 2) 0 (Ez ((p1 + 1).toNat) 2).toNat) = 0 ∧ q = kf_lx (kf_ls (EF ((p0 + 1).toNat) 2) 0 (Ez ((p0 + 1).toNat) 2).toNat) (kf_ls (EF ((p1 + 1).toNat) 2) 0 (Ez ((p1 + 1).toNat) 2).toNat)) ∨ (kf_lx (kf_ls (EF ((p0 + 1).toNat) 2) 0 (Ez ((p0 + 1).toNat) 2).toNat) (kf_ls (EF ((p1 + 1).toNat) 2) 0 (Ez ((p1 + 1).toNat) 2).toNat) = 0 ∧ q = kf_lx (kf_ls (EF ((p0 + 1).toNat) 1) 0 (Ez ((p0 + 1).toNat) 1).toNat) (kf_ls (EF ((p1 + 1).toNat) 1) 0 (Ez ((p1 + 1).toNat) 1).toNat))))) (fun u t => kx_At dC dI (va_A (xU cI cB cE o r n z F G (Eo 0 0) ++ eP cI N Eo Er En Ez EF) sz) ((fun u : (Int) × (Nat → Nat) × (Nat → Nat) × (Nat → Int) × (Nat → Int → Int) × (Nat → Nat → Nat) × (Nat → Nat → Nat) × (Nat → Nat → Int) × (Nat → Nat → Int → Int) => match u with | (q, r', n', z', F', Er', En', Ez', EF') => (xU cI cB cE o r' n' z' F' G (Eo 0 0) ++ eP cI N Eo Er' En' Ez' EF')) u) (xT cI cB cE) t) (va_A (xU cI cB cE o r n z F G (Eo 0 0) ++ eP cI N Eo Er En Ez EF) sz)) (yX (fun E => (E = "java/util/NoSuchElementException" ∧ (¬ ((0 ≤ p0 ∧ p0 < z 12) ∧ (0 ≤ p1 ∧ p1 < z 12))))) 3 20 (fun t => ∃ u : (Nat → Nat) × (Nat → Nat) × (Nat → Int) × (Nat → Int → Int) × (Nat → Nat → Nat) × (Nat → Nat → Nat) × (Nat → Nat → Int) × (Nat → Nat → Int → Int), match u with | (r', n', z', F', Er', En', Ez', EF') => xR [] [] [] [] N z F En Ez EF n' z' F' En' Ez' EF' ∧ kx_At dC dI (va_A (xU cI cB cE o r n z F G (Eo 0 0) ++ eP cI N Eo Er En Ez EF) sz) (xU cI cB cE o r' n' z' F' G (Eo 0 0) ++ eP cI N Eo Er' En' Ez' EF') (xT cI cB cE) t) (va_A (xU cI cB cE o r n z F G (Eo 0 0) ++ eP cI N Eo Er En Ez EF) sz)) 100 42000 (va_A (xU cI cB cE o r n z F G (Eo 0 0) ++ eP cI N Eo Er En Ez EF) sz) := by
  refine vx_ofW (cc := cX5_compare) (maxL := 3) (ret := (some .int)) (by decide) rfl ?_
  intro p e s m args below meth c s₁ B hml htab hv
  obtain ⟨rfl, hsz, hP, hK, hD0, hG, hZ⟩ := hv
  have hx := B.exec
  have hb := B.bytes
  have hr := B.returns
  have hts := kx_hts (a := ([.ref (o 15), .int (iz p0), .int (iz p1)] : List Value).toArray) hG
  have hown : s.vm.findClass RX5 = some m.cls := findClass_of_methodNamed B.named
  have hlocks := B.notSynchronized
  subst hsz
  have hD := hD0.self (sz := s.heap.size)
  generalize hAe : va_A (xU cI cB cE o r n z F G (Eo 0 0) ++ eP cI N Eo Er En Ez EF) s.heap.size = A at hD hZ ⊢
  have hA : ∀ q : Nat, s.heap.size ≤ q → A q := fun q h => by rw [← hAe]; exact Or.inr h
  have hS : va_S A s.heap s.heap [] := va_S.rf
  have hl := lv_entry ([.ref (o 15), .int (iz p0), .int (iz p1)]) (n := 3) (Nat.le_of_ble_eq_true rfl)
  rw [lg_entry_eq]
  generalize (lg_sl ([.ref (o 15), .int (iz p0), .int (iz p1)]) ++ List.replicate (3 - (lg_sl ([.ref (o 15), .int (iz p0), .int (iz p1)])).length) Slot.unset).toArray = ls at hl ⊢
  obtain ⟨hN1, hN2, hN3, hN4⟩ := hxG
  have hef : eFr [] [] En Ez EF En Ez EF := eFr.rf
  have hfr : xFr [] [] z F z F := xFr.rf
  have hxgl := xg_le n
  have hxpl := xp_le n
  have hl : lv_has ls 3 [(0, .ref (o 15)), (1, .int (iz p0)), (2, .int (iz p1))] := hl
  refine lv_aload_n hx hb dX5_compare_0 rfl (lv_at hl 0 rfl) ?_
  refine lv_iload_n hx hb dX5_compare_1 rfl (lv_at hl 1 rfl) ?_
  have hxz_1 : -2147483648 ≤ z 12 ∧ z 12 < 2147483648 := hok.2.2.2.1 12
  have hxG9 : xG N (z 12) G Eo := ⟨by omega, by omega, by omega, fun e9 h9 => hN4 e9 (by omega)⟩
  have hP : va_P (dC, dI) kxCl (xU cI cB cE o r n z F G (Eo 0 0) ++ eP cI N Eo Er En Ez EF) s.heap := hP
  have hD : va_D A (xU cI cB cE o r n z F G (Eo 0 0) ++ eP cI N Eo Er En Ez EF) := hD
  have hFc := xw_free hD hS hA
  refine yk_call (vx_runV (As := [.int (iz p0)]) (rest := []) ⟨hx, hb, hml, hown, hts⟩ (y_needEntry l hlf dC dI cI cB cE o r n z F G N Eo Er En Ez EF p0 s.heap.size hok hxG9 hPE (by omega) (by omega)) (cwV 1 hts (kx_gV kq_21_xcalls_10 kq_21_xcalls_11 kq_21_xcalls_12 kq_18_xrows_4 kq_21_xcalls_13 rfl) rfl rfl rfl (by decide +kernel) ⟨Nat.le_of_ble_eq_true rfl, Nat.le_of_ble_eq_true rfl⟩) ⟨kx_blind, va_recv hK hP (ci := 5) (q0 := 0) rfl rfl, kx_give (ws := []) (tys := []) hP hD hK hG hZ hS hFc⟩ rfl rfl hl.1 rfl (lv_room (Nat.le_of_ble_eq_true rfl)) dX5_compare_2 ⟨show 0 + 1 ≤ 100 from (by omega), show 0 + 6 ≤ 42000 from (by omega)⟩) hS (fun q _ h => hFc q h) hFc (fun E ce q9 t H1 locs ht hvm hEx hBx hk1 hS hcell hcv hcl => ?_) (fun u dn_4 dm_5 t H locs ht hvm hq_2 hB hk1 hS => ?_)
  · skip
    exact ky_out (fun x hx => (htab x hx).elim) hlocks hcell hcv hcl (by obtain ⟨rfl, h9⟩ := hEx; exact ⟨rfl, by first | trivial | omega⟩) (fun t9 ht9 hvm9 => by obtain ⟨⟨r8, n8, z8, F8, Er8, En8, Ez8, EF8⟩, hR8, hP8, hK8, hD8⟩ := hBx; exact ⟨(r8, n8, z8, F8, Er8, En8, Ez8, EF8), ⟨hR8.1, hfr.tr (hR8.2.1.mono (S' := []) (T' := []) (by decide) (by decide)), hR8.2.2.1, hef.tr (hR8.2.2.2.mono (S' := []) (T' := []) (by decide) (by decide))⟩, (by rw [ht9, ← ht]; exact hP8), va_K.moved hvm9 hK, hD8.weaken (fun _ q _ h => hFc _ h)⟩) hS hS.2.2 (by omega) (by omega) (by omega) (by omega)
  · skip
    obtain ⟨r_6, n_7, z_8, F_9, Er_10, En_11, Ez_12, EF_13⟩ := u
    obtain ⟨hP, hK1, hD1⟩ := hB
    rw [ht] at hP
    have hD := hD1.weaken (fun _ q _ h => hFc _ h)
    obtain ⟨hR14, hC14, hq_2⟩ := hq_2
    obtain ⟨rfl, rfl, rfl, rfl, rfl, rfl, rfl, hq_2⟩ := hq_2
    obtain ⟨rfl, hq_2⟩ := hq_2
    refine W.eq (g2 := F0 m 5 ls []) rfl ?_
    refine lv_aload_n hx hb dX5_compare_5 rfl (lv_at hl 0 rfl) ?_
    refine lv_iload_n hx hb dX5_compare_6 rfl (lv_at hl 2 rfl) ?_
    have hxG9 : xG N (z 12) G Eo := ⟨by omega, by omega, by omega, fun e9 h9 => hN4 e9 (by omega)⟩
    have hP : va_P (dC, dI) kxCl (xU cI cB cE o r n z F G (Eo 0 0) ++ eP cI N Eo Er En Ez EF) H := hP
    have hD : va_D A (xU cI cB cE o r n z F G (Eo 0 0) ++ eP cI N Eo Er En Ez EF) := hD
    have hFc := xw_free hD hS hA
    refine yk_call (vx_runV (As := [.int (iz p1)]) (rest := []) ⟨hx, hb, hml, hown, hts⟩ (y_needEntry l hlf dC dI cI cB cE o r n z F G N Eo Er En Ez EF p1 H.size hok hxG9 hPE (by omega) (by omega)) (cwV 1 hts (kx_gV kq_21_xcalls_10 kq_21_xcalls_11 kq_21_xcalls_12 kq_18_xrows_4 kq_21_xcalls_13 rfl) rfl rfl rfl (by decide +kernel) ⟨Nat.le_of_ble_eq_true rfl, Nat.le_of_ble_eq_true rfl⟩) ⟨kx_blind, va_recv hK hP (ci := 5) (q0 := 0) rfl rfl, kx_give (ws := []) (tys := []) hP hD hK hG hZ hS hFc⟩ rfl rfl hl.1 rfl (lv_room (Nat.le_of_ble_eq_true rfl)) dX5_compare_7 ⟨show (0 + dn_4) + 1 ≤ 100 from (by omega), show (0 + dm_5) + 6 ≤ 42000 from (by omega)⟩) hS (fun q _ h => hFc q h) hFc (fun E ce q9 t H1 locs ht hvm hEx hBx hk1 hS hcell hcv hcl => ?_) (fun u dn_17 dm_18 t H locs ht hvm hq_15 hB hk1 hS => ?_)
    · skip
      exact ky_out (fun x hx => (htab x hx).elim) hlocks hcell hcv hcl (by obtain ⟨rfl, h9⟩ := hEx; exact ⟨rfl, by first | trivial | omega⟩) (fun t9 ht9 hvm9 => by obtain ⟨⟨r8, n8, z8, F8, Er8, En8, Ez8, EF8⟩, hR8, hP8, hK8, hD8⟩ := hBx; exact ⟨(r8, n8, z8, F8, Er8, En8, Ez8, EF8), ⟨hR8.1, hfr.tr (hR8.2.1.mono (S' := []) (T' := []) (by decide) (by decide)), hR8.2.2.1, hef.tr (hR8.2.2.2.mono (S' := []) (T' := []) (by decide) (by decide))⟩, (by rw [ht9, ← ht]; exact hP8), va_K.moved hvm9 hK, hD8.weaken (fun _ q _ h => hFc _ h)⟩) hS hS.2.2 (by omega) (by omega) (by omega) (by omega)
    · skip
      obtain ⟨r_19, n_20, z_21, F_22, Er_23, En_24, Ez_25, EF_26⟩ := u
      obtain ⟨hP, hK1, hD1⟩ := hB
      rw [ht] at hP
      have hD := hD1.weaken (fun _ q _ h => hFc _ h)
      obtain ⟨hR27, hC27, hq_15⟩ := hq_15
      obtain ⟨rfl, rfl, rfl, rfl, rfl, rfl, rfl, hq_15⟩ := hq_15
      obtain ⟨rfl, hq_15⟩ := hq_15
      refine W.eq (g2 := F0 m 10 ls []) rfl ?_
      refine lv_aload_n hx hb dX5_compare_10 rfl (lv_at hl 0 rfl) ?_
      refine lv_iload_n hx hb dX5_compare_11 rfl (lv_at hl 1 rfl) ?_
      have hxG9 : xG N (z 12) G Eo := ⟨by omega, by omega, by omega, fun e9 h9 => hN4 e9 (by omega)⟩
      have hP : va_P (dC, dI) kxCl (xU cI cB cE o r n z F G (Eo 0 0) ++ eP cI N Eo Er En Ez EF) H := hP
      refine xk_pure (va_runV (As := [.int (iz p0)]) (rest := []) ⟨hx, hb, hml, hown, hts⟩ (y_known l dC dI cI cB cE o r n z F G N Eo Er En Ez EF p0 H.size hok hxG9 hPE (by omega) (by omega)) (cwV 1 hts (kx_gV kq_18_xrows_8 kq_18_xrows_9 kq_18_xrows_10 kq_18_xrows_4 kq_18_xrows_11 rfl) rfl rfl rfl (by decide +kernel) ⟨Nat.le_of_ble_eq_true rfl, Nat.le_of_ble_eq_true rfl⟩) ⟨pPre_blind, va_recv hK hP (ci := 5) (q0 := 0) rfl rfl, pPre_give hP hK hG⟩ rfl rfl hl.1 rfl (lv_room (Nat.le_of_ble_eq_true rfl)) dX5_compare_12 ⟨show ((0 + dn_4) + dn_17) + 0 ≤ 100 from (by omega), show ((0 + dm_5) + dm_18) + 0 ≤ 42000 from (by omega)⟩) hS (fun z_29 locs hq_28 hS => ?_)
      refine W.eq (g2 := F0 m 15 ls [.ref z_29.toNat]) rfl ?_
      try dsimp only at hq_28
      obtain ⟨j30, hj30, ez30, hje30⟩ := hq_28
      subst ez30
      refine W.eq (g2 := F0 m 15 ls [.ref (Eo j30 0)]) rfl ?_
      have ej30 : j30 = (p0 + 1).toNat := by omega
      subst ej30
      refine lv_aload_n hx hb dX5_compare_15 rfl (lv_at hl 0 rfl) ?_
      refine lv_iload_n hx hb dX5_compare_16 rfl (lv_at hl 2 rfl) ?_
      have hxG9 : xG N (z 12) G Eo := ⟨by omega, by omega, by omega, fun e9 h9 => hN4 e9 (by omega)⟩
      have hP : va_P (dC, dI) kxCl (xU cI cB cE o r n z F G (Eo 0 0) ++ eP cI N Eo Er En Ez EF) H := hP
      refine xk_pure (va_runV (As := [.int (iz p1)]) (rest := [.ref (Eo ((p0 + 1).toNat) 0)]) ⟨hx, hb, hml, hown, hts⟩ (y_known l dC dI cI cB cE o r n z F G N Eo Er En Ez EF p1 H.size hok hxG9 hPE (by omega) (by omega)) (cwV 1 hts (kx_gV kq_18_xrows_8 kq_18_xrows_9 kq_18_xrows_10 kq_18_xrows_4 kq_18_xrows_11 rfl) rfl rfl rfl (by decide +kernel) ⟨Nat.le_of_ble_eq_true rfl, Nat.le_of_ble_eq_true rfl⟩) ⟨pPre_blind, va_recv hK hP (ci := 5) (q0 := 0) rfl rfl, pPre_give hP hK hG⟩ rfl rfl hl.1 rfl (lv_room (Nat.le_of_ble_eq_true rfl)) dX5_compare_17 ⟨show ((0 + dn_4) + dn_17) + 0 ≤ 100 from (by omega), show ((0 + dm_5) + dm_18) + 0 ≤ 42000 from (by omega)⟩) hS (fun z_32 locs hq_31 hS => ?_)
      refine W.eq (g2 := F0 m 20 ls [.ref z_32.toNat, .ref (Eo ((p0 + 1).toNat) 0)]) rfl ?_
      try dsimp only at hq_31
      obtain ⟨j33, hj33, ez33, hje33⟩ := hq_31
      subst ez33
      refine W.eq (g2 := F0 m 20 ls [.ref (Eo j33 0), .ref (Eo ((p0 + 1).toNat) 0)]) rfl ?_
      have ej33 : j33 = (p1 + 1).toNat := by omega
      subst ej33
      have hPk := hP
      have hP : va_P (dC, dI) kxCl ((xU cI cB cE o r n z F G (Eo 0 0)) ++ (eU cI (Eo ((p1 + 1).toNat)) (Er ((p1 + 1).toNat)) (En ((p1 + 1).toNat)) (Ez ((p1 + 1).toNat)) (EF ((p1 + 1).toNat))) ++ (eU cI (Eo ((p0 + 1).toNat)) (Er ((p0 + 1).toNat)) (En ((p0 + 1).toNat)) (Ez ((p0 + 1).toNat)) (EF ((p0 + 1).toNat)))) H := (((eP_hd hP).app (eP_get hj33 hP)).app (eP_get hj30 hP))
      have hPc := hP.sub (ws' := ((eU cI (Eo ((p0 + 1).toNat)) (Er ((p0 + 1).toNat)) (En ((p0 + 1).toNat)) (Ez ((p0 + 1).toNat)) (EF ((p0 + 1).toNat))) ++ (eU cI (Eo ((p1 + 1).toNat)) (Er ((p1 + 1).toNat)) (En ((p1 + 1).toNat)) (Ez ((p1 + 1).toNat)) (EF ((p1 + 1).toNat))))) [45, 46, 47, 48, 49, 50, 51, 52, 53, 54, 55, 56, 57, 58, 59, 60, 29, 30, 31, 32, 33, 34, 35, 36, 37, 38, 39, 40, 41, 42, 43, 44] rfl
      refine xk_pure (va_runV (As := [.ref (Eo ((p1 + 1).toNat) 0)]) (rest := []) ⟨hx, hb, hml, hown, hts⟩ (x_eorderTo2 l dC dI cI cB cE (Eo ((p0 + 1).toNat)) (Er ((p0 + 1).toNat)) (En ((p0 + 1).toNat)) (Ez ((p0 + 1).toNat)) (EF ((p0 + 1).toNat)) (Eo ((p1 + 1).toNat)) (Er ((p1 + 1).toNat)) (En ((p1 + 1).toNat)) (Ez ((p1 + 1).toNat)) (EF ((p1 + 1).toNat))  H.size (hPE ((p0 + 1).toNat) hj30) (hPE ((p1 + 1).toNat) hj33)) (cwV 1 hts (kx_gV kq_18_xrows_42 kq_18_xrows_43 kq_18_xrows_44 kq_16_xentry_2 kq_18_xrows_45 rfl) rfl rfl rfl (by decide +kernel) ⟨Nat.le_of_ble_eq_true rfl, Nat.le_of_ble_eq_true rfl⟩) ⟨pPre_blind, va_recv hK hPc (ci := 0) (q0 := 0) rfl rfl, pPre_give hPc hK hG⟩ rfl rfl hl.1 rfl (lv_room (Nat.le_of_ble_eq_true rfl)) dX5_compare_20 ⟨show ((0 + dn_4) + dn_17) + 0 ≤ 100 from (by omega), show ((0 + dm_5) + dm_18) + 0 ≤ 42000 from (by omega)⟩) hS (fun z_35 locs hq_34 hS => ?_)
      refine W.eq (g2 := F0 m 23 ls [.int (iz z_35)]) rfl ?_
      try dsimp only at hq_34
      have hP := hPk
      refine vx_ret ?_
      exact xk_iret (ov := (fun u : (Int) × (Nat → Nat) × (Nat → Nat) × (Nat → Int) × (Nat → Int → Int) × (Nat → Nat → Nat) × (Nat → Nat → Nat) × (Nat → Nat → Int) × (Nat → Nat → Int → Int) => match u with | (q, r', n', z', F', Er', En', Ez', EF') => some (.int (iz q)))) (post := (fun (u : (Int) × (Nat → Nat) × (Nat → Nat) × (Nat → Int) × (Nat → Int → Int) × (Nat → Nat → Nat) × (Nat → Nat → Nat) × (Nat → Nat → Int) × (Nat → Nat → Int → Int)) (dn dm : Nat) => match u with | (q, r', n', z', F', Er', En', Ez', EF') => xR [] [] [] [] N z F En Ez EF n' z' F' En' Ez' EF' ∧ (dn + xg n' ≤ xg n + 0 ∧ dm + xp n' ≤ xp n + 0) ∧ (((0 ≤ p0 ∧ p0 < z 12) ∧ (0 ≤ p1 ∧ p1 < z 12)) ∧ ((¬ kf_lx (kf_ls (EF ((p0 + 1).toNat) 2) 0 (Ez ((p0 + 1).toNat) 2).toNat) (kf_ls (EF ((p1 + 1).toNat) 2) 0 (Ez ((p1 + 1).toNat) 2).toNat) = 0 ∧ q = kf_lx (kf_ls (EF ((p0 + 1).toNat) 2) 0 (Ez ((p0 + 1).toNat) 2).toNat) (kf_ls (EF ((p1 + 1).toNat) 2) 0 (Ez ((p1 + 1).toNat) 2).toNat)) ∨ (kf_lx (kf_ls (EF ((p0 + 1).toNat) 2) 0 (Ez ((p0 + 1).toNat) 2).toNat) (kf_ls (EF ((p1 + 1).toNat) 2) 0 (Ez ((p1 + 1).toNat) 2).toNat) = 0 ∧ q = kf_lx (kf_ls (EF ((p0 + 1).toNat) 1) 0 (Ez ((p0 + 1).toNat) 1).toNat) (kf_ls (EF ((p1 + 1).toNat) 1) 0 (Ez ((p1 + 1).toNat) 1).toNat)))))) (ws := (fun u : (Int) × (Nat → Nat) × (Nat → Nat) × (Nat → Int) × (Nat → Int → Int) × (Nat → Nat → Nat) × (Nat → Nat → Nat) × (Nat → Nat → Int) × (Nat → Nat → Int → Int) => match u with | (q, r', n', z', F', Er', En', Ez', EF') => (xU cI cB cE o r' n' z' F' G (Eo 0 0) ++ eP cI N Eo Er' En' Ez' EF'))) (tys := xT cI cB cE) (z := z_35) (z_35, r, n, z, F, Er, En, Ez, EF) hx hb hr rfl hlocks rfl hP hD hK hS dX5_compare_23 (fun dn dm hdn hdm => ⟨⟨hok, hfr, hPE, hef⟩, ⟨by omega, by omega⟩, ⟨by omega, hq_34⟩⟩) (by omega) (by omega)
set_option maxHeartbeats 4000000 in
set_option maxRecDepth 100000 in
theorem y_entry2 (l : Launch) (hlf : l.stackTraces = false) (dC : Nat → ClassId) (dI : Nat → Nat → Nat) (cI cB cE : ClassId) (o r n : Nat → Nat) (z : Nat → Int) (F : Nat → Int → Int) (G : Nat → Option Nat) (N : Nat) (Eo Er En : Nat → Nat → Nat) (Ez : Nat → Nat → Int) (EF : Nat → Nat → Int → Int) (p0 : Int) (p1 : Int) (sz : Nat) (hok : xOk n z F) (hxG : xG N (z 12) G Eo) (hPE : eA N En Ez EF) (hp01 : -2147483648 ≤ p0) (hp02 : p0 < 2147483648) (hp11 : -2147483648 ≤ p1) (hp12 : p1 < 2147483648) (h78 : z 12 ≤ 78) : vx_Met l yX5_entry [.code yX5_entry cX5_entry 3 (some .int)] ({ frames := 7, cells := 60, slots := 200, locals := 100 }) (va_Pc [.ref (o 15), .int (iz p0), .int (iz p1)] (kx_Pre dC dI (xU cI cB cE o r n z F G (Eo 0 0) ++ eP cI N Eo Er En Ez EF) (xT cI cB cE) sz)) (xQ (fun u : (Int) × (Nat → Int) × (Nat → Option Nat) × (Nat → Nat → Nat) × (Nat → Nat → Nat) × (Nat → Nat → Nat) × (Nat → Nat → Int) × (Nat → Nat → Int → Int) => match u with | (q, z', G', Eo', Er', En', Ez', EF') => some (.int (iz q))) (fun (u : (Int) × (Nat → Int) × (Nat → Option Nat) × (Nat → Nat → Nat) × (Nat → Nat → Nat) × (Nat → Nat → Nat) × (Nat → Nat → Int) × (Nat → Nat → Int → Int)) (dn dm : Nat) => match u with | (q, z', G', Eo', Er', En', Ez', EF') => xOk n z' F ∧ xFr [12, 15, 16] [] z F z' F ∧ xG (N + 1) (z' 12) G' Eo' ∧ eA (N + 1) En' Ez' EF' ∧ (dn ≤ 30 ∧ dm ≤ 60) ∧ q = z 12 ∧ z' 12 = z 12 + 1 ∧ ((p0 = 0 ∧ p1 = -1) ∨ ((p0 = 1 ∨ p0 = 2) ∧ 0 ≤ p1 ∧ p1 < z 12 ∧ Ez ((p1 + 1).toNat) 7 = p0 - 1)) ∧ (∀ j, j < N → Ez' j = Ez j ∧ EF' j = EF j) ∧ Ez' N 7 = p0 ∧ Ez' N 0 = 0 ∧ Ez' N 4 = 0 ∧ Ez' N 9 = -1 ∧ Ez' N 1 = 0 ∧ Ez' N 2 = 0) (fun u t => kx_At dC dI (va_A (xU cI cB cE o r n z F G (Eo 0 0) ++ eP cI N Eo Er En Ez EF) sz) ((fun u : (Int) × (Nat → Int) × (Nat → Option Nat) × (Nat → Nat → Nat) × (Nat → Nat → Nat) × (Nat → Nat → Nat) × (Nat → Nat → Int) × (Nat → Nat → Int → Int) => match u with | (q, z', G', Eo', Er', En', Ez', EF') => (xU cI cB cE o r n z' F G' (Eo' 0 0) ++ eP cI (N + 1) Eo' Er' En' Ez' EF')) u) (xT cI cB cE) t) (va_A (xU cI cB cE o r n z F G (Eo 0 0) ++ eP cI N Eo Er En Ez EF) sz)) (yX (fun E => (E = "java/util/NoSuchElementException" ∧ (¬ p1 = -1 ∧ ¬ (0 ≤ p1 ∧ p1 < z 12))) ∨ (E = "java/lang/IllegalArgumentException" ∧ ((p1 = -1 ∨ (0 ≤ p1 ∧ p1 < z 12)) ∧ ¬ ((p0 = 0 ∧ p1 = -1) ∨ ((p0 = 1 ∨ p0 = 2) ∧ 0 ≤ p1 ∧ p1 < z 12 ∧ Ez ((p1 + 1).toNat) 7 = p0 - 1))))) 2 12 (fun t => ∃ u : (Nat → Nat) × (Nat → Nat) × (Nat → Int) × (Nat → Int → Int) × (Nat → Nat → Nat) × (Nat → Nat → Nat) × (Nat → Nat → Int) × (Nat → Nat → Int → Int), match u with | (r', n', z', F', Er', En', Ez', EF') => xR [] [] [] [] N z F En Ez EF n' z' F' En' Ez' EF' ∧ kx_At dC dI (va_A (xU cI cB cE o r n z F G (Eo 0 0) ++ eP cI N Eo Er En Ez EF) sz) (xU cI cB cE o r' n' z' F' G (Eo 0 0) ++ eP cI N Eo Er' En' Ez' EF') (xT cI cB cE) t) (va_A (xU cI cB cE o r n z F G (Eo 0 0) ++ eP cI N Eo Er En Ez EF) sz)) 60 200 (va_A (xU cI cB cE o r n z F G (Eo 0 0) ++ eP cI N Eo Er En Ez EF) sz) := by
  refine vx_ofW (cc := cX5_entry) (maxL := 3) (ret := (some .int)) (by decide) rfl ?_
  intro p e s m args below meth c s₁ B hml htab hv
  obtain ⟨rfl, hsz, hP, hK, hD0, hG, hZ⟩ := hv
  have hx := B.exec
  have hb := B.bytes
  have hr := B.returns
  have hts := kx_hts (a := ([.ref (o 15), .int (iz p0), .int (iz p1)] : List Value).toArray) hG
  have hown : s.vm.findClass RX5 = some m.cls := findClass_of_methodNamed B.named
  have hlocks := B.notSynchronized
  subst hsz
  have hD := hD0.self (sz := s.heap.size)
  generalize hAe : va_A (xU cI cB cE o r n z F G (Eo 0 0) ++ eP cI N Eo Er En Ez EF) s.heap.size = A at hD hZ ⊢
  have hA : ∀ q : Nat, s.heap.size ≤ q → A q := fun q h => by rw [← hAe]; exact Or.inr h
  have hS : va_S A s.heap s.heap [] := va_S.rf
  have hl := lv_entry ([.ref (o 15), .int (iz p0), .int (iz p1)]) (n := 3) (Nat.le_of_ble_eq_true rfl)
  rw [lg_entry_eq]
  generalize (lg_sl ([.ref (o 15), .int (iz p0), .int (iz p1)]) ++ List.replicate (3 - (lg_sl ([.ref (o 15), .int (iz p0), .int (iz p1)])).length) Slot.unset).toArray = ls at hl ⊢
  obtain ⟨hN1, hN2, hN3, hN4⟩ := hxG
  have hef : eFr [] [] En Ez EF En Ez EF := eFr.rf
  have hfr : xFr [12, 15, 16] [] z F z F := xFr.rf
  have hxgl := xg_le n
  have hxpl := xp_le n
  have hl : lv_has ls 3 [(0, .ref (o 15)), (1, .int (iz p0)), (2, .int (iz p1))] := hl
  refine lv_iload_n hx hb dX5_entry_0 rfl (lv_at hl 2 rfl) ?_
  refine lv_iconst (v := iz (-1)) hx hb dX5_entry_1 (by decide) ?_
  refine ki_icmp_eq (tgt := 21) hx hb dX5_entry_2 (by decide) (by omega) (by omega) (by omega) (by omega) (fun c_1 => ?_) (fun c_1 => ?_)
  · skip
    refine lv_iload_n hx hb dX5_entry_21 rfl (lv_at hl 1 rfl) ?_
    refine ki_if_lt (tgt := 39) hx hb dX5_entry_22 (by decide) (by omega) (by omega) (fun c_2 => ?_) (fun c_2 => ?_)
    · skip
      exact ky_thr_IAE hx hb hlf hown hG hZ hS (hl.1.trans hml.symm) dX5_entry_39 dX5_entry_42 dX5_entry_43 dX5_entry_46 htab (Nat.le_of_ble_eq_true rfl) (Nat.le_of_ble_eq_true rfl) (show 0 + 1 ≤ 60 from (by omega)) (show 0 + 6 ≤ 200 from (by omega)) hlocks (Or.inr (⟨rfl, by first | trivial | omega⟩)) (fun t hvm h1 h2 => ⟨(r, n, z, F, Er, En, Ez, EF), ⟨hok, xFr.rf, hPE, eFr.rf⟩, hP.kept (fun k q hk => h2 q.1 (hP k q hk).lt), va_K.moved hvm hK, hD⟩) hS.2.2 (by omega) (by omega) (by omega) (by omega)
    · skip
      refine lv_iload_n hx hb dX5_entry_25 rfl (lv_at hl 1 rfl) ?_
      refine lv_iconst (v := iz 3) hx hb dX5_entry_26 (by decide) ?_
      refine ki_icmp_ge (tgt := 39) hx hb dX5_entry_27 (by decide) (by omega) (by omega) (by omega) (by omega) (fun c_3 => ?_) (fun c_3 => ?_)
      · skip
        exact ky_thr_IAE hx hb hlf hown hG hZ hS (hl.1.trans hml.symm) dX5_entry_39 dX5_entry_42 dX5_entry_43 dX5_entry_46 htab (Nat.le_of_ble_eq_true rfl) (Nat.le_of_ble_eq_true rfl) (show 0 + 1 ≤ 60 from (by omega)) (show 0 + 6 ≤ 200 from (by omega)) hlocks (Or.inr (⟨rfl, by first | trivial | omega⟩)) (fun t hvm h1 h2 => ⟨(r, n, z, F, Er, En, Ez, EF), ⟨hok, xFr.rf, hPE, eFr.rf⟩, hP.kept (fun k q hk => h2 q.1 (hP k q hk).lt), va_K.moved hvm hK, hD⟩) hS.2.2 (by omega) (by omega) (by omega) (by omega)
      · skip
        refine lv_aload_n hx hb dX5_entry_30 rfl (lv_at hl 0 rfl) ?_
        refine lv_iload_n hx hb dX5_entry_31 rfl (lv_at hl 2 rfl) ?_
        refine lv_iload_n hx hb dX5_entry_32 rfl (lv_at hl 1 rfl) ?_
        have hxz_4 : -2147483648 ≤ z 12 ∧ z 12 < 2147483648 := hok.2.2.2.1 12
        have hxG9 : xG N (z 12) G Eo := ⟨by omega, by omega, by omega, fun e9 h9 => hN4 e9 (by omega)⟩
        have hP : va_P (dC, dI) kxCl (xU cI cB cE o r n z F G (Eo 0 0) ++ eP cI N Eo Er En Ez EF) s.heap := hP
        refine xk_pure (va_runV (As := [.int (iz p1), .int (iz p0)]) (rest := []) ⟨hx, hb, hml, hown, hts⟩ (y_isLevelBefore l dC dI cI cB cE o r n z F G N Eo Er En Ez EF p1 p0 s.heap.size hok hxG9 hPE (by omega) (by omega) (by omega) (by omega)) (cwV 2 hts (kx_gV kq_24_xnew_13 kq_24_xnew_14 kq_24_xnew_15 kq_18_xrows_4 kq_24_xnew_16 rfl) rfl rfl rfl (by decide +kernel) ⟨Nat.le_of_ble_eq_true rfl, Nat.le_of_ble_eq_true rfl⟩) ⟨pPre_blind, va_recv hK hP (ci := 5) (q0 := 0) rfl rfl, pPre_give hP hK hG⟩ rfl rfl hl.1 rfl (lv_room (Nat.le_of_ble_eq_true rfl)) dX5_entry_33 ⟨show 0 + 0 ≤ 60 from (by omega), show 0 + 0 ≤ 200 from (by omega)⟩) hS (fun z_6 locs hq_5 hS => ?_)
        refine W.eq (g2 := F0 m 36 ls [.int (iz z_6)]) rfl ?_
        try dsimp only at hq_5
        rcases hq_5 with ⟨rfl, hq_5⟩ | ⟨rfl, hq_5⟩
        · skip
          refine ki_if_ne (tgt := 47) hx hb dX5_entry_36 (by decide) (by omega) (by omega) (fun c_7 => ?_) (fun c_7 => ?_)
          · skip
            refine lv_aload_n hx hb dX5_entry_47 rfl (lv_at hl 0 rfl) ?_
            refine va_get (D := (dC, dI)) (ci := 5) (v := .int (iz (z 12))) (C := RX5) (T := TX5) (N := 16) hx hb hts kt_X5 hown hK hP 0 rfl rfl 2 (by decide) (kx_word hG kq_18_xrows_0 rfl) (fun _ h9 => h9) rfl dX5_entry_48 ?_
            refine ki_if_lt (tgt := 66) hx hb dX5_entry_51 (by decide) (by omega) (by omega) (fun c_8 => ?_) (fun c_8 => ?_)
            · omega
            · skip
              refine lv_aload_n hx hb dX5_entry_54 rfl (lv_at hl 0 rfl) ?_
              refine va_get (D := (dC, dI)) (ci := 5) (v := .int (iz (z 12))) (C := RX5) (T := TX5) (N := 16) hx hb hts kt_X5 hown hK hP 0 rfl rfl 2 (by decide) (kx_word hG kq_18_xrows_0 rfl) (fun _ h9 => h9) rfl dX5_entry_55 ?_
              refine lv_aload_n hx hb dX5_entry_58 rfl (lv_at hl 0 rfl) ?_
              refine va_get (D := (dC, dI)) (ci := 5) (v := .ref (o 16)) (C := RX5) (T := TX5) (N := 16) hx hb hts kt_X5 hown hK hP 0 rfl rfl 0 (by decide) (kx_word hG kq_18_xrows_6 rfl) (fun _ h9 => h9) rfl dX5_entry_59 ?_
              refine xk_alen hx hb hK hP 1 2 rfl rfl dX5_entry_62 ?_
              refine ki_is (show iz ((80 : Nat) : Int) = iz 80 from rfl) ?_
              refine ki_icmp_lt (tgt := 74) hx hb dX5_entry_63 (by decide) (by omega) (by omega) (by omega) (by omega) (fun c_9 => ?_) (fun c_9 => ?_)
              · skip
                refine lv_aload_n hx hb dX5_entry_74 rfl (lv_at hl 0 rfl) ?_
                refine va_get (D := (dC, dI)) (ci := 5) (v := .ref (o 16)) (C := RX5) (T := TX5) (N := 16) hx hb hts kt_X5 hown hK hP 0 rfl rfl 0 (by decide) (kx_word hG kq_18_xrows_6 rfl) (fun _ h9 => h9) rfl dX5_entry_75 ?_
                refine lv_aload_n hx hb dX5_entry_78 rfl (lv_at hl 0 rfl) ?_
                refine va_get (D := (dC, dI)) (ci := 5) (v := .int (iz (z 12))) (C := RX5) (T := TX5) (N := 16) hx hb hts kt_X5 hown hK hP 0 rfl rfl 2 (by decide) (kx_word hG kq_18_xrows_0 rfl) (fun _ h9 => h9) rfl dX5_entry_79 ?_
                refine va_new (ci := 0) (fs := [.int 0, .int 0, .null, .null, .null, .null, .null, .int 0, .int 0, .int 0, .int 0, .int 0]) (C := RX0) (T := TX0) (N := 12) hx hb hts kt_X0 tyX0 tyX0_ok hown (kx_word hG kq_23_xmake_24 rfl) (kx_word hG kq_23_xmake_26 rfl) (kx_word hG kq_16_xentry_2 rfl) hK hP hD hS hA rfl (fun j hj => by rcases (show j = 0 ∨ j = 1 ∨ j = 2 ∨ j = 3 ∨ j = 4 ∨ j = 5 ∨ j = 6 ∨ j = 7 ∨ j = 8 ∨ j = 9 ∨ j = 10 ∨ j = 11 by omega) with rfl | rfl | rfl | rfl | rfl | rfl | rfl | rfl | rfl | rfl | rfl | rfl <;> rfl) (show 0 + 1 ≤ 60 from (by omega)) (show 0 + 12 ≤ 200 from (by omega)) dX5_entry_82 (fun qn H hP hD hS => ?_)
                have hP : va_P (dC, dI) kxCl (((xU cI cB cE o r n z F G (Eo 0 0)) ++ [(qn, .inr (0, [.int 0, .int 0, .null, .null, .null, .null, .null, .int 0, .int 0, .int 0, .int 0, .int 0]))]) ++ (eP cI N Eo Er En Ez EF)) H := va_P.swap hP
                have hD : va_D A (((xU cI cB cE o r n z F G (Eo 0 0)) ++ [(qn, .inr (0, [.int 0, .int 0, .null, .null, .null, .null, .null, .int 0, .int 0, .int 0, .int 0, .int 0]))]) ++ (eP cI N Eo Er En Ez EF)) := va_D.swap hD
                refine lv_dup hx hb dX5_entry_85 rfl ?_
                refine lv_iload_n hx hb dX5_entry_86 rfl (lv_at hl 1 rfl) ?_
                refine lv_iload_n hx hb dX5_entry_87 rfl (lv_at hl 2 rfl) ?_
                have hPc := hP.sub (ws' := [(qn, .inr (0, [.int 0, .int 0, .null, .null, .null, .null, .null, .int 0, .int 0, .int 0, .int 0, .int 0]))]) [29] rfl
                have hDc := hD.sub (ws' := [(qn, .inr (0, [.int 0, .int 0, .null, .null, .null, .null, .null, .int 0, .int 0, .int 0, .int 0, .int 0]))]) [29] (by decide) rfl
                have hFc := va_free (wc := [(qn, .inr (0, [.int 0, .int 0, .null, .null, .null, .null, .null, .int 0, .int 0, .int 0, .int 0, .int 0]))]) hD hS hA [29] rfl
                refine va_callv (va_runI (As := [.int (iz p0), .int (iz p1)]) (rest := [.ref qn, .int (iz (z 12)), .ref (o 16)]) ⟨hx, hb, hml, hown, hts⟩ (c_Entry_init l hlf dC dI qn (iz p0) (iz p1) cI cB cE H.size) (cwI 2 hts (kx_gI kq_23_xmake_27 rfl) rfl rfl rfl (kx_word hG kq_16_xentry_2 rfl) (kx_word hG kq_23_xmake_28 rfl) (kx_word hG kq_23_xmake_29 rfl) rfl (by decide +kernel) ⟨Nat.le_of_ble_eq_true rfl, Nat.le_of_ble_eq_true rfl⟩) ⟨kx_blind, kx_give (ws := []) (tys := []) hPc hDc hK hG hZ hS hFc⟩ rfl rfl hl.1 rfl (lv_room (Nat.le_of_ble_eq_true rfl)) dX5_entry_88 ⟨show (0 + 1) + 15 ≤ 60 from (by omega), show (0 + 12) + 24 ≤ 200 from (by omega)⟩) hS (fun q _ h => hFc q h) hFc (fun u t H1 locs ht hvm hw hB hz1 hk1 hS => ?_)
                obtain ⟨q1, q2, q3, q4, q5, q6, q7, q8, a0, a1, a2, a3, a4, a5, a6⟩ := u
                obtain ⟨hP1, hK1, hD1⟩ := hB
                rw [ht] at hP1
                obtain ⟨hP, hD⟩ := va_joinQ (wr := (xU cI cB cE o r n z F G (Eo 0 0))) (w1 := [(qn, .inr (0, [.int (iz p0), .int (iz p1), .ref q1, .ref q2, .ref q3, .ref q5, .ref q4, .int (-1), .int (-1), .int 0, .int 0, .int 0])), (q1, .inr (1, [.int 20, .ref a0, .int 0])), (a0, .inl (cI, 0, .inl (fun _ => 0))), (q2, .inr (1, [.int 20, .ref a1, .int 0])), (a1, .inl (cI, 0, .inl (fun _ => 0))), (q3, .inr (1, [.int 40, .ref a2, .int 0])), (a2, .inl (cI, 0, .inl (fun _ => 0))), (q4, .inr (1, [.int 5, .ref a3, .int 0])), (a3, .inl (cI, 0, .inl (fun _ => 0))), (q5, .inr (3, [.ref q6, .ref q7, .ref q8])), (q6, .inr (1, [.int 20, .ref a4, .int 0])), (a4, .inl (cI, 0, .inl (fun _ => 0))), (q7, .inr (1, [.int 20, .ref a5, .int 0])), (a5, .inl (cI, 0, .inl (fun _ => 0))), (q8, .inr (1, [.int 20, .ref a6, .int 0])), (a6, .inl (cI, 0, .inl (fun _ => 0)))]) hP hD [29] [0, 1, 2, 3, 4, 5, 6, 7, 8, 9, 10, 11, 12, 13, 14, 15, 16, 17, 18, 19, 20, 21, 22, 23, 24, 25, 26, 27, 28] rfl rfl (by decide) (by decide) hk1 hFc hP1 hD1
                generalize H1 = H at hP hS ⊢
                have hP : va_P (dC, dI) kxCl (((xU cI cB cE o r n z F G (Eo 0 0)) ++ eU cI (eNo qn q1 q2 q3 q4 q5 q6 q7 q8) (eNr a0 a1 a2 a3 a4 a5 a6) (fun _ => 0) (eNz p0 p1) (fun _ _ => 0)) ++ (eP cI N Eo Er En Ez EF)) H := by rw [← eN_eq]; exact hP
                have hD : va_D A (((xU cI cB cE o r n z F G (Eo 0 0)) ++ eU cI (eNo qn q1 q2 q3 q4 q5 q6 q7 q8) (eNr a0 a1 a2 a3 a4 a5 a6) (fun _ => 0) (eNz p0 p1) (fun _ _ => 0)) ++ (eP cI N Eo Er En Ez EF)) := by rw [← eN_eq]; exact hD
                refine W.eq (g2 := F0 m 91 ls [.ref qn, .int (iz (z 12)), .ref (o 16)]) rfl ?_
                refine va_astq (r := (RX0, TX0, 12)) hx hb hK hP hD hS 1 2 29 0 rfl rfl rfl rfl (iz_in (by omega) (by omega) (by omega)) dX5_entry_91 (fun H locs hP hD hS => ?_)
                rw [iz_clamp (by omega) (by omega)] at hP hD
                have hP : va_P (dC, dI) kxCl (((xU cI cB cE o r n z F (va_up G (z 12).toNat (some qn)) (Eo 0 0)) ++ eU cI (eNo qn q1 q2 q3 q4 q5 q6 q7 q8) (eNr a0 a1 a2 a3 a4 a5 a6) (fun _ => 0) (eNz p0 p1) (fun _ _ => 0)) ++ (eP cI N Eo Er En Ez EF)) H := hP
                have hD : va_D A (((xU cI cB cE o r n z F (va_up G (z 12).toNat (some qn)) (Eo 0 0)) ++ eU cI (eNo qn q1 q2 q3 q4 q5 q6 q7 q8) (eNr a0 a1 a2 a3 a4 a5 a6) (fun _ => 0) (eNz p0 p1) (fun _ _ => 0)) ++ (eP cI N Eo Er En Ez EF)) := hD
                have hP := hP.perm eX_push
                have hD := hD.perm eX_push
                have hnb : va_up Eo N (eNo qn q1 q2 q3 q4 q5 q6 q7 q8) 0 0 = Eo 0 0 := by rw [va_up_ne _ _ (show 0 ≠ N by omega)]
                have hN4b : ∀ e : Nat, (e : Int) < z 12 + 1 → va_up G (z 12).toNat (some qn) e = some (va_up Eo N (eNo qn q1 q2 q3 q4 q5 q6 q7 q8) (e + 1) 0) := eN_G (o := eNo qn q1 q2 q3 q4 q5 q6 q7 q8) hN1 hN3 hN4
                have hPE9 := hPE.push (N := N) (eN_ok p0 p1 (by omega) (by omega))
                rw [← hnb] at hP hD
                have hel : ∀ j, j < N → va_up Ez N (eNz p0 p1) j = Ez j ∧ va_up EF N (fun _ _ => 0) j = EF j := fun j hj => ⟨va_up_ne _ _ (by omega), va_up_ne _ _ (by omega)⟩
                have hen : va_up Ez N (eNz p0 p1) N = eNz p0 p1 := va_up_self _ _ _
                generalize hG9 : va_up G (z 12).toNat (some qn) = G2 at hP hD hN4b
                generalize hEo9 : va_up Eo N (eNo qn q1 q2 q3 q4 q5 q6 q7 q8) = Eo2 at hP hD hN4b
                generalize hEr9 : va_up Er N (eNr a0 a1 a2 a3 a4 a5 a6) = Er2 at hP hD
                generalize hEn9 : va_up En N (fun _ => 0) = En2 at hP hD hPE9
                generalize hEz9 : va_up Ez N (eNz p0 p1) = Ez2 at hP hD hPE9 hel hen
                generalize hEF9 : va_up EF N (fun _ _ => 0) = EF2 at hP hD hPE9 hel
                have hef : eFr [] [] En2 Ez2 EF2 En2 Ez2 EF2 := eFr.rf
                have hP : va_P (dC, dI) kxCl ((xU cI cB cE o r n z F G2 (Eo2 0 0)) ++ (eP cI (N + 1) Eo2 Er2 En2 Ez2 EF2)) H := hP
                have hD : va_D A ((xU cI cB cE o r n z F G2 (Eo2 0 0)) ++ (eP cI (N + 1) Eo2 Er2 En2 Ez2 EF2)) := hD
                refine W.eq (g2 := F0 m 92 ls []) rfl ?_
                refine lv_aload_n hx hb dX5_entry_92 rfl (lv_at hl 0 rfl) ?_
                refine lv_dup hx hb dX5_entry_93 rfl ?_
                have hxz_10 : -2147483648 ≤ z 12 ∧ z 12 < 2147483648 := hok.2.2.2.1 12
                refine va_get (D := (dC, dI)) (ci := 5) (v := .int (iz (z 12))) (C := RX5) (T := TX5) (N := 16) hx hb hts kt_X5 hown hK hP 0 rfl rfl 2 (by decide) (kx_word hG kq_18_xrows_0 rfl) (fun _ h9 => h9) rfl dX5_entry_94 ?_
                refine lv_iconst (v := iz 1) hx hb dX5_entry_97 (by decide) ?_
                refine ki_iadd hx hb dX5_entry_98 ?_
                refine va_put (D := (dC, dI)) (ci := 5) (v := .int (iz ((z 12) + 1))) (ty := .int) (C := RX5) (T := TX5) (N := 16) hx hb hts kt_X5 tyX5 tyX5_ok nmX5 hown hK hP hD hS 0 rfl rfl 2 (by decide) (kx_word hG kq_18_xrows_0 rfl) (fun _ h9 => h9) rfl (by decide +kernel) rfl rfl (Nat.le_of_ble_eq_true rfl) dX5_entry_99 (fun H locs hP hD hS => ?_)
                have hP : va_P (dC, dI) kxCl ((xU cI cB cE o r n (va_up z 12 ((z 12) + 1)) F G2 (Eo2 0 0)) ++ (eP cI (N + 1) Eo2 Er2 En2 Ez2 EF2)) H := hP
                have hD : va_D A ((xU cI cB cE o r n (va_up z 12 ((z 12) + 1)) F G2 (Eo2 0 0)) ++ (eP cI (N + 1) Eo2 Er2 En2 Ez2 EF2)) := hD
                refine lv_aload_n hx hb dX5_entry_102 rfl (lv_at hl 0 rfl) ?_
                have hok11 : xOk n (va_up z 12 ((z 12) + 1)) F := (hok.s 12 (by decide) (show -2147483648 ≤ (z 12) + 1 ∧ (z 12) + 1 < 2147483648 by omega) (by omega))
                have hfr11 : xFr [12, 15, 16] [] z F (va_up z 12 ((z 12) + 1)) F := (hfr.uz 12 (by decide) _)
                have hxG9 : xG (N + 1) ((z 12) + 1) G2 Eo2 := ⟨by omega, by omega, by omega, fun e9 h9 => hN4b e9 (by omega)⟩
                have hP : va_P (dC, dI) kxCl (xU cI cB cE o r n (va_up z 12 ((z 12) + 1)) F G2 (Eo2 0 0) ++ eP cI (N + 1) Eo2 Er2 En2 Ez2 EF2) H := hP
                have hD : va_D A (xU cI cB cE o r n (va_up z 12 ((z 12) + 1)) F G2 (Eo2 0 0) ++ eP cI (N + 1) Eo2 Er2 En2 Ez2 EF2) := hD
                have hFc := xw_free hD hS hA
                refine xk_call (va_runV (As := []) (rest := []) ⟨hx, hb, hml, hown, hts⟩ (y_forgetRows l dC dI cI cB cE o r n (va_up z 12 ((z 12) + 1)) F G2 (N + 1) Eo2 Er2 En2 Ez2 EF2  H.size hok11 hxG9 hPE9 ) (cwV 0 hts (kx_gV kq_21_xcalls_6 kq_21_xcalls_7 kq_21_xcalls_8 kq_18_xrows_4 kq_21_xcalls_9 rfl) rfl rfl rfl (by decide +kernel) ⟨Nat.le_of_ble_eq_true rfl, Nat.le_of_ble_eq_true rfl⟩) ⟨kx_blind, va_recv hK hP (ci := 5) (q0 := 0) rfl rfl, kx_give (ws := []) (tys := []) hP hD hK hG hZ hS hFc⟩ rfl rfl hl.1 rfl (lv_room (Nat.le_of_ble_eq_true rfl)) dX5_entry_103 ⟨show ((0 + 1) + 15) + 0 ≤ 60 from (by omega), show ((0 + 12) + 24) + 0 ≤ 200 from (by omega)⟩) hS (fun q _ h => hFc q h) hFc (fun u dn_14 dm_15 t H locs ht hvm hq_12 hB hk1 hS => ?_)
                obtain ⟨r_16, n_17, z_18, F_19, Er_20, En_21, Ez_22, EF_23⟩ := u
                obtain ⟨hP, hK1, hD1⟩ := hB
                rw [ht] at hP
                have hD := hD1.weaken (fun _ q _ h => hFc _ h)
                obtain ⟨hR24, hC24, hq_12⟩ := hq_12
                obtain ⟨rfl, rfl, rfl, rfl, rfl, rfl, rfl, hq_12⟩ := hq_12
                subst hq_12
                have hP : va_P (dC, dI) kxCl ((xU cI cB cE o r n (va_up (va_up (va_up z 12 ((z 12) + 1)) 15 0) 16 (-1)) F G2 (Eo2 0 0)) ++ (eP cI (N + 1) Eo2 Er2 En2 Ez2 EF2)) H := hP
                have hD : va_D A ((xU cI cB cE o r n (va_up (va_up (va_up z 12 ((z 12) + 1)) 15 0) 16 (-1)) F G2 (Eo2 0 0)) ++ (eP cI (N + 1) Eo2 Er2 En2 Ez2 EF2)) := hD
                refine W.eq (g2 := F0 m 106 ls []) rfl ?_
                refine lv_aload_n hx hb dX5_entry_106 rfl (lv_at hl 0 rfl) ?_
                refine va_get (D := (dC, dI)) (ci := 5) (v := .int (iz ((z 12) + 1))) (C := RX5) (T := TX5) (N := 16) hx hb hts kt_X5 hown hK hP 0 rfl rfl 2 (by decide) (kx_word hG kq_18_xrows_0 rfl) (fun _ h9 => h9) rfl dX5_entry_107 ?_
                refine lv_iconst (v := iz 1) hx hb dX5_entry_110 (by decide) ?_
                refine ki_isub hx hb dX5_entry_111 ?_
                have hxz_25 : -2147483648 ≤ z 15 ∧ z 15 < 2147483648 := hok.2.2.2.1 15
                have hxb_26 : z 15 = 0 ∨ z 15 = 1 := hok.2.2.2.2 15 (by decide)
                have hxz_27 : -2147483648 ≤ z 16 ∧ z 16 < 2147483648 := hok.2.2.2.1 16
                have hok28 : xOk n (va_up (va_up (va_up z 12 ((z 12) + 1)) 15 0) 16 (-1)) F := (((hok.s 12 (by decide) (show -2147483648 ≤ (z 12) + 1 ∧ (z 12) + 1 < 2147483648 by omega) (by omega)).s 15 (by decide) (show -2147483648 ≤ 0 ∧ 0 < 2147483648 by omega) (by omega)).s 16 (by decide) (show -2147483648 ≤ (-1) ∧ (-1) < 2147483648 by omega) (by omega))
                have hfr28 : xFr [12, 15, 16] [] z F (va_up (va_up (va_up z 12 ((z 12) + 1)) 15 0) 16 (-1)) F := (((hfr.uz 12 (by decide) _).uz 15 (by decide) _).uz 16 (by decide) _)
                refine vx_ret ?_
                have hzq : (va_up (va_up (va_up z 12 ((z 12) + 1)) 15 0) 16 (-1)) 12 = z 12 + 1 := rfl
                exact xk_iret (ov := (fun u : (Int) × (Nat → Int) × (Nat → Option Nat) × (Nat → Nat → Nat) × (Nat → Nat → Nat) × (Nat → Nat → Nat) × (Nat → Nat → Int) × (Nat → Nat → Int → Int) => match u with | (q, z', G', Eo', Er', En', Ez', EF') => some (.int (iz q)))) (post := (fun (u : (Int) × (Nat → Int) × (Nat → Option Nat) × (Nat → Nat → Nat) × (Nat → Nat → Nat) × (Nat → Nat → Nat) × (Nat → Nat → Int) × (Nat → Nat → Int → Int)) (dn dm : Nat) => match u with | (q, z', G', Eo', Er', En', Ez', EF') => xOk n z' F ∧ xFr [12, 15, 16] [] z F z' F ∧ xG (N + 1) (z' 12) G' Eo' ∧ eA (N + 1) En' Ez' EF' ∧ (dn ≤ 30 ∧ dm ≤ 60) ∧ q = z 12 ∧ z' 12 = z 12 + 1 ∧ ((p0 = 0 ∧ p1 = -1) ∨ ((p0 = 1 ∨ p0 = 2) ∧ 0 ≤ p1 ∧ p1 < z 12 ∧ Ez ((p1 + 1).toNat) 7 = p0 - 1)) ∧ (∀ j, j < N → Ez' j = Ez j ∧ EF' j = EF j) ∧ Ez' N 7 = p0 ∧ Ez' N 0 = 0 ∧ Ez' N 4 = 0 ∧ Ez' N 9 = -1 ∧ Ez' N 1 = 0 ∧ Ez' N 2 = 0)) (ws := (fun u : (Int) × (Nat → Int) × (Nat → Option Nat) × (Nat → Nat → Nat) × (Nat → Nat → Nat) × (Nat → Nat → Nat) × (Nat → Nat → Int) × (Nat → Nat → Int → Int) => match u with | (q, z', G', Eo', Er', En', Ez', EF') => (xU cI cB cE o r n z' F G' (Eo' 0 0) ++ eP cI (N + 1) Eo' Er' En' Ez' EF'))) (tys := xT cI cB cE) (z := ((z 12) + 1) - 1) (((z 12) + 1) - 1, (va_up (va_up (va_up z 12 ((z 12) + 1)) 15 0) 16 (-1)), G2, Eo2, Er2, En2, Ez2, EF2) hx hb hr rfl hlocks rfl hP hD hK hS dX5_entry_112 (fun dn dm hdn hdm => ⟨hok28, hfr28, ⟨by omega, by omega, by omega, fun e9 h9 => hN4b e9 (by omega)⟩, hPE9, ⟨by omega, by omega⟩, by omega, by omega, by omega, fun j hj => hel j hj, by rw [hen]; rfl, by rw [hen]; rfl, by rw [hen]; rfl, by rw [hen]; rfl, by rw [hen]; rfl, by rw [hen]; rfl⟩) (by omega) (by omega)
              · omega
          · omega
        · skip
          refine ki_if_ne (tgt := 47) hx hb dX5_entry_36 (by decide) (by omega) (by omega) (fun c_29 => ?_) (fun c_29 => ?_)
          · omega
          · skip
            exact ky_thr_IAE hx hb hlf hown hG hZ hS (hl.1.trans hml.symm) dX5_entry_39 dX5_entry_42 dX5_entry_43 dX5_entry_46 htab (Nat.le_of_ble_eq_true rfl) (Nat.le_of_ble_eq_true rfl) (show 0 + 1 ≤ 60 from (by omega)) (show 0 + 6 ≤ 200 from (by omega)) hlocks (Or.inr (⟨rfl, by first | trivial | omega⟩)) (fun t hvm h1 h2 => ⟨(r, n, z, F, Er, En, Ez, EF), ⟨hok, xFr.rf, hPE, eFr.rf⟩, hP.kept (fun k q hk => h2 q.1 (hP k q hk).lt), va_K.moved hvm hK, hD⟩) hS.2.2 (by omega) (by omega) (by omega) (by omega)
  · skip
    refine lv_aload_n hx hb dX5_entry_5 rfl (lv_at hl 0 rfl) ?_
    refine lv_iload_n hx hb dX5_entry_6 rfl (lv_at hl 2 rfl) ?_
    have hxz_30 : -2147483648 ≤ z 12 ∧ z 12 < 2147483648 := hok.2.2.2.1 12
    have hxG9 : xG N (z 12) G Eo := ⟨by omega, by omega, by omega, fun e9 h9 => hN4 e9 (by omega)⟩
    have hP : va_P (dC, dI) kxCl (xU cI cB cE o r n z F G (Eo 0 0) ++ eP cI N Eo Er En Ez EF) s.heap := hP
    refine xk_pure (va_runV (As := [.int (iz p1)]) (rest := []) ⟨hx, hb, hml, hown, hts⟩ (y_isEntry l dC dI cI cB cE o r n z F G N Eo Er En Ez EF p1 s.heap.size hok hxG9 hPE (by omega) (by omega)) (cwV 1 hts (kx_gV kq_18_xrows_1 kq_18_xrows_2 kq_18_xrows_3 kq_18_xrows_4 kq_18_xrows_5 rfl) rfl rfl rfl (by decide +kernel) ⟨Nat.le_of_ble_eq_true rfl, Nat.le_of_ble_eq_true rfl⟩) ⟨pPre_blind, va_recv hK hP (ci := 5) (q0 := 0) rfl rfl, pPre_give hP hK hG⟩ rfl rfl hl.1 rfl (lv_room (Nat.le_of_ble_eq_true rfl)) dX5_entry_7 ⟨show 0 + 0 ≤ 60 from (by omega), show 0 + 0 ≤ 200 from (by omega)⟩) hS (fun z_32 locs hq_31 hS => ?_)
    refine W.eq (g2 := F0 m 10 ls [.int (iz z_32)]) rfl ?_
    try dsimp only at hq_31
    rcases hq_31 with ⟨rfl, hq_31⟩ | ⟨rfl, hq_31⟩
    · skip
      refine ki_if_ne (tgt := 21) hx hb dX5_entry_10 (by decide) (by omega) (by omega) (fun c_33 => ?_) (fun c_33 => ?_)
      · skip
        refine lv_iload_n hx hb dX5_entry_21 rfl (lv_at hl 1 rfl) ?_
        refine ki_if_lt (tgt := 39) hx hb dX5_entry_22 (by decide) (by omega) (by omega) (fun c_34 => ?_) (fun c_34 => ?_)
        · skip
          exact ky_thr_IAE hx hb hlf hown hG hZ hS (hl.1.trans hml.symm) dX5_entry_39 dX5_entry_42 dX5_entry_43 dX5_entry_46 htab (Nat.le_of_ble_eq_true rfl) (Nat.le_of_ble_eq_true rfl) (show 0 + 1 ≤ 60 from (by omega)) (show 0 + 6 ≤ 200 from (by omega)) hlocks (Or.inr (⟨rfl, by first | trivial | omega⟩)) (fun t hvm h1 h2 => ⟨(r, n, z, F, Er, En, Ez, EF), ⟨hok, xFr.rf, hPE, eFr.rf⟩, hP.kept (fun k q hk => h2 q.1 (hP k q hk).lt), va_K.moved hvm hK, hD⟩) hS.2.2 (by omega) (by omega) (by omega) (by omega)
        · skip
          refine lv_iload_n hx hb dX5_entry_25 rfl (lv_at hl 1 rfl) ?_
          refine lv_iconst (v := iz 3) hx hb dX5_entry_26 (by decide) ?_
          refine ki_icmp_ge (tgt := 39) hx hb dX5_entry_27 (by decide) (by omega) (by omega) (by omega) (by omega) (fun c_35 => ?_) (fun c_35 => ?_)
          · skip
            exact ky_thr_IAE hx hb hlf hown hG hZ hS (hl.1.trans hml.symm) dX5_entry_39 dX5_entry_42 dX5_entry_43 dX5_entry_46 htab (Nat.le_of_ble_eq_true rfl) (Nat.le_of_ble_eq_true rfl) (show 0 + 1 ≤ 60 from (by omega)) (show 0 + 6 ≤ 200 from (by omega)) hlocks (Or.inr (⟨rfl, by first | trivial | omega⟩)) (fun t hvm h1 h2 => ⟨(r, n, z, F, Er, En, Ez, EF), ⟨hok, xFr.rf, hPE, eFr.rf⟩, hP.kept (fun k q hk => h2 q.1 (hP k q hk).lt), va_K.moved hvm hK, hD⟩) hS.2.2 (by omega) (by omega) (by omega) (by omega)
          · skip
            refine lv_aload_n hx hb dX5_entry_30 rfl (lv_at hl 0 rfl) ?_
            refine lv_iload_n hx hb dX5_entry_31 rfl (lv_at hl 2 rfl) ?_
            refine lv_iload_n hx hb dX5_entry_32 rfl (lv_at hl 1 rfl) ?_
            have hxG9 : xG N (z 12) G Eo := ⟨by omega, by omega, by omega, fun e9 h9 => hN4 e9 (by omega)⟩
            have hP : va_P (dC, dI) kxCl (xU cI cB cE o r n z F G (Eo 0 0) ++ eP cI N Eo Er En Ez EF) s.heap := hP
            refine xk_pure (va_runV (As := [.int (iz p1), .int (iz p0)]) (rest := []) ⟨hx, hb, hml, hown, hts⟩ (y_isLevelBefore l dC dI cI cB cE o r n z F G N Eo Er En Ez EF p1 p0 s.heap.size hok hxG9 hPE (by omega) (by omega) (by omega) (by omega)) (cwV 2 hts (kx_gV kq_24_xnew_13 kq_24_xnew_14 kq_24_xnew_15 kq_18_xrows_4 kq_24_xnew_16 rfl) rfl rfl rfl (by decide +kernel) ⟨Nat.le_of_ble_eq_true rfl, Nat.le_of_ble_eq_true rfl⟩) ⟨pPre_blind, va_recv hK hP (ci := 5) (q0 := 0) rfl rfl, pPre_give hP hK hG⟩ rfl rfl hl.1 rfl (lv_room (Nat.le_of_ble_eq_true rfl)) dX5_entry_33 ⟨show 0 + 0 ≤ 60 from (by omega), show 0 + 0 ≤ 200 from (by omega)⟩) hS (fun z_37 locs hq_36 hS => ?_)
            refine W.eq (g2 := F0 m 36 ls [.int (iz z_37)]) rfl ?_
            try dsimp only at hq_36
            rcases hq_36 with ⟨rfl, hq_36⟩ | ⟨rfl, hq_36⟩
            · skip
              refine ki_if_ne (tgt := 47) hx hb dX5_entry_36 (by decide) (by omega) (by omega) (fun c_38 => ?_) (fun c_38 => ?_)
              · skip
                refine lv_aload_n hx hb dX5_entry_47 rfl (lv_at hl 0 rfl) ?_
                refine va_get (D := (dC, dI)) (ci := 5) (v := .int (iz (z 12))) (C := RX5) (T := TX5) (N := 16) hx hb hts kt_X5 hown hK hP 0 rfl rfl 2 (by decide) (kx_word hG kq_18_xrows_0 rfl) (fun _ h9 => h9) rfl dX5_entry_48 ?_
                refine ki_if_lt (tgt := 66) hx hb dX5_entry_51 (by decide) (by omega) (by omega) (fun c_39 => ?_) (fun c_39 => ?_)
                · omega
                · skip
                  refine lv_aload_n hx hb dX5_entry_54 rfl (lv_at hl 0 rfl) ?_
                  refine va_get (D := (dC, dI)) (ci := 5) (v := .int (iz (z 12))) (C := RX5) (T := TX5) (N := 16) hx hb hts kt_X5 hown hK hP 0 rfl rfl 2 (by decide) (kx_word hG kq_18_xrows_0 rfl) (fun _ h9 => h9) rfl dX5_entry_55 ?_
                  refine lv_aload_n hx hb dX5_entry_58 rfl (lv_at hl 0 rfl) ?_
                  refine va_get (D := (dC, dI)) (ci := 5) (v := .ref (o 16)) (C := RX5) (T := TX5) (N := 16) hx hb hts kt_X5 hown hK hP 0 rfl rfl 0 (by decide) (kx_word hG kq_18_xrows_6 rfl) (fun _ h9 => h9) rfl dX5_entry_59 ?_
                  refine xk_alen hx hb hK hP 1 2 rfl rfl dX5_entry_62 ?_
                  refine ki_is (show iz ((80 : Nat) : Int) = iz 80 from rfl) ?_
                  refine ki_icmp_lt (tgt := 74) hx hb dX5_entry_63 (by decide) (by omega) (by omega) (by omega) (by omega) (fun c_40 => ?_) (fun c_40 => ?_)
                  · skip
                    refine lv_aload_n hx hb dX5_entry_74 rfl (lv_at hl 0 rfl) ?_
                    refine va_get (D := (dC, dI)) (ci := 5) (v := .ref (o 16)) (C := RX5) (T := TX5) (N := 16) hx hb hts kt_X5 hown hK hP 0 rfl rfl 0 (by decide) (kx_word hG kq_18_xrows_6 rfl) (fun _ h9 => h9) rfl dX5_entry_75 ?_
                    refine lv_aload_n hx hb dX5_entry_78 rfl (lv_at hl 0 rfl) ?_
                    refine va_get (D := (dC, dI)) (ci := 5) (v := .int (iz (z 12))) (C := RX5) (T := TX5) (N := 16) hx hb hts kt_X5 hown hK hP 0 rfl rfl 2 (by decide) (kx_word hG kq_18_xrows_0 rfl) (fun _ h9 => h9) rfl dX5_entry_79 ?_
                    refine va_new (ci := 0) (fs := [.int 0, .int 0, .null, .null, .null, .null, .null, .int 0, .int 0, .int 0, .int 0, .int 0]) (C := RX0) (T := TX0) (N := 12) hx hb hts kt_X0 tyX0 tyX0_ok hown (kx_word hG kq_23_xmake_24 rfl) (kx_word hG kq_23_xmake_26 rfl) (kx_word hG kq_16_xentry_2 rfl) hK hP hD hS hA rfl (fun j hj => by rcases (show j = 0 ∨ j = 1 ∨ j = 2 ∨ j = 3 ∨ j = 4 ∨ j = 5 ∨ j = 6 ∨ j = 7 ∨ j = 8 ∨ j = 9 ∨ j = 10 ∨ j = 11 by omega) with rfl | rfl | rfl | rfl | rfl | rfl | rfl | rfl | rfl | rfl | rfl | rfl <;> rfl) (show 0 + 1 ≤ 60 from (by omega)) (show 0 + 12 ≤ 200 from (by omega)) dX5_entry_82 (fun qn H hP hD hS => ?_)
                    have hP : va_P (dC, dI) kxCl (((xU cI cB cE o r n z F G (Eo 0 0)) ++ [(qn, .inr (0, [.int 0, .int 0, .null, .null, .null, .null, .null, .int 0, .int 0, .int 0, .int 0, .int 0]))]) ++ (eP cI N Eo Er En Ez EF)) H := va_P.swap hP
                    have hD : va_D A (((xU cI cB cE o r n z F G (Eo 0 0)) ++ [(qn, .inr (0, [.int 0, .int 0, .null, .null, .null, .null, .null, .int 0, .int 0, .int 0, .int 0, .int 0]))]) ++ (eP cI N Eo Er En Ez EF)) := va_D.swap hD
                    refine lv_dup hx hb dX5_entry_85 rfl ?_
                    refine lv_iload_n hx hb dX5_entry_86 rfl (lv_at hl 1 rfl) ?_
                    refine lv_iload_n hx hb dX5_entry_87 rfl (lv_at hl 2 rfl) ?_
                    have hPc := hP.sub (ws' := [(qn, .inr (0, [.int 0, .int 0, .null, .null, .null, .null, .null, .int 0, .int 0, .int 0, .int 0, .int 0]))]) [29] rfl
                    have hDc := hD.sub (ws' := [(qn, .inr (0, [.int 0, .int 0, .null, .null, .null, .null, .null, .int 0, .int 0, .int 0, .int 0, .int 0]))]) [29] (by decide) rfl
                    have hFc := va_free (wc := [(qn, .inr (0, [.int 0, .int 0, .null, .null, .null, .null, .null, .int 0, .int 0, .int 0, .int 0, .int 0]))]) hD hS hA [29] rfl
                    refine va_callv (va_runI (As := [.int (iz p0), .int (iz p1)]) (rest := [.ref qn, .int (iz (z 12)), .ref (o 16)]) ⟨hx, hb, hml, hown, hts⟩ (c_Entry_init l hlf dC dI qn (iz p0) (iz p1) cI cB cE H.size) (cwI 2 hts (kx_gI kq_23_xmake_27 rfl) rfl rfl rfl (kx_word hG kq_16_xentry_2 rfl) (kx_word hG kq_23_xmake_28 rfl) (kx_word hG kq_23_xmake_29 rfl) rfl (by decide +kernel) ⟨Nat.le_of_ble_eq_true rfl, Nat.le_of_ble_eq_true rfl⟩) ⟨kx_blind, kx_give (ws := []) (tys := []) hPc hDc hK hG hZ hS hFc⟩ rfl rfl hl.1 rfl (lv_room (Nat.le_of_ble_eq_true rfl)) dX5_entry_88 ⟨show (0 + 1) + 15 ≤ 60 from (by omega), show (0 + 12) + 24 ≤ 200 from (by omega)⟩) hS (fun q _ h => hFc q h) hFc (fun u t H1 locs ht hvm hw hB hz1 hk1 hS => ?_)
                    obtain ⟨q1, q2, q3, q4, q5, q6, q7, q8, a0, a1, a2, a3, a4, a5, a6⟩ := u
                    obtain ⟨hP1, hK1, hD1⟩ := hB
                    rw [ht] at hP1
                    obtain ⟨hP, hD⟩ := va_joinQ (wr := (xU cI cB cE o r n z F G (Eo 0 0))) (w1 := [(qn, .inr (0, [.int (iz p0), .int (iz p1), .ref q1, .ref q2, .ref q3, .ref q5, .ref q4, .int (-1), .int (-1), .int 0, .int 0, .int 0])), (q1, .inr (1, [.int 20, .ref a0, .int 0])), (a0, .inl (cI, 0, .inl (fun _ => 0))), (q2, .inr (1, [.int 20, .ref a1, .int 0])), (a1, .inl (cI, 0, .inl (fun _ => 0))), (q3, .inr (1, [.int 40, .ref a2, .int 0])), (a2, .inl (cI, 0, .inl (fun _ => 0))), (q4, .inr (1, [.int 5, .ref a3, .int 0])), (a3, .inl (cI, 0, .inl (fun _ => 0))), (q5, .inr (3, [.ref q6, .ref q7, .ref q8])), (q6, .inr (1, [.int 20, .ref a4, .int 0])), (a4, .inl (cI, 0, .inl (fun _ => 0))), (q7, .inr (1, [.int 20, .ref a5, .int 0])), (a5, .inl (cI, 0, .inl (fun _ => 0))), (q8, .inr (1, [.int 20, .ref a6, .int 0])), (a6, .inl (cI, 0, .inl (fun _ => 0)))]) hP hD [29] [0, 1, 2, 3, 4, 5, 6, 7, 8, 9, 10, 11, 12, 13, 14, 15, 16, 17, 18, 19, 20, 21, 22, 23, 24, 25, 26, 27, 28] rfl rfl (by decide) (by decide) hk1 hFc hP1 hD1
                    generalize H1 = H at hP hS ⊢
                    have hP : va_P (dC, dI) kxCl (((xU cI cB cE o r n z F G (Eo 0 0)) ++ eU cI (eNo qn q1 q2 q3 q4 q5 q6 q7 q8) (eNr a0 a1 a2 a3 a4 a5 a6) (fun _ => 0) (eNz p0 p1) (fun _ _ => 0)) ++ (eP cI N Eo Er En Ez EF)) H := by rw [← eN_eq]; exact hP
                    have hD : va_D A (((xU cI cB cE o r n z F G (Eo 0 0)) ++ eU cI (eNo qn q1 q2 q3 q4 q5 q6 q7 q8) (eNr a0 a1 a2 a3 a4 a5 a6) (fun _ => 0) (eNz p0 p1) (fun _ _ => 0)) ++ (eP cI N Eo Er En Ez EF)) := by rw [← eN_eq]; exact hD
                    refine W.eq (g2 := F0 m 91 ls [.ref qn, .int (iz (z 12)), .ref (o 16)]) rfl ?_
                    refine va_astq (r := (RX0, TX0, 12)) hx hb hK hP hD hS 1 2 29 0 rfl rfl rfl rfl (iz_in (by omega) (by omega) (by omega)) dX5_entry_91 (fun H locs hP hD hS => ?_)
                    rw [iz_clamp (by omega) (by omega)] at hP hD
                    have hP : va_P (dC, dI) kxCl (((xU cI cB cE o r n z F (va_up G (z 12).toNat (some qn)) (Eo 0 0)) ++ eU cI (eNo qn q1 q2 q3 q4 q5 q6 q7 q8) (eNr a0 a1 a2 a3 a4 a5 a6) (fun _ => 0) (eNz p0 p1) (fun _ _ => 0)) ++ (eP cI N Eo Er En Ez EF)) H := hP
                    have hD : va_D A (((xU cI cB cE o r n z F (va_up G (z 12).toNat (some qn)) (Eo 0 0)) ++ eU cI (eNo qn q1 q2 q3 q4 q5 q6 q7 q8) (eNr a0 a1 a2 a3 a4 a5 a6) (fun _ => 0) (eNz p0 p1) (fun _ _ => 0)) ++ (eP cI N Eo Er En Ez EF)) := hD
                    have hP := hP.perm eX_push
                    have hD := hD.perm eX_push
                    have hnb : va_up Eo N (eNo qn q1 q2 q3 q4 q5 q6 q7 q8) 0 0 = Eo 0 0 := by rw [va_up_ne _ _ (show 0 ≠ N by omega)]
                    have hN4b : ∀ e : Nat, (e : Int) < z 12 + 1 → va_up G (z 12).toNat (some qn) e = some (va_up Eo N (eNo qn q1 q2 q3 q4 q5 q6 q7 q8) (e + 1) 0) := eN_G (o := eNo qn q1 q2 q3 q4 q5 q6 q7 q8) hN1 hN3 hN4
                    have hPE9 := hPE.push (N := N) (eN_ok p0 p1 (by omega) (by omega))
                    rw [← hnb] at hP hD
                    have hel : ∀ j, j < N → va_up Ez N (eNz p0 p1) j = Ez j ∧ va_up EF N (fun _ _ => 0) j = EF j := fun j hj => ⟨va_up_ne _ _ (by omega), va_up_ne _ _ (by omega)⟩
                    have hen : va_up Ez N (eNz p0 p1) N = eNz p0 p1 := va_up_self _ _ _
                    generalize hG9 : va_up G (z 12).toNat (some qn) = G2 at hP hD hN4b
                    generalize hEo9 : va_up Eo N (eNo qn q1 q2 q3 q4 q5 q6 q7 q8) = Eo2 at hP hD hN4b
                    generalize hEr9 : va_up Er N (eNr a0 a1 a2 a3 a4 a5 a6) = Er2 at hP hD
                    generalize hEn9 : va_up En N (fun _ => 0) = En2 at hP hD hPE9
                    generalize hEz9 : va_up Ez N (eNz p0 p1) = Ez2 at hP hD hPE9 hel hen
                    generalize hEF9 : va_up EF N (fun _ _ => 0) = EF2 at hP hD hPE9 hel
                    have hef : eFr [] [] En2 Ez2 EF2 En2 Ez2 EF2 := eFr.rf
                    have hP : va_P (dC, dI) kxCl ((xU cI cB cE o r n z F G2 (Eo2 0 0)) ++ (eP cI (N + 1) Eo2 Er2 En2 Ez2 EF2)) H := hP
                    have hD : va_D A ((xU cI cB cE o r n z F G2 (Eo2 0 0)) ++ (eP cI (N + 1) Eo2 Er2 En2 Ez2 EF2)) := hD
                    refine W.eq (g2 := F0 m 92 ls []) rfl ?_
                    refine lv_aload_n hx hb dX5_entry_92 rfl (lv_at hl 0 rfl) ?_
                    refine lv_dup hx hb dX5_entry_93 rfl ?_
                    have hxz_41 : -2147483648 ≤ z 12 ∧ z 12 < 2147483648 := hok.2.2.2.1 12
                    refine va_get (D := (dC, dI)) (ci := 5) (v := .int (iz (z 12))) (C := RX5) (T := TX5) (N := 16) hx hb hts kt_X5 hown hK hP 0 rfl rfl 2 (by decide) (kx_word hG kq_18_xrows_0 rfl) (fun _ h9 => h9) rfl dX5_entry_94 ?_
                    refine lv_iconst (v := iz 1) hx hb dX5_entry_97 (by decide) ?_
                    refine ki_iadd hx hb dX5_entry_98 ?_
                    refine va_put (D := (dC, dI)) (ci := 5) (v := .int (iz ((z 12) + 1))) (ty := .int) (C := RX5) (T := TX5) (N := 16) hx hb hts kt_X5 tyX5 tyX5_ok nmX5 hown hK hP hD hS 0 rfl rfl 2 (by decide) (kx_word hG kq_18_xrows_0 rfl) (fun _ h9 => h9) rfl (by decide +kernel) rfl rfl (Nat.le_of_ble_eq_true rfl) dX5_entry_99 (fun H locs hP hD hS => ?_)
                    have hP : va_P (dC, dI) kxCl ((xU cI cB cE o r n (va_up z 12 ((z 12) + 1)) F G2 (Eo2 0 0)) ++ (eP cI (N + 1) Eo2 Er2 En2 Ez2 EF2)) H := hP
                    have hD : va_D A ((xU cI cB cE o r n (va_up z 12 ((z 12) + 1)) F G2 (Eo2 0 0)) ++ (eP cI (N + 1) Eo2 Er2 En2 Ez2 EF2)) := hD
                    refine lv_aload_n hx hb dX5_entry_102 rfl (lv_at hl 0 rfl) ?_
                    have hok42 : xOk n (va_up z 12 ((z 12) + 1)) F := (hok.s 12 (by decide) (show -2147483648 ≤ (z 12) + 1 ∧ (z 12) + 1 < 2147483648 by omega) (by omega))
                    have hfr42 : xFr [12, 15, 16] [] z F (va_up z 12 ((z 12) + 1)) F := (hfr.uz 12 (by decide) _)
                    have hxG9 : xG (N + 1) ((z 12) + 1) G2 Eo2 := ⟨by omega, by omega, by omega, fun e9 h9 => hN4b e9 (by omega)⟩
                    have hP : va_P (dC, dI) kxCl (xU cI cB cE o r n (va_up z 12 ((z 12) + 1)) F G2 (Eo2 0 0) ++ eP cI (N + 1) Eo2 Er2 En2 Ez2 EF2) H := hP
                    have hD : va_D A (xU cI cB cE o r n (va_up z 12 ((z 12) + 1)) F G2 (Eo2 0 0) ++ eP cI (N + 1) Eo2 Er2 En2 Ez2 EF2) := hD
                    have hFc := xw_free hD hS hA
                    refine xk_call (va_runV (As := []) (rest := []) ⟨hx, hb, hml, hown, hts⟩ (y_forgetRows l dC dI cI cB cE o r n (va_up z 12 ((z 12) + 1)) F G2 (N + 1) Eo2 Er2 En2 Ez2 EF2  H.size hok42 hxG9 hPE9 ) (cwV 0 hts (kx_gV kq_21_xcalls_6 kq_21_xcalls_7 kq_21_xcalls_8 kq_18_xrows_4 kq_21_xcalls_9 rfl) rfl rfl rfl (by decide +kernel) ⟨Nat.le_of_ble_eq_true rfl, Nat.le_of_ble_eq_true rfl⟩) ⟨kx_blind, va_recv hK hP (ci := 5) (q0 := 0) rfl rfl, kx_give (ws := []) (tys := []) hP hD hK hG hZ hS hFc⟩ rfl rfl hl.1 rfl (lv_room (Nat.le_of_ble_eq_true rfl)) dX5_entry_103 ⟨show ((0 + 1) + 15) + 0 ≤ 60 from (by omega), show ((0 + 12) + 24) + 0 ≤ 200 from (by omega)⟩) hS (fun q _ h => hFc q h) hFc (fun u dn_45 dm_46 t H locs ht hvm hq_43 hB hk1 hS => ?_)
                    obtain ⟨r_47, n_48, z_49, F_50, Er_51, En_52, Ez_53, EF_54⟩ := u
                    obtain ⟨hP, hK1, hD1⟩ := hB
                    rw [ht] at hP
                    have hD := hD1.weaken (fun _ q _ h => hFc _ h)
                    obtain ⟨hR55, hC55, hq_43⟩ := hq_43
                    obtain ⟨rfl, rfl, rfl, rfl, rfl, rfl, rfl, hq_43⟩ := hq_43
                    subst hq_43
                    have hP : va_P (dC, dI) kxCl ((xU cI cB cE o r n (va_up (va_up (va_up z 12 ((z 12) + 1)) 15 0) 16 (-1)) F G2 (Eo2 0 0)) ++ (eP cI (N + 1) Eo2 Er2 En2 Ez2 EF2)) H := hP
                    have hD : va_D A ((xU cI cB cE o r n (va_up (va_up (va_up z 12 ((z 12) + 1)) 15 0) 16 (-1)) F G2 (Eo2 0 0)) ++ (eP cI (N + 1) Eo2 Er2 En2 Ez2 EF2)) := hD
                    refine W.eq (g2 := F0 m 106 ls []) rfl ?_
                    refine lv_aload_n hx hb dX5_entry_106 rfl (lv_at hl 0 rfl) ?_
                    refine va_get (D := (dC, dI)) (ci := 5) (v := .int (iz ((z 12) + 1))) (C := RX5) (T := TX5) (N := 16) hx hb hts kt_X5 hown hK hP 0 rfl rfl 2 (by decide) (kx_word hG kq_18_xrows_0 rfl) (fun _ h9 => h9) rfl dX5_entry_107 ?_
                    refine lv_iconst (v := iz 1) hx hb dX5_entry_110 (by decide) ?_
                    refine ki_isub hx hb dX5_entry_111 ?_
                    have hxz_56 : -2147483648 ≤ z 15 ∧ z 15 < 2147483648 := hok.2.2.2.1 15
                    have hxb_57 : z 15 = 0 ∨ z 15 = 1 := hok.2.2.2.2 15 (by decide)
                    have hxz_58 : -2147483648 ≤ z 16 ∧ z 16 < 2147483648 := hok.2.2.2.1 16
                    have hok59 : xOk n (va_up (va_up (va_up z 12 ((z 12) + 1)) 15 0) 16 (-1)) F := (((hok.s 12 (by decide) (show -2147483648 ≤ (z 12) + 1 ∧ (z 12) + 1 < 2147483648 by omega) (by omega)).s 15 (by decide) (show -2147483648 ≤ 0 ∧ 0 < 2147483648 by omega) (by omega)).s 16 (by decide) (show -2147483648 ≤ (-1) ∧ (-1) < 2147483648 by omega) (by omega))
                    have hfr59 : xFr [12, 15, 16] [] z F (va_up (va_up (va_up z 12 ((z 12) + 1)) 15 0) 16 (-1)) F := (((hfr.uz 12 (by decide) _).uz 15 (by decide) _).uz 16 (by decide) _)
                    refine vx_ret ?_
                    have hzq : (va_up (va_up (va_up z 12 ((z 12) + 1)) 15 0) 16 (-1)) 12 = z 12 + 1 := rfl
                    exact xk_iret (ov := (fun u : (Int) × (Nat → Int) × (Nat → Option Nat) × (Nat → Nat → Nat) × (Nat → Nat → Nat) × (Nat → Nat → Nat) × (Nat → Nat → Int) × (Nat → Nat → Int → Int) => match u with | (q, z', G', Eo', Er', En', Ez', EF') => some (.int (iz q)))) (post := (fun (u : (Int) × (Nat → Int) × (Nat → Option Nat) × (Nat → Nat → Nat) × (Nat → Nat → Nat) × (Nat → Nat → Nat) × (Nat → Nat → Int) × (Nat → Nat → Int → Int)) (dn dm : Nat) => match u with | (q, z', G', Eo', Er', En', Ez', EF') => xOk n z' F ∧ xFr [12, 15, 16] [] z F z' F ∧ xG (N + 1) (z' 12) G' Eo' ∧ eA (N + 1) En' Ez' EF' ∧ (dn ≤ 30 ∧ dm ≤ 60) ∧ q = z 12 ∧ z' 12 = z 12 + 1 ∧ ((p0 = 0 ∧ p1 = -1) ∨ ((p0 = 1 ∨ p0 = 2) ∧ 0 ≤ p1 ∧ p1 < z 12 ∧ Ez ((p1 + 1).toNat) 7 = p0 - 1)) ∧ (∀ j, j < N → Ez' j = Ez j ∧ EF' j = EF j) ∧ Ez' N 7 = p0 ∧ Ez' N 0 = 0 ∧ Ez' N 4 = 0 ∧ Ez' N 9 = -1 ∧ Ez' N 1 = 0 ∧ Ez' N 2 = 0)) (ws := (fun u : (Int) × (Nat → Int) × (Nat → Option Nat) × (Nat → Nat → Nat) × (Nat → Nat → Nat) × (Nat → Nat → Nat) × (Nat → Nat → Int) × (Nat → Nat → Int → Int) => match u with | (q, z', G', Eo', Er', En', Ez', EF') => (xU cI cB cE o r n z' F G' (Eo' 0 0) ++ eP cI (N + 1) Eo' Er' En' Ez' EF'))) (tys := xT cI cB cE) (z := ((z 12) + 1) - 1) (((z 12) + 1) - 1, (va_up (va_up (va_up z 12 ((z 12) + 1)) 15 0) 16 (-1)), G2, Eo2, Er2, En2, Ez2, EF2) hx hb hr rfl hlocks rfl hP hD hK hS dX5_entry_112 (fun dn dm hdn hdm => ⟨hok59, hfr59, ⟨by omega, by omega, by omega, fun e9 h9 => hN4b e9 (by omega)⟩, hPE9, ⟨by omega, by omega⟩, by omega, by omega, by omega, fun j hj => hel j hj, by rw [hen]; rfl, by rw [hen]; rfl, by rw [hen]; rfl, by rw [hen]; rfl, by rw [hen]; rfl, by rw [hen]; rfl⟩) (by omega) (by omega)
                  · omega
              · omega
            · skip
              refine ki_if_ne (tgt := 47) hx hb dX5_entry_36 (by decide) (by omega) (by omega) (fun c_60 => ?_) (fun c_60 => ?_)
              · omega
              · skip
                exact ky_thr_IAE hx hb hlf hown hG hZ hS (hl.1.trans hml.symm) dX5_entry_39 dX5_entry_42 dX5_entry_43 dX5_entry_46 htab (Nat.le_of_ble_eq_true rfl) (Nat.le_of_ble_eq_true rfl) (show 0 + 1 ≤ 60 from (by omega)) (show 0 + 6 ≤ 200 from (by omega)) hlocks (Or.inr (⟨rfl, by first | trivial | omega⟩)) (fun t hvm h1 h2 => ⟨(r, n, z, F, Er, En, Ez, EF), ⟨hok, xFr.rf, hPE, eFr.rf⟩, hP.kept (fun k q hk => h2 q.1 (hP k q hk).lt), va_K.moved hvm hK, hD⟩) hS.2.2 (by omega) (by omega) (by omega) (by omega)
      · omega
    · skip
      refine ki_if_ne (tgt := 21) hx hb dX5_entry_10 (by decide) (by omega) (by omega) (fun c_61 => ?_) (fun c_61 => ?_)
      · omega
      · skip
        exact ky_thr_NSE hx hb hlf hown hG hZ hS (hl.1.trans hml.symm) dX5_entry_13 dX5_entry_16 dX5_entry_17 dX5_entry_20 htab (Nat.le_of_ble_eq_true rfl) (Nat.le_of_ble_eq_true rfl) (show 0 + 1 ≤ 60 from (by omega)) (show 0 + 6 ≤ 200 from (by omega)) hlocks (Or.inl ⟨rfl, by first | trivial | omega⟩) (fun t hvm h1 h2 => ⟨(r, n, z, F, Er, En, Ez, EF), ⟨hok, xFr.rf, hPE, eFr.rf⟩, hP.kept (fun k q hk => h2 q.1 (hP k q hk).lt), va_K.moved hvm hK, hD⟩) hS.2.2 (by omega) (by omega) (by omega) (by omega)
