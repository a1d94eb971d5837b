/-! the landed class, exact: rows to see, with the room of the draft -/

set_option maxHeartbeats 4000000 in
set_option maxRecDepth 100000 in
theorem y_addSeenOf7 (l : Launch) (dC : Nat → ClassId) (dI : Nat → Nat → Nat) (cI cB cE : ClassId) (o r n : Nat → Nat) (z : Nat → Int) (F : Nat → Int → Int) (G : Nat → Option Nat) (N : Nat) (Eo Er En : Nat → Nat → Nat) (Ez : Nat → Nat → Int) (EF : Nat → Nat → Int → Int) (j1 : Nat) (sz : Nat) (hok : xOk n z F) (hxG : xG N (z 12) G Eo) (hPE : eA N En Ez EF) (hj_j1 : j1 < N) (hs : ∀ e, 0 ≤ e → e < z 12 → 0 ≤ rs_sE Ez e ∧ rs_sE Ez e ≤ e) (h79 : z 12 ≤ 78) (hse : ∀ k, 0 ≤ k → k < Ez j1 3 → 0 ≤ EF j1 3 k ∧ EF j1 3 k < z 12) (hDs0 : sn_D (F 2) (z 2) (z 12)) : Met l yX5_addSeenOf [.code yX5_addSeenOf cX5_addSeenOf 4 none] ({ frames := 3, cells := 150, slots := 60000, locals := 103 }) (va_Pc [.ref (o 15), .ref (Eo j1 4)] (kx_Pre dC dI (xU cI cB cE o r n z F G (Eo 0 0) ++ eP cI N Eo Er En Ez EF) (xT cI cB cE) sz)) (xQ (fun _ : (Nat → Nat) × (Nat → Nat) × (Nat → Int) × (Nat → Int → Int) × (Nat → Nat → Nat) × (Nat → Nat → Nat) × (Nat → Nat → Int) × (Nat → Nat → Int → Int) => none) (fun (u : (Nat → Nat) × (Nat → Nat) × (Nat → Int) × (Nat → Int → Int) × (Nat → Nat → Nat) × (Nat → Nat → Nat) × (Nat → Nat → Int) × (Nat → Nat → Int → Int)) (dn dm : Nat) => match u with | (r', n', z', F', Er', En', Ez', EF') => xR [2] [2] [] [] N z F En Ez EF n' z' F' En' Ez' EF' ∧ (dn + xg n' ≤ xg n + 0 ∧ dm + xp n' ≤ xp n + 0) ∧ n' 11 = n 11 ∧ (kf_ls (F' 2) 0 (z' 2).toNat = sn_s (rs_sE Ez) (fun _ k => EF j1 3 k) 0 (kf_ls (F 2) 0 (z 2).toNat) (Ez j1 3).toNat ∧ sn_D (F' 2) (z' 2) (z 12) ∧ Er = Er' ∧ En = En' ∧ Ez = Ez' ∧ EF = EF')) (fun u t => kx_At dC dI (va_A (xU cI cB cE o r n z F G (Eo 0 0) ++ eP cI N Eo Er En Ez EF) sz) ((fun u : (Nat → Nat) × (Nat → Nat) × (Nat → Int) × (Nat → Int → Int) × (Nat → Nat → Nat) × (Nat → Nat → Nat) × (Nat → Nat → Int) × (Nat → Nat → Int → Int) => match u with | (r', n', z', F', Er', En', Ez', EF') => (xU cI cB cE o r' n' z' F' G (Eo 0 0) ++ eP cI N Eo Er' En' Ez' EF')) u) (xT cI cB cE) t) (va_A (xU cI cB cE o r n z F G (Eo 0 0) ++ eP cI N Eo Er En Ez EF) sz)) 150 60000 (va_A (xU cI cB cE o r n z F G (Eo 0 0) ++ eP cI N Eo Er En Ez EF) sz) := by
  refine Met.ofW (cc := cX5_addSeenOf) (maxL := 4) (ret := none) (by decide) rfl ?_
  intro p e s m args below meth c s₁ B hml hv
  obtain ⟨rfl, hsz, hP, hK, hD0, hG, hZ⟩ := hv
  have hx := B.exec
  have hb := B.bytes
  have hr := B.returns
  have hts := kx_hts (a := ([.ref (o 15), .ref (Eo j1 4)] : List Value).toArray) hG
  have hown : s.vm.findClass RX5 = some m.cls := findClass_of_methodNamed B.named
  have hlocks := B.notSynchronized
  subst hsz
  have hD := hD0.self (sz := s.heap.size)
  generalize hAe : va_A (xU cI cB cE o r n z F G (Eo 0 0) ++ eP cI N Eo Er En Ez EF) s.heap.size = A at hD hZ ⊢
  have hA : ∀ q : Nat, s.heap.size ≤ q → A q := fun q h => by rw [← hAe]; exact Or.inr h
  have hS : va_S A s.heap s.heap [] := va_S.rf
  have hl := lv_entry ([.ref (o 15), .ref (Eo j1 4)]) (n := 4) (Nat.le_of_ble_eq_true rfl)
  rw [lg_entry_eq]
  generalize (lg_sl ([.ref (o 15), .ref (Eo j1 4)]) ++ List.replicate (4 - (lg_sl ([.ref (o 15), .ref (Eo j1 4)])).length) Slot.unset).toArray = ls at hl ⊢
  obtain ⟨hN1, hN2, hN3, hN4⟩ := hxG
  have hef : eFr [] [] En Ez EF En Ez EF := eFr.rf
  have hfr : xFr [2] [2] z F z F := xFr.rf
  have hxgl := xg_le n
  have hxpl := xp_le n
  have hl : lv_has ls 4 [(0, .ref (o 15)), (1, .ref (Eo j1 4))] := hl
  generalize hQe : MQ below (xQ (fun _ : (Nat → Nat) × (Nat → Nat) × (Nat → Int) × (Nat → Int → Int) × (Nat → Nat → Nat) × (Nat → Nat → Nat) × (Nat → Nat → Int) × (Nat → Nat → Int → Int) => none) (fun (u : (Nat → Nat) × (Nat → Nat) × (Nat → Int) × (Nat → Int → Int) × (Nat → Nat → Nat) × (Nat → Nat → Nat) × (Nat → Nat → Int) × (Nat → Nat → Int → Int)) (dn dm : Nat) => match u with | (r', n', z', F', Er', En', Ez', EF') => xR [2] [2] [] [] N z F En Ez EF n' z' F' En' Ez' EF' ∧ (dn + xg n' ≤ xg n + 0 ∧ dm + xp n' ≤ xp n + 0) ∧ n' 11 = n 11 ∧ (kf_ls (F' 2) 0 (z' 2).toNat = sn_s (rs_sE Ez) (fun _ k => EF j1 3 k) 0 (kf_ls (F 2) 0 (z 2).toNat) (Ez j1 3).toNat ∧ sn_D (F' 2) (z' 2) (z 12) ∧ Er = Er' ∧ En = En' ∧ Ez = Ez' ∧ EF = EF')) (fun u t => kx_At dC dI A ((fun u : (Nat → Nat) × (Nat → Nat) × (Nat → Int) × (Nat → Int → Int) × (Nat → Nat → Nat) × (Nat → Nat → Nat) × (Nat → Nat → Int) × (Nat → Nat → Int → Int) => match u with | (r', n', z', F', Er', En', Ez', EF') => (xU cI cB cE o r' n' z' F' G (Eo 0 0) ++ eP cI N Eo Er' En' Ez' EF')) u) (xT cI cB cE) t) A) ([.ref (o 15), .ref (Eo j1 4)] : List Value).toArray s 150 60000 A = QQ
  have hs3 : 0 ≤ Ez j1 3 ∧ Ez j1 3 ≤ (En j1 3 : Int) ∧ (En j1 3 : Int) ≤ 5 := (hPE j1 hj_j1).1 3 (by decide)
  refine lv_iconst (v := iz 0) hx hb dX5_addSeenOf_0 (by decide) ?_
  refine lv_istore_n (lv' := [(2, .int (iz 0)), (0, .ref (o 15)), (1, .ref (Eo j1 4))]) hx hb dX5_addSeenOf_1 rfl hl (by decide) rfl (fun ls hl => ?_)
  have lp2 : ∀ (n0 : Nat) (k : Int) (rL2 : Nat → Nat) (nL2 : Nat → Nat) (zL2 : Nat → Int) (FL2 : Nat → Int → Int) (cv : Nat) (sv : Nat), ((xR [2] [2] [] [] N z F En Ez EF nL2 zL2 FL2 En Ez EF) ∧ (cv + xg nL2 ≤ xg n + (0) ∧ sv + xp nL2 ≤ xp n + (0)) ∧ (zL2 12 = z 12) ∧ (nL2 11 = n 11) ∧ (0 ≤ k ∧ k ≤ Ez j1 3) ∧ (sn_D (FL2 2) (zL2 2) (z 12)) ∧ (kf_ls (FL2 2) 0 (zL2 2).toNat = sn_s (rs_sE Ez) (fun _ k => EF j1 3 k) 0 (kf_ls (F 2) 0 (z 2).toNat) k.toNat)) → (Ez j1 3 - k).toNat < n0 → ∀ (H : Heap) (locs : List Loc), va_P (dC, dI) kxCl ((xU cI cB cE o rL2 nL2 zL2 FL2 G (Eo 0 0)) ++ (eP cI N Eo Er En Ez EF)) H → va_D A ((xU cI cB cE o rL2 nL2 zL2 FL2 G (Eo 0 0)) ++ (eP cI N Eo Er En Ez EF)) → va_S A s.heap H locs → ∀ ls : Array Slot, lv_has ls 4 [(2, .int (iz k)), (0, .ref (o 15)), (1, .ref (Eo j1 4))] → W p l e (headSpec [.code yX5_addSeenOf cX5_addSeenOf 4 none] ({ frames := 3, cells := 150, slots := 60000, locals := 103 })).room s m ([.ref (o 15), .ref (Eo j1 4)] : List Value).toArray below meth c H locs cv sv QQ (F0 m 2 ls []) := by
    intro n0
    induction n0 with
    | zero => intro k rL2 nL2 zL2 FL2 cv sv hinv hm0; exact absurd hm0 (Nat.not_lt_zero _)
    | succ n0 ih2 =>
      intro k rL2 nL2 zL2 FL2 cv sv hinv hm0 H locs hP hD hS ls hl
      obtain ⟨hRLL2, hCLL2, hZLL2, hn11L2, hk, hD9, hl9⟩ := hinv
      have hz29 : 0 ≤ zL2 2 ∧ zL2 2 ≤ (nL2 2 : Int) ∧ (nL2 2 : Int) ≤ 80 := hRLL2.1.1 2 (by decide)
      have hfew := sn_D_few hD9 (by omega) (show 0 ≤ z 12 by omega)
      refine lv_iload_n hx hb dX5_addSeenOf_2 rfl (lv_at hl 0 rfl) ?_
      refine lv_aload_n hx hb dX5_addSeenOf_3 rfl (lv_at hl 2 rfl) ?_
      have hP := eP_foc hj_j1 hP
      have hD := eD_foc hj_j1 hD
      have he_1 : 0 ≤ Ez j1 3 ∧ Ez j1 3 ≤ ((En j1 3 : Nat) : Int) ∧ ((En j1 3 : Nat) : Int) ≤ 5 := (hRLL2.2.2.1 j1 hj_j1).1 3 (by decide)
      have hPc := hP.sub (ws' := (iU cI 5 (Eo j1 4) (Er j1 3) (En j1 3) (Ez j1 3) (EF j1 3))) [36, 37] rfl
      refine xk_pure (va_runV (As := []) (rest := [.int (iz k)]) ⟨hx, hb, hml, hown, hts⟩ (x_size l dC dI cI cB cE 5 (Eo j1 4) (Er j1 3) (En j1 3) (Ez j1 3) (EF j1 3)  H.size ) (cwV 0 hts (kx_gV kq_18_xrows_40 kq_15_xspan_10 kq_15_xspan_11 kq_13_xints_6 kq_15_xspan_12 rfl) rfl rfl rfl (by decide +kernel) ⟨Nat.le_of_ble_eq_true rfl, Nat.le_of_ble_eq_true rfl⟩) ⟨pPre_blind, va_recv hK hPc (ci := 1) (q0 := 0) rfl rfl, pPre_give hPc hK hG⟩ rfl rfl hl.1 rfl (lv_room (Nat.le_of_ble_eq_true rfl)) dX5_addSeenOf_4 ⟨show cv + 0 ≤ 150 from (by omega), show sv + 0 ≤ 60000 from (by omega)⟩) hS (fun z_3 locs hq_2 hS => ?_)
      refine W.eq (g2 := F0 m 7 ls [.int (iz z_3), .int (iz k)]) rfl ?_
      try dsimp only at hq_2
      have hq_2 := hq_2.symm
      subst hq_2
      refine ki_icmp_ge (tgt := 45) hx hb dX5_addSeenOf_7 (by decide) (by omega) (by omega) (by omega) (by omega) (fun c_4 => ?_) (fun c_4 => ?_)
      · skip
        have hP := eP_un0 hj_j1 hP
        have hD := eD_un0 hj_j1 hD
        rw [← hQe]
        exact xk_vret (ov := (fun _ : (Nat → Nat) × (Nat → Nat) × (Nat → Int) × (Nat → Int → Int) × (Nat → Nat → Nat) × (Nat → Nat → Nat) × (Nat → Nat → Int) × (Nat → Nat → Int → Int) => none)) (post := (fun (u : (Nat → Nat) × (Nat → Nat) × (Nat → Int) × (Nat → Int → Int) × (Nat → Nat → Nat) × (Nat → Nat → Nat) × (Nat → Nat → Int) × (Nat → Nat → Int → Int)) (dn dm : Nat) => match u with | (r', n', z', F', Er', En', Ez', EF') => xR [2] [2] [] [] N z F En Ez EF n' z' F' En' Ez' EF' ∧ (dn + xg n' ≤ xg n + 0 ∧ dm + xp n' ≤ xp n + 0) ∧ n' 11 = n 11 ∧ (kf_ls (F' 2) 0 (z' 2).toNat = sn_s (rs_sE Ez) (fun _ k => EF j1 3 k) 0 (kf_ls (F 2) 0 (z 2).toNat) (Ez j1 3).toNat ∧ sn_D (F' 2) (z' 2) (z 12) ∧ Er = Er' ∧ En = En' ∧ Ez = Ez' ∧ EF = EF'))) (ws := (fun u : (Nat → Nat) × (Nat → Nat) × (Nat → Int) × (Nat → Int → Int) × (Nat → Nat → Nat) × (Nat → Nat → Nat) × (Nat → Nat → Int) × (Nat → Nat → Int → Int) => match u with | (r', n', z', F', Er', En', Ez', EF') => (xU cI cB cE o r' n' z' F' G (Eo 0 0) ++ eP cI N Eo Er' En' Ez' EF'))) (tys := xT cI cB cE) (rL2, nL2, zL2, FL2, Er, En, Ez, EF) hx hb hr hlocks rfl hP hD hK hS dX5_addSeenOf_45 (fun dn dm hdn hdm => ⟨⟨hRLL2.1, hRLL2.2.1, hRLL2.2.2.1, hRLL2.2.2.2⟩, ⟨by omega, by omega⟩, ⟨(show nL2 11 = n 11 by omega), ⟨(by rw [show (Ez j1 3).toNat = k.toNat by omega]; exact hl9), hD9, rfl, rfl, rfl, rfl⟩⟩⟩) (by omega) (by omega)
      · skip
        refine lv_aload_n hx hb dX5_addSeenOf_10 rfl (lv_at hl 1 rfl) ?_
        refine lv_aload_n hx hb dX5_addSeenOf_11 rfl (lv_at hl 2 rfl) ?_
        refine lv_iload_n hx hb dX5_addSeenOf_12 rfl (lv_at hl 0 rfl) ?_
        have hPc := hP.sub (ws' := (iU cI 5 (Eo j1 4) (Er j1 3) (En j1 3) (Ez j1 3) (EF j1 3))) [36, 37] rfl
        refine xk_pure (va_runV (As := [.int (iz k)]) (rest := [.ref (o 15)]) ⟨hx, hb, hml, hown, hts⟩ (x_get l dC dI cI cB cE 5 (Eo j1 4) (Er j1 3) (En j1 3) (Ez j1 3) (EF j1 3) k H.size (by omega) ((hRLL2.2.2.1 j1 hj_j1).2.1 3) (by omega) (by omega)) (cwV 1 hts (kx_gV kq_18_xrows_41 kq_13_xints_4 kq_13_xints_5 kq_13_xints_6 kq_13_xints_7 rfl) rfl rfl rfl (by decide +kernel) ⟨Nat.le_of_ble_eq_true rfl, Nat.le_of_ble_eq_true rfl⟩) ⟨pPre_blind, va_recv hK hPc (ci := 1) (q0 := 0) rfl rfl, pPre_give hPc hK hG⟩ rfl rfl hl.1 rfl (lv_room (Nat.le_of_ble_eq_true rfl)) dX5_addSeenOf_13 ⟨show cv + 0 ≤ 150 from (by omega), show sv + 0 ≤ 60000 from (by omega)⟩) hS (fun z_6 locs hq_5 hS => ?_)
        refine W.eq (g2 := F0 m 16 ls [.int (iz z_6), .ref (o 15)]) rfl ?_
        try dsimp only at hq_5
        have hse9 := hse k (by omega) (by omega)
        have ev_7 : z_6 = EF j1 3 k := by omega
        subst ev_7
        refine W.eq (g2 := F0 m 16 ls [.int (iz (EF j1 3 k)), .ref (o 15)]) rfl ?_
        replace hq_5 := fun (_ : Unit) => hq_5
        have hP := eP_un0 hj_j1 hP
        have hD := eD_un0 hj_j1 hD
        have hxz_8 : -2147483648 ≤ zL2 12 ∧ zL2 12 < 2147483648 := hRLL2.1.2.2.2.1 12
        have hxG9 : xG N (zL2 12) G Eo := ⟨by omega, by omega, by omega, fun e9 h9 => hN4 e9 (by omega)⟩
        have hP : va_P (dC, dI) kxCl (xU cI cB cE o rL2 nL2 zL2 FL2 G (Eo 0 0) ++ eP cI N Eo Er En Ez EF) H := hP
        refine xk_pure (va_runV (As := [.int (iz (EF j1 3 k))]) (rest := []) ⟨hx, hb, hml, hown, hts⟩ (y_firstOf2 l dC dI cI cB cE o rL2 nL2 zL2 FL2 G N Eo Er En Ez EF (EF j1 3 k) H.size hRLL2.1 hxG9 hRLL2.2.2.1 (by omega) (by omega)) (cwV 1 hts (kx_gV kq_18_xrows_15 kq_18_xrows_16 kq_18_xrows_17 kq_18_xrows_4 kq_18_xrows_18 rfl) rfl rfl rfl (by decide +kernel) ⟨Nat.le_of_ble_eq_true rfl, Nat.le_of_ble_eq_true rfl⟩) ⟨pPre_blind, va_recv hK hP (ci := 5) (q0 := 0) rfl rfl, pPre_give hP hK hG⟩ rfl rfl hl.1 rfl (lv_room (Nat.le_of_ble_eq_true rfl)) dX5_addSeenOf_16 ⟨show cv + 0 ≤ 150 from (by omega), show sv + 0 ≤ 60000 from (by omega)⟩) hS (fun z_10 locs hq_9 hS => ?_)
        refine W.eq (g2 := F0 m 19 ls [.int (iz z_10)]) rfl ?_
        try dsimp only at hq_9
        obtain ⟨hq_9, hq_9b⟩ := hq_9
        subst hq_9
        refine W.eq (g2 := F0 m 19 ls [.int (iz (rs_fo (zL2 12) Ez (EF j1 3 k)))]) rfl ?_
        have hf9 := hs (EF j1 3 k) (by omega) (by omega)
        have ef9 : rs_fo (zL2 12) Ez (EF j1 3 k) = rs_sE Ez (EF j1 3 k) := if_pos (by omega)
        rw [ef9]
        refine W.eq (g2 := F0 m 19 ls [.int (iz (rs_sE Ez (EF j1 3 k)))]) rfl ?_
        refine lv_istore_n (lv' := [(3, .int (iz (rs_sE Ez (EF j1 3 k)))), (2, .int (iz k)), (0, .ref (o 15)), (1, .ref (Eo j1 4))]) hx hb dX5_addSeenOf_19 rfl hl (by decide) rfl (fun ls hl => ?_)
        refine lv_aload_n hx hb dX5_addSeenOf_20 rfl (lv_at hl 2 rfl) ?_
        refine va_get (D := (dC, dI)) (ci := 5) (v := .ref (o 2)) (C := RX5) (T := TX5) (N := 16) hx hb hts kt_X5 hown hK hP 0 rfl rfl 11 (by decide) (kx_word hG kq_19_xouts_27 rfl) (fun _ h9 => h9) rfl dX5_addSeenOf_21 ?_
        refine lv_iload_n hx hb dX5_addSeenOf_24 rfl (lv_at hl 0 rfl) ?_
        have hxi_11 : 0 ≤ zL2 2 ∧ zL2 2 ≤ ((nL2 2 : Nat) : Int) ∧ ((nL2 2 : Nat) : Int) ≤ 80 := hRLL2.1.1 2 (by decide)
        have hPc := hP.sub (ws' := (iU cI 80 (o 2) (rL2 2) (nL2 2) (zL2 2) (FL2 2))) [6, 7] rfl
        refine xk_pure (va_runV (As := [.int (iz (rs_sE Ez (EF j1 3 k)))]) (rest := []) ⟨hx, hb, hml, hown, hts⟩ (x_has2 l dC dI cI cB cE 80 (o 2) (rL2 2) (nL2 2) (zL2 2) (FL2 2) (rs_sE Ez (EF j1 3 k)) H.size (by omega) (hRLL2.1.2.2.1 2) (by omega) (by omega)) (cwV 1 hts (kx_gV kq_19_xouts_28 kq_19_xouts_29 kq_19_xouts_30 kq_13_xints_6 kq_19_xouts_31 rfl) rfl rfl rfl (by decide +kernel) ⟨Nat.le_of_ble_eq_true rfl, Nat.le_of_ble_eq_true rfl⟩) ⟨pPre_blind, va_recv hK hPc (ci := 1) (q0 := 0) rfl rfl, pPre_give hPc hK hG⟩ rfl rfl hl.1 rfl (lv_room (Nat.le_of_ble_eq_true rfl)) dX5_addSeenOf_25 ⟨show cv + 0 ≤ 150 from (by omega), show sv + 0 ≤ 60000 from (by omega)⟩) hS (fun z_13 locs hq_12 hS => ?_)
        refine W.eq (g2 := F0 m 28 ls [.int (iz z_13)]) rfl ?_
        try dsimp only at hq_12
        rcases hq_12 with ⟨rfl, hq_12⟩ | ⟨rfl, hq_12⟩
        · skip
          refine ki_if_ne (tgt := 39) hx hb dX5_addSeenOf_28 (by decide) (by omega) (by omega) (fun c_14 => ?_) (fun c_14 => ?_)
          · skip
            refine lv_iinc (v := iz (k + 1)) (lv' := [(2, .int (iz (k + 1))), (3, .int (iz (rs_sE Ez (EF j1 3 k)))), (0, .ref (o 15)), (1, .ref (Eo j1 4))]) hx hb dX5_addSeenOf_39 hl (k := 1) rfl (iz_add k 1) (by decide) rfl (fun ls hl => ?_)
            refine lv_goto (tgt := 2) hx hb dX5_addSeenOf_42 (by decide) ?_
            exact ih2 (k + 1) rL2 nL2 zL2 FL2 cv sv ⟨⟨hRLL2.1, hRLL2.2.1, hRLL2.2.2.1, hRLL2.2.2.2⟩, ⟨by omega, by omega⟩, (show zL2 12 = z 12 by omega), (show nL2 11 = n 11 by omega), by omega, hD9, (by rw [sn_s_s (by omega), ← hl9]; exact (sn_ad_y (kf_ls_mem.mpr (by obtain ⟨i, a, b, c⟩ := hq_12; exact ⟨i, a, by omega, c⟩))).symm)⟩ (by omega) _ _ hP hD hS ls (lv_sub hl [0, 2, 3] rfl)
          · omega
        · skip
          refine ki_if_ne (tgt := 39) hx hb dX5_addSeenOf_28 (by decide) (by omega) (by omega) (fun c_15 => ?_) (fun c_15 => ?_)
          · omega
          · skip
            refine lv_aload_n hx hb dX5_addSeenOf_31 rfl (lv_at hl 2 rfl) ?_
            refine va_get (D := (dC, dI)) (ci := 5) (v := .ref (o 2)) (C := RX5) (T := TX5) (N := 16) hx hb hts kt_X5 hown hK hP 0 rfl rfl 11 (by decide) (kx_word hG kq_19_xouts_27 rfl) (fun _ h9 => h9) rfl dX5_addSeenOf_32 ?_
            refine lv_iload_n hx hb dX5_addSeenOf_35 rfl (lv_at hl 0 rfl) ?_
            have hPc := hP.sub (ws' := (iU cI 80 (o 2) (rL2 2) (nL2 2) (zL2 2) (FL2 2))) [6, 7] rfl
            have hDc := hD.sub (ws' := (iU cI 80 (o 2) (rL2 2) (nL2 2) (zL2 2) (FL2 2))) [6, 7] (by decide) rfl
            have hFc := va_free (wc := (iU cI 80 (o 2) (rL2 2) (nL2 2) (zL2 2) (FL2 2))) hD hS hA [6, 7] rfl
            refine xk_call (va_runV (As := [.int (iz (rs_sE Ez (EF j1 3 k)))]) (rest := []) ⟨hx, hb, hml, hown, hts⟩ (x_add l dC dI cI cB cE 80 (o 2) (rL2 2) (nL2 2) (zL2 2) (FL2 2) (rs_sE Ez (EF j1 3 k)) H.size (by omega) (hRLL2.1.2.2.1 2) (by omega) (by omega)) (cwV 1 hts (kx_gV kq_18_xrows_39 kq_15_xspan_46 kq_15_xspan_47 kq_13_xints_6 kq_15_xspan_48 rfl) rfl rfl rfl (by decide +kernel) ⟨Nat.le_of_ble_eq_true rfl, Nat.le_of_ble_eq_true rfl⟩) ⟨kx_blind, va_recv hK hPc (ci := 1) (q0 := 0) rfl rfl, kx_give (ws := []) (tys := []) hPc hDc hK hG hZ hS hFc⟩ rfl rfl hl.1 rfl (lv_room (Nat.le_of_ble_eq_true rfl)) dX5_addSeenOf_36 ⟨show cv + 1 ≤ 150 from (by omega), show sv + 1600 ≤ 60000 from (by omega)⟩) hS (fun q _ h => hFc q h) hFc (fun u dn_17 dm_18 t H locs ht hvm hq_16 hB hk1 hS => ?_)
            obtain ⟨r_19, n_20, z_21, F_22⟩ := u
            obtain ⟨hP1, hK1, hD1⟩ := hB
            rw [ht] at hP1
            obtain ⟨hP, hD⟩ := xj_pool (wr := [(o 15, .inr (5, [.ref (o 16), .ref (Eo 0 0), .int (iz (zL2 12)), .int (iz (zL2 13)), .int (iz (zL2 14)), .ref (o 0), .ref (o 1), .int (iz (zL2 15)), .ref (o 13), .ref (o 14), .int (iz (zL2 16)), .ref (o 2), .ref (o 12), .ref (o 3), .ref (o 10), .ref (o 11)])), (o 16, .inl (cE, 80, .inr (.inr (.inr (.inr G))))), (o 0, .inr (1, [.int (iz 80), .ref (rL2 0), .int (iz (zL2 0))])), (rL2 0, .inl (cI, nL2 0, .inl (iA (FL2 0)))), (o 1, .inr (1, [.int (iz 80), .ref (rL2 1), .int (iz (zL2 1))])), (rL2 1, .inl (cI, nL2 1, .inl (iA (FL2 1)))), (o 3, .inr (1, [.int (iz 80), .ref (rL2 3), .int (iz (zL2 3))])), (rL2 3, .inl (cI, nL2 3, .inl (iA (FL2 3)))), (o 13, .inr (3, [.ref (o 4), .ref (o 5), .ref (o 6)])), (o 4, .inr (1, [.int (iz 1600), .ref (rL2 4), .int (iz (zL2 4))])), (rL2 4, .inl (cI, nL2 4, .inl (iA (FL2 4)))), (o 5, .inr (1, [.int (iz 1600), .ref (rL2 5), .int (iz (zL2 5))])), (rL2 5, .inl (cI, nL2 5, .inl (iA (FL2 5)))), (o 6, .inr (1, [.int (iz 1600), .ref (rL2 6), .int (iz (zL2 6))])), (rL2 6, .inl (cI, nL2 6, .inl (iA (FL2 6)))), (o 14, .inr (3, [.ref (o 7), .ref (o 8), .ref (o 9)])), (o 7, .inr (1, [.int (iz 1600), .ref (rL2 7), .int (iz (zL2 7))])), (rL2 7, .inl (cI, nL2 7, .inl (iA (FL2 7)))), (o 8, .inr (1, [.int (iz 1600), .ref (rL2 8), .int (iz (zL2 8))])), (rL2 8, .inl (cI, nL2 8, .inl (iA (FL2 8)))), (o 9, .inr (1, [.int (iz 1600), .ref (rL2 9), .int (iz (zL2 9))])), (rL2 9, .inl (cI, nL2 9, .inl (iA (FL2 9)))), (o 12, .inr (4, [.int (iz (zL2 17)), .int (iz (zL2 18)), .int (iz (zL2 19)), .int (iz (zL2 20)), .int (iz (zL2 21))])), (o 10, .inr (2, [.ref (rL2 10), .int (iz (zL2 10)), .int (iz (zL2 22))])), (rL2 10, .inl (cB, nL2 10, .inl (iA (FL2 10)))), (o 11, .inr (2, [.ref (rL2 11), .int (iz (zL2 11)), .int (iz (zL2 23))])), (rL2 11, .inl (cB, nL2 11, .inl (iA (FL2 11))))]) (w1 := (iU cI 80 (o 2) r_19 n_20 z_21 F_22)) (ws' := (xU cI cB cE o (va_up rL2 2 r_19) (va_up nL2 2 n_20) (va_up zL2 2 z_21) (va_up FL2 2 F_22) G (Eo 0 0))) hP hD [6, 7] [0, 1, 2, 3, 4, 5, 8, 9, 10, 11, 12, 13, 14, 15, 16, 17, 18, 19, 20, 21, 22, 23, 24, 25, 26, 27, 28] [0, 1, 2, 3, 4, 5, 27, 28, 6, 7, 8, 9, 10, 11, 12, 13, 14, 15, 16, 17, 18, 19, 20, 21, 22, 23, 24, 25, 26] rfl rfl (by decide) (by decide) hk1 hFc hP1 hD1 rfl (by decide)
            refine W.eq (g2 := F0 m 39 ls []) rfl ?_
            try dsimp only at hq_16
            obtain ⟨ha23, hb23, hc23, hd23⟩ := hq_16
            have hax23 := hd23.1
            obtain ⟨hl1, hl2⟩ := kf_ls_add (by omega) (by omega) hd23
            refine lv_iinc (v := iz (k + 1)) (lv' := [(2, .int (iz (k + 1))), (3, .int (iz (rs_sE Ez (EF j1 3 k)))), (0, .ref (o 15)), (1, .ref (Eo j1 4))]) hx hb dX5_addSeenOf_39 hl (k := 1) rfl (iz_add k 1) (by decide) rfl (fun ls hl => ?_)
            refine lv_goto (tgt := 2) hx hb dX5_addSeenOf_42 (by decide) ?_
            have hok24 : xOk (va_up nL2 2 n_20) (va_up zL2 2 z_21) (va_up FL2 2 F_22) := (hRLL2.1.i 2 (by decide) (show 0 ≤ z_21 ∧ z_21 ≤ ((n_20 : Nat) : Int) ∧ ((n_20 : Nat) : Int) ≤ 80 by omega) hb23)
            have hfr24 : xFr [2] [2] z F (va_up zL2 2 z_21) (va_up FL2 2 F_22) := ((hRLL2.2.1.uz 2 (by decide) _).uf 2 (by decide) _)
            have hcg24 : (dn_17) + xg (va_up nL2 2 n_20) ≤ xg nL2 := by unfold xg; simp (decide := true) only [va_ev, ↓reduceIte]; omega
            have hcp24 : (dm_18) + xp (va_up nL2 2 n_20) ≤ xp nL2 := by unfold xp; simp (decide := true) only [va_ev, ↓reduceIte]; omega
            exact ih2 (k + 1) (va_up rL2 2 r_19) (va_up nL2 2 n_20) (va_up zL2 2 z_21) (va_up FL2 2 F_22) (cv + dn_17) (sv + dm_18) ⟨⟨hok24, hfr24, hRLL2.2.2.1, hRLL2.2.2.2⟩, ⟨by omega, by omega⟩, (show zL2 12 = z 12 by omega), (show nL2 11 = n 11 by omega), by omega, (show sn_D (F_22) (z_21) (z 12) from sn_D_add hD9 (by omega) (by omega) hd23 (by omega) hq_12), (by rw [sn_s_s (by omega), ← hl9]; show kf_ls (F_22) 0 (z_21).toNat = _; rw [hl2]; exact (sn_ad_n (fun h9 => by obtain ⟨i, a, b, c⟩ := kf_ls_mem.mp h9; exact hq_12 i a (by omega) c)).symm)⟩ (by omega) _ _ hP hD hS ls (lv_sub hl [0, 2, 3] rfl)
  exact lp2 _ 0 r n z F 0 0 ⟨⟨hok, hfr, hPE, hef⟩, ⟨by omega, by omega⟩, (show z 12 = z 12 by omega), (show n 11 = n 11 by omega), by omega, hDs0, rfl⟩ (Nat.lt_succ_self _) _ _ hP hD hS ls (lv_sub hl [0, 1, 2] rfl)
set_option maxHeartbeats 4000000 in
set_option maxRecDepth 100000 in
theorem y_findSeen7 (l : Launch) (dC : Nat → ClassId) (dI : Nat → Nat → Nat) (cI cB cE : ClassId) (o r n : Nat → Nat) (z : Nat → Int) (F : Nat → Int → Int) (G : Nat → Option Nat) (N : Nat) (Eo Er En : Nat → Nat → Nat) (Ez : Nat → Nat → Int) (EF : Nat → Nat → Int → Int) (p0 : Int) (sz : Nat) (hok : xOk n z F) (hxG : xG N (z 12) G Eo) (hPE : eA N En Ez EF) (hp01 : -2147483648 ≤ p0) (hp02 : p0 < 2147483648) (hs : ∀ e, 0 ≤ e → e < z 12 → 0 ≤ rs_sE Ez e ∧ rs_sE Ez e ≤ e) (h79 : z 12 ≤ 78) (sH : sn_H (z 12) Ez EF) : Met l yX5_findSeen [.code yX5_findSeen cX5_findSeen 3 none] ({ frames := 4, cells := 260, slots := 110000, locals := 126 }) (va_Pc [.ref (o 15), .int (iz p0)] (kx_Pre dC dI (xU cI cB cE o r n z F G (Eo 0 0) ++ eP cI N Eo Er En Ez EF) (xT cI cB cE) sz)) (xQ (fun _ : (Nat → Nat) × (Nat → Nat) × (Nat → Int) × (Nat → Int → Int) × (Nat → Nat → Nat) × (Nat → Nat → Nat) × (Nat → Nat → Int) × (Nat → Nat → Int → Int) => none) (fun (u : (Nat → Nat) × (Nat → Nat) × (Nat → Int) × (Nat → Int → Int) × (Nat → Nat → Nat) × (Nat → Nat → Nat) × (Nat → Nat → Int) × (Nat → Nat → Int → Int)) (dn dm : Nat) => match u with | (r', n', z', F', Er', En', Ez', EF') => xR [2] [2] [] [] N z F En Ez EF n' z' F' En' Ez' EF' ∧ (dn + xg n' ≤ xg n + 0 ∧ dm + xp n' ≤ xp n + 0) ∧ n' 11 = n 11 ∧ (kf_ls (F' 2) 0 (z' 2).toNat = sn_r (rs_sE Ez) (sn_c Ez) (sn_f EF) p0 (z 12).toNat ∧ Er = Er' ∧ En = En' ∧ Ez = Ez' ∧ EF = EF')) (fun u t => kx_At dC dI (va_A (xU cI cB cE o r n z F G (Eo 0 0) ++ eP cI N Eo Er En Ez EF) sz) ((fun u : (Nat → Nat) × (Nat → Nat) × (Nat → Int) × (Nat → Int → Int) × (Nat → Nat → Nat) × (Nat → Nat → Nat) × (Nat → Nat → Int) × (Nat → Nat → Int → Int) => match u with | (r', n', z', F', Er', En', Ez', EF') => (xU cI cB cE o r' n' z' F' G (Eo 0 0) ++ eP cI N Eo Er' En' Ez' EF')) u) (xT cI cB cE) t) (va_A (xU cI cB cE o r n z F G (Eo 0 0) ++ eP cI N Eo Er En Ez EF) sz)) 260 110000 (va_A (xU cI cB cE o r n z F G (Eo 0 0) ++ eP cI N Eo Er En Ez EF) sz) := by
  refine Met.ofW (cc := cX5_findSeen) (maxL := 3) (ret := none) (by decide) rfl ?_
  intro p e s m args below meth c s₁ B hml hv
  obtain ⟨rfl, hsz, hP, hK, hD0, hG, hZ⟩ := hv
  have hx := B.exec
  have hb := B.bytes
  have hr := B.returns
  have hts := kx_hts (a := ([.ref (o 15), .int (iz p0)] : List Value).toArray) hG
  have hown : s.vm.findClass RX5 = some m.cls := findClass_of_methodNamed B.named
  have hlocks := B.notSynchronized
  subst hsz
  have hD := hD0.self (sz := s.heap.size)
  generalize hAe : va_A (xU cI cB cE o r n z F G (Eo 0 0) ++ eP cI N Eo Er En Ez EF) s.heap.size = A at hD hZ ⊢
  have hA : ∀ q : Nat, s.heap.size ≤ q → A q := fun q h => by rw [← hAe]; exact Or.inr h
  have hS : va_S A s.heap s.heap [] := va_S.rf
  have hl := lv_entry ([.ref (o 15), .int (iz p0)]) (n := 3) (Nat.le_of_ble_eq_true rfl)
  rw [lg_entry_eq]
  generalize (lg_sl ([.ref (o 15), .int (iz p0)]) ++ List.replicate (3 - (lg_sl ([.ref (o 15), .int (iz p0)])).length) Slot.unset).toArray = ls at hl ⊢
  obtain ⟨hN1, hN2, hN3, hN4⟩ := hxG
  have hef : eFr [] [] En Ez EF En Ez EF := eFr.rf
  have hfr : xFr [2] [2] z F z F := xFr.rf
  have hxgl := xg_le n
  have hxpl := xp_le n
  have hl : lv_has ls 3 [(0, .ref (o 15)), (1, .int (iz p0))] := hl
  generalize hQe : MQ below (xQ (fun _ : (Nat → Nat) × (Nat → Nat) × (Nat → Int) × (Nat → Int → Int) × (Nat → Nat → Nat) × (Nat → Nat → Nat) × (Nat → Nat → Int) × (Nat → Nat → Int → Int) => none) (fun (u : (Nat → Nat) × (Nat → Nat) × (Nat → Int) × (Nat → Int → Int) × (Nat → Nat → Nat) × (Nat → Nat → Nat) × (Nat → Nat → Int) × (Nat → Nat → Int → Int)) (dn dm : Nat) => match u with | (r', n', z', F', Er', En', Ez', EF') => xR [2] [2] [] [] N z F En Ez EF n' z' F' En' Ez' EF' ∧ (dn + xg n' ≤ xg n + 0 ∧ dm + xp n' ≤ xp n + 0) ∧ n' 11 = n 11 ∧ (kf_ls (F' 2) 0 (z' 2).toNat = sn_r (rs_sE Ez) (sn_c Ez) (sn_f EF) p0 (z 12).toNat ∧ Er = Er' ∧ En = En' ∧ Ez = Ez' ∧ EF = EF')) (fun u t => kx_At dC dI A ((fun u : (Nat → Nat) × (Nat → Nat) × (Nat → Int) × (Nat → Int → Int) × (Nat → Nat → Nat) × (Nat → Nat → Nat) × (Nat → Nat → Int) × (Nat → Nat → Int → Int) => match u with | (r', n', z', F', Er', En', Ez', EF') => (xU cI cB cE o r' n' z' F' G (Eo 0 0) ++ eP cI N Eo Er' En' Ez' EF')) u) (xT cI cB cE) t) A) ([.ref (o 15), .int (iz p0)] : List Value).toArray s 260 110000 A = QQ
  refine lv_aload_n hx hb dX5_findSeen_0 rfl (lv_at hl 0 rfl) ?_
  refine va_get (D := (dC, dI)) (ci := 5) (v := .ref (o 2)) (C := RX5) (T := TX5) (N := 16) hx hb hts kt_X5 hown hK hP 0 rfl rfl 11 (by decide) (kx_word hG kq_19_xouts_27 rfl) (fun _ h9 => h9) rfl dX5_findSeen_1 ?_
  have hxi_1 : 0 ≤ z 2 ∧ z 2 ≤ ((n 2 : Nat) : Int) ∧ ((n 2 : Nat) : Int) ≤ 80 := hok.1 2 (by decide)
  have hPc := hP.sub (ws' := (iU cI 80 (o 2) (r 2) (n 2) (z 2) (F 2))) [6, 7] rfl
  have hDc := hD.sub (ws' := (iU cI 80 (o 2) (r 2) (n 2) (z 2) (F 2))) [6, 7] (by decide) rfl
  have hFc := va_free (wc := (iU cI 80 (o 2) (r 2) (n 2) (z 2) (F 2))) hD hS hA [6, 7] rfl
  refine xk_call (va_runV (As := []) (rest := []) ⟨hx, hb, hml, hown, hts⟩ (x_clear l dC dI cI cB cE 80 (o 2) (r 2) (n 2) (z 2) (F 2)  s.heap.size ) (cwV 0 hts (kx_gV kq_18_xrows_38 kq_15_xspan_42 kq_15_xspan_43 kq_13_xints_6 kq_15_xspan_44 rfl) rfl rfl rfl (by decide +kernel) ⟨Nat.le_of_ble_eq_true rfl, Nat.le_of_ble_eq_true rfl⟩) ⟨kx_blind, va_recv hK hPc (ci := 1) (q0 := 0) rfl rfl, kx_give (ws := []) (tys := []) hPc hDc hK hG hZ hS hFc⟩ rfl rfl hl.1 rfl (lv_room (Nat.le_of_ble_eq_true rfl)) dX5_findSeen_4 ⟨show 0 + 0 ≤ 260 from (by omega), show 0 + 0 ≤ 110000 from (by omega)⟩) hS (fun q _ h => hFc q h) hFc (fun u dn_3 dm_4 t H locs ht hvm hq_2 hB hk1 hS => ?_)
  obtain ⟨z_5, rfl⟩ : ∃ z, z = u := ⟨_, rfl⟩
  obtain ⟨hP1, hK1, hD1⟩ := hB
  rw [ht] at hP1
  obtain ⟨hP, hD⟩ := xj_pool (wr := [(o 15, .inr (5, [.ref (o 16), .ref (Eo 0 0), .int (iz (z 12)), .int (iz (z 13)), .int (iz (z 14)), .ref (o 0), .ref (o 1), .int (iz (z 15)), .ref (o 13), .ref (o 14), .int (iz (z 16)), .ref (o 2), .ref (o 12), .ref (o 3), .ref (o 10), .ref (o 11)])), (o 16, .inl (cE, 80, .inr (.inr (.inr (.inr G))))), (o 0, .inr (1, [.int (iz 80), .ref (r 0), .int (iz (z 0))])), (r 0, .inl (cI, n 0, .inl (iA (F 0)))), (o 1, .inr (1, [.int (iz 80), .ref (r 1), .int (iz (z 1))])), (r 1, .inl (cI, n 1, .inl (iA (F 1)))), (o 3, .inr (1, [.int (iz 80), .ref (r 3), .int (iz (z 3))])), (r 3, .inl (cI, n 3, .inl (iA (F 3)))), (o 13, .inr (3, [.ref (o 4), .ref (o 5), .ref (o 6)])), (o 4, .inr (1, [.int (iz 1600), .ref (r 4), .int (iz (z 4))])), (r 4, .inl (cI, n 4, .inl (iA (F 4)))), (o 5, .inr (1, [.int (iz 1600), .ref (r 5), .int (iz (z 5))])), (r 5, .inl (cI, n 5, .inl (iA (F 5)))), (o 6, .inr (1, [.int (iz 1600), .ref (r 6), .int (iz (z 6))])), (r 6, .inl (cI, n 6, .inl (iA (F 6)))), (o 14, .inr (3, [.ref (o 7), .ref (o 8), .ref (o 9)])), (o 7, .inr (1, [.int (iz 1600), .ref (r 7), .int (iz (z 7))])), (r 7, .inl (cI, n 7, .inl (iA (F 7)))), (o 8, .inr (1, [.int (iz 1600), .ref (r 8), .int (iz (z 8))])), (r 8, .inl (cI, n 8, .inl (iA (F 8)))), (o 9, .inr (1, [.int (iz 1600), .ref (r 9), .int (iz (z 9))])), (r 9, .inl (cI, n 9, .inl (iA (F 9)))), (o 12, .inr (4, [.int (iz (z 17)), .int (iz (z 18)), .int (iz (z 19)), .int (iz (z 20)), .int (iz (z 21))])), (o 10, .inr (2, [.ref (r 10), .int (iz (z 10)), .int (iz (z 22))])), (r 10, .inl (cB, n 10, .inl (iA (F 10)))), (o 11, .inr (2, [.ref (r 11), .int (iz (z 11)), .int (iz (z 23))])), (r 11, .inl (cB, n 11, .inl (iA (F 11))))]) (w1 := (iU cI 80 (o 2) (r 2) (n 2) z_5 (F 2))) (ws' := (xU cI cB cE o r n (va_up z 2 z_5) F G (Eo 0 0))) hP hD [6, 7] [0, 1, 2, 3, 4, 5, 8, 9, 10, 11, 12, 13, 14, 15, 16, 17, 18, 19, 20, 21, 22, 23, 24, 25, 26, 27, 28] [0, 1, 2, 3, 4, 5, 27, 28, 6, 7, 8, 9, 10, 11, 12, 13, 14, 15, 16, 17, 18, 19, 20, 21, 22, 23, 24, 25, 26] rfl rfl (by decide) (by decide) hk1 hFc hP1 hD1 rfl (by decide)
  refine W.eq (g2 := F0 m 7 ls []) rfl ?_
  try dsimp only at hq_2
  obtain ⟨hd6, hm6, hz6⟩ := hq_2
  subst hd6
  subst hm6
  refine lv_iconst (v := iz 0) hx hb dX5_findSeen_7 (by decide) ?_
  refine lv_istore_n (lv' := [(2, .int (iz 0)), (0, .ref (o 15)), (1, .int (iz p0))]) hx hb dX5_findSeen_8 rfl hl (by decide) rfl (fun ls hl => ?_)
  have hok7 : xOk (va_up n 2 (n 2)) (va_up z 2 z_5) (va_up F 2 (F 2)) := (hok.i 2 (by decide) (show 0 ≤ z_5 ∧ z_5 ≤ ((n 2 : Nat) : Int) ∧ ((n 2 : Nat) : Int) ≤ 80 by omega) (hok.2.2.1 2))
  have hfr7 : xFr [2] [2] z F (va_up z 2 z_5) (va_up F 2 (F 2)) := ((hfr.uz 2 (by decide) _).uf 2 (by decide) _)
  have hcg7 : (0) + xg (va_up n 2 (n 2)) ≤ xg n := by unfold xg; simp (decide := true) only [va_ev, ↓reduceIte]; omega
  have hcp7 : (0) + xp (va_up n 2 (n 2)) ≤ xp n := by unfold xp; simp (decide := true) only [va_ev, ↓reduceIte]; omega
  have lp9 : ∀ (n0 : Nat) (k : Int) (rL9 : Nat → Nat) (nL9 : Nat → Nat) (zL9 : Nat → Int) (FL9 : Nat → Int → Int) (cv : Nat) (sv : Nat), ((xR [2] [2] [] [] N z F En Ez EF nL9 zL9 FL9 En Ez EF) ∧ (cv + xg nL9 ≤ xg n + (0) ∧ sv + xp nL9 ≤ xp n + (0)) ∧ (zL9 12 = z 12) ∧ (nL9 11 = n 11) ∧ (0 ≤ k ∧ k ≤ 79 ∧ k ≤ z 12) ∧ (sn_D (FL9 2) (zL9 2) (z 12)) ∧ (kf_ls (FL9 2) 0 (zL9 2).toNat = sn_r (rs_sE Ez) (sn_c Ez) (sn_f EF) p0 (k).toNat)) → (z 12 - k).toNat < n0 → ∀ (H : Heap) (locs : List Loc), va_P (dC, dI) kxCl ((xU cI cB cE o rL9 nL9 zL9 FL9 G (Eo 0 0)) ++ (eP cI N Eo Er En Ez EF)) H → va_D A ((xU cI cB cE o rL9 nL9 zL9 FL9 G (Eo 0 0)) ++ (eP cI N Eo Er En Ez EF)) → va_S A s.heap H locs → ∀ ls : Array Slot, lv_has ls 3 [(2, .int (iz k)), (0, .ref (o 15)), (1, .int (iz p0))] → W p l e (headSpec [.code yX5_findSeen cX5_findSeen 3 none] ({ frames := 4, cells := 260, slots := 110000, locals := 126 })).room s m ([.ref (o 15), .int (iz p0)] : List Value).toArray below meth c H locs cv sv QQ (F0 m 9 ls []) := by
    intro n0
    induction n0 with
    | zero => intro k rL9 nL9 zL9 FL9 cv sv hinv hm0; exact absurd hm0 (Nat.not_lt_zero _)
    | succ n0 ih9 =>
      intro k rL9 nL9 zL9 FL9 cv sv hinv hm0 H locs hP hD hS ls hl
      obtain ⟨hRLL9, hCLL9, hZLL9, hn11L9, hk, hD9, hl9⟩ := hinv
      refine lv_iload_n hx hb dX5_findSeen_9 rfl (lv_at hl 0 rfl) ?_
      refine lv_aload_n hx hb dX5_findSeen_10 rfl (lv_at hl 1 rfl) ?_
      have hxz_8 : -2147483648 ≤ zL9 12 ∧ zL9 12 < 2147483648 := hRLL9.1.2.2.2.1 12
      refine va_get (D := (dC, dI)) (ci := 5) (v := .int (iz (zL9 12))) (C := RX5) (T := TX5) (N := 16) hx hb hts kt_X5 hown hK hP 0 rfl rfl 2 (by decide) (kx_word hG kq_18_xrows_0 rfl) (fun _ h9 => h9) rfl dX5_findSeen_11 ?_
      refine ki_icmp_ge (tgt := 44) hx hb dX5_findSeen_14 (by decide) (by omega) (by omega) (by omega) (by omega) (fun c_9 => ?_) (fun c_9 => ?_)
      · skip
        rw [← hQe]
        exact xk_vret (ov := (fun _ : (Nat → Nat) × (Nat → Nat) × (Nat → Int) × (Nat → Int → Int) × (Nat → Nat → Nat) × (Nat → Nat → Nat) × (Nat → Nat → Int) × (Nat → Nat → Int → Int) => none)) (post := (fun (u : (Nat → Nat) × (Nat → Nat) × (Nat → Int) × (Nat → Int → Int) × (Nat → Nat → Nat) × (Nat → Nat → Nat) × (Nat → Nat → Int) × (Nat → Nat → Int → Int)) (dn dm : Nat) => match u with | (r', n', z', F', Er', En', Ez', EF') => xR [2] [2] [] [] N z F En Ez EF n' z' F' En' Ez' EF' ∧ (dn + xg n' ≤ xg n + 0 ∧ dm + xp n' ≤ xp n + 0) ∧ n' 11 = n 11 ∧ (kf_ls (F' 2) 0 (z' 2).toNat = sn_r (rs_sE Ez) (sn_c Ez) (sn_f EF) p0 (z 12).toNat ∧ Er = Er' ∧ En = En' ∧ Ez = Ez' ∧ EF = EF'))) (ws := (fun u : (Nat → Nat) × (Nat → Nat) × (Nat → Int) × (Nat → Int → Int) × (Nat → Nat → Nat) × (Nat → Nat → Nat) × (Nat → Nat → Int) × (Nat → Nat → Int → Int) => match u with | (r', n', z', F', Er', En', Ez', EF') => (xU cI cB cE o r' n' z' F' G (Eo 0 0) ++ eP cI N Eo Er' En' Ez' EF'))) (tys := xT cI cB cE) (rL9, nL9, zL9, FL9, Er, En, Ez, EF) hx hb hr hlocks rfl hP hD hK hS dX5_findSeen_44 (fun dn dm hdn hdm => ⟨⟨hRLL9.1, hRLL9.2.1, hRLL9.2.2.1, hRLL9.2.2.2⟩, ⟨by omega, by omega⟩, ⟨(show nL9 11 = n 11 by omega), ⟨(by rw [show (z 12).toNat = k.toNat by omega]; exact hl9), rfl, rfl, rfl, rfl⟩⟩⟩) (by omega) (by omega)
      · skip
        refine lv_aload_n hx hb dX5_findSeen_17 rfl (lv_at hl 1 rfl) ?_
        refine lv_iload_n hx hb dX5_findSeen_18 rfl (lv_at hl 0 rfl) ?_
        have hxG9 : xG N (zL9 12) G Eo := ⟨by omega, by omega, by omega, fun e9 h9 => hN4 e9 (by omega)⟩
        have hP : va_P (dC, dI) kxCl (xU cI cB cE o rL9 nL9 zL9 FL9 G (Eo 0 0) ++ eP cI N Eo Er En Ez EF) H := hP
        refine xk_pure (va_runV (As := [.int (iz k)]) (rest := []) ⟨hx, hb, hml, hown, hts⟩ (y_firstOf2 l dC dI cI cB cE o rL9 nL9 zL9 FL9 G N Eo Er En Ez EF k H.size hRLL9.1 hxG9 hRLL9.2.2.1 (by omega) (by omega)) (cwV 1 hts (kx_gV kq_18_xrows_15 kq_18_xrows_16 kq_18_xrows_17 kq_18_xrows_4 kq_18_xrows_18 rfl) rfl rfl rfl (by decide +kernel) ⟨Nat.le_of_ble_eq_true rfl, Nat.le_of_ble_eq_true rfl⟩) ⟨pPre_blind, va_recv hK hP (ci := 5) (q0 := 0) rfl rfl, pPre_give hP hK hG⟩ rfl rfl hl.1 rfl (lv_room (Nat.le_of_ble_eq_true rfl)) dX5_findSeen_19 ⟨show cv + 0 ≤ 260 from (by omega), show sv + 0 ≤ 110000 from (by omega)⟩) hS (fun z_11 locs hq_10 hS => ?_)
        refine W.eq (g2 := F0 m 22 ls [.int (iz z_11)]) rfl ?_
        try dsimp only at hq_10
        obtain ⟨hq_10, hq_10b⟩ := hq_10
        subst hq_10
        refine W.eq (g2 := F0 m 22 ls [.int (iz (rs_fo (zL9 12) Ez k))]) rfl ?_
        have ef9 : rs_fo (zL9 12) Ez k = rs_sE Ez k := if_pos (by omega)
        rw [ef9]
        refine W.eq (g2 := F0 m 22 ls [.int (iz (rs_sE Ez k))]) rfl ?_
        have hsk := hs k (by omega) (by omega)
        refine lv_iload_n hx hb dX5_findSeen_22 rfl (lv_at hl 2 rfl) ?_
        refine ki_icmp_ne (tgt := 38) hx hb dX5_findSeen_23 (by decide) (by omega) (by omega) (by omega) (by omega) (fun c_12 => ?_) (fun c_12 => ?_)
        · skip
          refine lv_iinc (v := iz (k + 1)) (lv' := [(2, .int (iz (k + 1))), (0, .ref (o 15)), (1, .int (iz p0))]) hx hb dX5_findSeen_38 hl (k := 0) rfl (iz_add k 1) (by decide) rfl (fun ls hl => ?_)
          refine lv_goto (tgt := 9) hx hb dX5_findSeen_41 (by decide) ?_
          exact ih9 (k + 1) rL9 nL9 zL9 FL9 cv sv ⟨⟨hRLL9.1, hRLL9.2.1, hRLL9.2.2.1, hRLL9.2.2.2⟩, ⟨by omega, by omega⟩, (show zL9 12 = z 12 by omega), (show nL9 11 = n 11 by omega), by omega, hD9, (by rw [sn_r_n (by omega) (show ¬ rs_sE Ez k = p0 by omega)]; exact hl9)⟩ (by omega) _ _ hP hD hS ls (lv_sub hl [0, 1, 2] rfl)
        · skip
          refine lv_aload_n hx hb dX5_findSeen_26 rfl (lv_at hl 1 rfl) ?_
          refine lv_aload_n hx hb dX5_findSeen_27 rfl (lv_at hl 1 rfl) ?_
          refine lv_iload_n hx hb dX5_findSeen_28 rfl (lv_at hl 0 rfl) ?_
          have hxG9 : xG N (zL9 12) G Eo := ⟨by omega, by omega, by omega, fun e9 h9 => hN4 e9 (by omega)⟩
          have hP : va_P (dC, dI) kxCl (xU cI cB cE o rL9 nL9 zL9 FL9 G (Eo 0 0) ++ eP cI N Eo Er En Ez EF) H := hP
          refine xk_pure (va_runV (As := [.int (iz k)]) (rest := [.ref (o 15)]) ⟨hx, hb, hml, hown, hts⟩ (y_known l dC dI cI cB cE o rL9 nL9 zL9 FL9 G N Eo Er En Ez EF k H.size hRLL9.1 hxG9 hRLL9.2.2.1 (by omega) (by omega)) (cwV 1 hts (kx_gV kq_18_xrows_8 kq_18_xrows_9 kq_18_xrows_10 kq_18_xrows_4 kq_18_xrows_11 rfl) rfl rfl rfl (by decide +kernel) ⟨Nat.le_of_ble_eq_true rfl, Nat.le_of_ble_eq_true rfl⟩) ⟨pPre_blind, va_recv hK hP (ci := 5) (q0 := 0) rfl rfl, pPre_give hP hK hG⟩ rfl rfl hl.1 rfl (lv_room (Nat.le_of_ble_eq_true rfl)) dX5_findSeen_29 ⟨show cv + 0 ≤ 260 from (by omega), show sv + 0 ≤ 110000 from (by omega)⟩) hS (fun z_14 locs hq_13 hS => ?_)
          refine W.eq (g2 := F0 m 32 ls [.ref z_14.toNat, .ref (o 15)]) rfl ?_
          try dsimp only at hq_13
          obtain ⟨j15, hj15, ez15, hje15⟩ := hq_13
          subst ez15
          refine W.eq (g2 := F0 m 32 ls [.ref (Eo j15 0), .ref (o 15)]) rfl ?_
          have ej15 : j15 = (k + 1).toNat := by omega
          subst ej15
          have hP := eP_foc hj15 hP
          have hD := eD_foc hj15 hD
          refine va_getN (D := (dC, dI)) (ci := 0) (v := .ref (Eo ((k + 1).toNat) 4)) (C := RX0) (T := TX0) (N := 12) hx hb hts kt_X0 hown hK hP 29 rfl rfl 6 (by decide) (va_Nw.use rfl (kx_nf hG kq_19_xouts_32)) (fun _ h9 => h9) rfl dX5_findSeen_32 ?_
          have hP := eP_un0 hj15 hP
          have hD := eD_un0 hj15 hD
          have hxG9 : xG N (zL9 12) G Eo := ⟨by omega, by omega, by omega, fun e9 h9 => hN4 e9 (by omega)⟩
          have hP : va_P (dC, dI) kxCl (xU cI cB cE o rL9 nL9 zL9 FL9 G (Eo 0 0) ++ eP cI N Eo Er En Ez EF) H := hP
          have hD : va_D A (xU cI cB cE o rL9 nL9 zL9 FL9 G (Eo 0 0) ++ eP cI N Eo Er En Ez EF) := hD
          have hFc := xw_free hD hS hA
          refine xk_call (va_runV (As := [.ref (Eo ((k + 1).toNat) 4)]) (rest := []) ⟨hx, hb, hml, hown, hts⟩ (y_addSeenOf7 l dC dI cI cB cE o rL9 nL9 zL9 FL9 G N Eo Er En Ez EF ((k + 1).toNat) H.size hRLL9.1 hxG9 hRLL9.2.2.1 hj15 (by show ∀ e, 0 ≤ e → e < zL9 12 → 0 ≤ rs_sE Ez e ∧ rs_sE Ez e ≤ e; rw [show zL9 12 = z 12 by omega]; exact hs) (show zL9 12 ≤ 78 by omega) (by show ∀ k9, 0 ≤ k9 → k9 < Ez ((k + 1).toNat) 3 → 0 ≤ EF ((k + 1).toNat) 3 k9 ∧ EF ((k + 1).toNat) 3 k9 < zL9 12; rw [show zL9 12 = z 12 by omega]; exact sH k (by omega) (by omega)) (by show sn_D (FL9 2) (zL9 2) (zL9 12); rw [show zL9 12 = z 12 by omega]; exact hD9)) (cwV 1 hts (kx_gV kq_19_xouts_33 kq_19_xouts_34 kq_19_xouts_35 kq_18_xrows_4 kq_19_xouts_36 rfl) rfl rfl rfl (by decide +kernel) ⟨Nat.le_of_ble_eq_true rfl, Nat.le_of_ble_eq_true rfl⟩) ⟨kx_blind, va_recv hK hP (ci := 5) (q0 := 0) rfl rfl, kx_give (ws := []) (tys := []) hP hD hK hG hZ hS hFc⟩ rfl rfl hl.1 rfl (lv_room (Nat.le_of_ble_eq_true rfl)) dX5_findSeen_35 ⟨show cv + 150 ≤ 260 from (by omega), show sv + 60000 ≤ 110000 from (by omega)⟩) hS (fun q _ h => hFc q h) hFc (fun u dn_18 dm_19 t H locs ht hvm hq_16 hB hk1 hS => ?_)
          obtain ⟨r_20, n_21, z_22, F_23, Er_24, En_25, Ez_26, EF_27⟩ := u
          obtain ⟨hP, hK1, hD1⟩ := hB
          rw [ht] at hP
          have hD := hD1.weaken (fun _ q _ h => hFc _ h)
          obtain ⟨hR28, hC28, hq_16⟩ := hq_16
          obtain ⟨hn1128, hq_16⟩ := hq_16
          have hn1128 : n_21 11 = nL9 11 := hn1128
          have hok28 := hR28.1
          have hfr28 := hRLL9.2.1.tr (hR28.2.1.mono (S' := [2]) (T' := [2]) (by decide) (by decide))
          have hPE28 := hR28.2.2.1
          have hef28 := hRLL9.2.2.2.tr (hR28.2.2.2.mono (S' := []) (T' := []) (by decide) (by decide))
          have hz28 : z_22 12 = (zL9 12) := hR28.2.1.1 12 (by decide)
          refine W.eq (g2 := F0 m 38 ls []) rfl ?_
          try dsimp only at hq_16
          obtain ⟨hal, had, hkp⟩ := hq_16
          obtain ⟨rfl, rfl, rfl, rfl⟩ := hkp
          rw [show zL9 12 = z 12 by omega] at had
          refine lv_iinc (v := iz (k + 1)) (lv' := [(2, .int (iz (k + 1))), (0, .ref (o 15)), (1, .int (iz p0))]) hx hb dX5_findSeen_38 hl (k := 0) rfl (iz_add k 1) (by decide) rfl (fun ls hl => ?_)
          refine lv_goto (tgt := 9) hx hb dX5_findSeen_41 (by decide) ?_
          exact ih9 (k + 1) r_20 n_21 z_22 F_23 (cv + dn_18) (sv + dm_19) ⟨⟨hok28, hfr28, hPE28, hef28⟩, ⟨by omega, by omega⟩, (show z_22 12 = z 12 by omega), (show n_21 11 = n 11 by omega), by omega, had, (by rw [sn_r_y (by omega) (show rs_sE Ez k = p0 by omega), ← hl9, hal]; exact sn_s_e (se := sn_f EF) (e := k) _)⟩ (by omega) _ _ hP hD hS ls (lv_sub hl [0, 1, 2] rfl)
  exact lp9 _ 0 r (va_up n 2 (n 2)) (va_up z 2 z_5) (va_up F 2 (F 2)) (0 + 0) (0 + 0) ⟨⟨hok7, hfr7, hPE, hef⟩, ⟨by omega, by omega⟩, (show z 12 = z 12 by omega), (show n 11 = n 11 by omega), by omega, (by show sn_D (F 2) (z_5) (z 12); rw [show z_5 = 0 by omega]; exact sn_D_0 _ _), (by show kf_ls (F 2) 0 (z_5).toNat = _; rw [show z_5 = 0 by omega]; rfl)⟩ (Nat.lt_succ_self _) _ _ hP hD hS ls (lv_sub hl [0, 1, 2] rfl)
