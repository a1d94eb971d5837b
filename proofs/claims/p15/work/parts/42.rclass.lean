/-! the landed class, exact: its rows -/

set_option maxHeartbeats 4000000 in
set_option maxRecDepth 100000 in
theorem x_set2 (l : Launch) (dC : Nat → ClassId) (dI : Nat → Nat → Nat) (cI cB cE : ClassId) (L : Int) (o : Nat) (r : Nat) (n : Nat) (z : Int) (F : Int → Int) (p0 : Int) (p1 : Int) (sz : Nat) (hok : 0 ≤ z ∧ z ≤ (n : Int) ∧ (n : Int) ≤ L ∧ L ≤ 1600) (hF : iB F) (hp01 : -2147483648 ≤ p0) (hp02 : p0 < 2147483648) (hp11 : -2147483648 ≤ p1) (hp12 : p1 < 2147483648) (hin : 0 ≤ p0 ∧ p0 < z) : Met l yX1_set [.code yX1_set cX1_set 3 none] ({ frames := 0, cells := 0, slots := 0, locals := 0 }) (va_Pc [.ref o, .int (iz p0), .int (iz p1)] (kx_Pre dC dI (iU cI L o r n z F) (xT cI cB cE) sz)) (xQ (fun _ : (Int → Int) => none) (fun (u : (Int → Int)) (dn dm : Nat) => match u with | F' => dn = 0 ∧ dm = 0 ∧ iB F' ∧ F' = upI F p0 p1) (fun u t => kx_At dC dI (va_A (iU cI L o r n z F) sz) ((fun u : (Int → Int) => match u with | F' => (iU cI L o r n z F')) u) (xT cI cB cE) t) (va_A (iU cI L o r n z F) sz)) 0 0 (va_A (iU cI L o r n z F) sz) := by
  refine Met.ofW (cc := cX1_set) (maxL := 3) (ret := none) (by decide) rfl ?_
  intro p e s m args below meth c s₁ B hml hv
  obtain ⟨rfl, hsz, hP, hK, hD0, hG, hZ⟩ := hv
  have hx := B.exec
  have hb := B.bytes
  have hr := B.returns
  have hts := kx_hts (a := ([.ref o, .int (iz p0), .int (iz p1)] : List Value).toArray) hG
  have hown : s.vm.findClass RX1 = some m.cls := findClass_of_methodNamed B.named
  have hlocks := B.notSynchronized
  subst hsz
  have hD := hD0.self (sz := s.heap.size)
  generalize hAe : va_A (iU cI L o r n z F) s.heap.size = A at hD hZ ⊢
  have hA : ∀ q : Nat, s.heap.size ≤ q → A q := fun q h => by rw [← hAe]; exact Or.inr h
  have hS : va_S A s.heap s.heap [] := va_S.rf
  have hl := lv_entry ([.ref o, .int (iz p0), .int (iz p1)]) (n := 3) (Nat.le_of_ble_eq_true rfl)
  rw [lg_entry_eq]
  generalize (lg_sl ([.ref o, .int (iz p0), .int (iz p1)]) ++ List.replicate (3 - (lg_sl ([.ref o, .int (iz p0), .int (iz p1)])).length) Slot.unset).toArray = ls at hl ⊢
  have hl : lv_has ls 3 [(0, .ref o), (1, .int (iz p0)), (2, .int (iz p1))] := hl
  refine lv_iload_n hx hb dX1_set_0 rfl (lv_at hl 1 rfl) ?_
  refine ki_if_lt (tgt := 28) hx hb dX1_set_1 (by decide) (by omega) (by omega) (fun c_1 => ?_) (fun c_1 => ?_)
  · skip
    exact xk_vret (ov := (fun _ : (Int → Int) => none)) (post := (fun (u : (Int → Int)) (dn dm : Nat) => match u with | F' => dn = 0 ∧ dm = 0 ∧ iB F' ∧ F' = upI F p0 p1)) (ws := (fun u : (Int → Int) => match u with | F' => (iU cI L o r n z F'))) (tys := xT cI cB cE) F hx hb hr hlocks rfl hP hD hK hS dX1_set_28 (fun dn dm hdn hdm => (show False by omega).elim) (by omega) (by omega)
  · skip
    refine lv_iload_n hx hb dX1_set_4 rfl (lv_at hl 1 rfl) ?_
    refine lv_aload_n hx hb dX1_set_5 rfl (lv_at hl 0 rfl) ?_
    refine va_get (D := (dC, dI)) (ci := 1) (v := .int (iz z)) (C := RX1) (T := TX1) (N := 3) hx hb hts kt_X1 hown hK hP 0 rfl rfl 2 (by decide) (kx_word hG kq_13_xints_0 rfl) (fun _ h9 => h9) rfl dX1_set_6 ?_
    refine ki_icmp_ge (tgt := 28) hx hb dX1_set_9 (by decide) (by omega) (by omega) (by omega) (by omega) (fun c_2 => ?_) (fun c_2 => ?_)
    · skip
      exact xk_vret (ov := (fun _ : (Int → Int) => none)) (post := (fun (u : (Int → Int)) (dn dm : Nat) => match u with | F' => dn = 0 ∧ dm = 0 ∧ iB F' ∧ F' = upI F p0 p1)) (ws := (fun u : (Int → Int) => match u with | F' => (iU cI L o r n z F'))) (tys := xT cI cB cE) F hx hb hr hlocks rfl hP hD hK hS dX1_set_28 (fun dn dm hdn hdm => (show False by omega).elim) (by omega) (by omega)
    · skip
      refine lv_iload_n hx hb dX1_set_12 rfl (lv_at hl 1 rfl) ?_
      refine lv_aload_n hx hb dX1_set_13 rfl (lv_at hl 0 rfl) ?_
      refine va_get (D := (dC, dI)) (ci := 1) (v := .ref r) (C := RX1) (T := TX1) (N := 3) hx hb hts kt_X1 hown hK hP 0 rfl rfl 1 (by decide) (kx_word hG kq_13_xints_2 rfl) (fun _ h9 => h9) rfl dX1_set_14 ?_
      refine xk_alen hx hb hK hP 1 0 rfl rfl dX1_set_17 ?_
      refine ki_icmp_ge (tgt := 28) hx hb dX1_set_18 (by decide) (by omega) (by omega) (by omega) (by omega) (fun c_3 => ?_) (fun c_3 => ?_)
      · skip
        exact xk_vret (ov := (fun _ : (Int → Int) => none)) (post := (fun (u : (Int → Int)) (dn dm : Nat) => match u with | F' => dn = 0 ∧ dm = 0 ∧ iB F' ∧ F' = upI F p0 p1)) (ws := (fun u : (Int → Int) => match u with | F' => (iU cI L o r n z F'))) (tys := xT cI cB cE) F hx hb hr hlocks rfl hP hD hK hS dX1_set_28 (fun dn dm hdn hdm => (show False by omega).elim) (by omega) (by omega)
      · skip
        refine lv_aload_n hx hb dX1_set_21 rfl (lv_at hl 0 rfl) ?_
        refine va_get (D := (dC, dI)) (ci := 1) (v := .ref r) (C := RX1) (T := TX1) (N := 3) hx hb hts kt_X1 hown hK hP 0 rfl rfl 1 (by decide) (kx_word hG kq_13_xints_2 rfl) (fun _ h9 => h9) rfl dX1_set_22 ?_
        refine lv_iload_n hx hb dX1_set_25 rfl (lv_at hl 1 rfl) ?_
        refine lv_iload_n hx hb dX1_set_26 rfl (lv_at hl 2 rfl) ?_
        refine ki_iast (F := F) hx hb hK hP hD hS 1 0 rfl rfl (by omega) (by omega) (by omega) dX1_set_27 (fun H locs hP hD hS => ?_)
        have hP : va_P (dC, dI) kxCl (iU cI L o r n z (upI F p0 p1)) H := hP
        have hD : va_D A (iU cI L o r n z (upI F p0 p1)) := hD
        exact xk_vret (ov := (fun _ : (Int → Int) => none)) (post := (fun (u : (Int → Int)) (dn dm : Nat) => match u with | F' => dn = 0 ∧ dm = 0 ∧ iB F' ∧ F' = upI F p0 p1)) (ws := (fun u : (Int → Int) => match u with | F' => (iU cI L o r n z F'))) (tys := xT cI cB cE) (upI F p0 p1) hx hb hr hlocks rfl hP hD hK hS dX1_set_28 (fun dn dm hdn hdm => ⟨by omega, by omega, iB_up hF _ (by omega) (by omega), rfl⟩) (by omega) (by omega)
set_option maxHeartbeats 4000000 in
set_option maxRecDepth 100000 in
theorem x_swap2 (l : Launch) (dC : Nat → ClassId) (dI : Nat → Nat → Nat) (cI cB cE : ClassId) (L : Int) (o : Nat) (r : Nat) (n : Nat) (z : Int) (F : Int → Int) (p0 : Int) (p1 : Int) (sz : Nat) (hok : 0 ≤ z ∧ z ≤ (n : Int) ∧ (n : Int) ≤ L ∧ L ≤ 1600) (hF : iB F) (hp01 : -2147483648 ≤ p0) (hp02 : p0 < 2147483648) (hp11 : -2147483648 ≤ p1) (hp12 : p1 < 2147483648) (hin0 : 0 ≤ p0 ∧ p0 < z) (hin1 : 0 ≤ p1 ∧ p1 < z) : Met l yX1_swap [.code yX1_swap cX1_swap 4 none] ({ frames := 1, cells := 0, slots := 0, locals := 22 }) (va_Pc [.ref o, .int (iz p0), .int (iz p1)] (kx_Pre dC dI (iU cI L o r n z F) (xT cI cB cE) sz)) (xQ (fun _ : (Int → Int) => none) (fun (u : (Int → Int)) (dn dm : Nat) => match u with | F' => dn = 0 ∧ dm = 0 ∧ iB F' ∧ F' = upI (upI F p0 (F p1)) p1 (F p0)) (fun u t => kx_At dC dI (va_A (iU cI L o r n z F) sz) ((fun u : (Int → Int) => match u with | F' => (iU cI L o r n z F')) u) (xT cI cB cE) t) (va_A (iU cI L o r n z F) sz)) 0 0 (va_A (iU cI L o r n z F) sz) := by
  refine Met.ofW (cc := cX1_swap) (maxL := 4) (ret := none) (by decide) rfl ?_
  intro p e s m args below meth c s₁ B hml hv
  obtain ⟨rfl, hsz, hP, hK, hD0, hG, hZ⟩ := hv
  have hx := B.exec
  have hb := B.bytes
  have hr := B.returns
  have hts := kx_hts (a := ([.ref o, .int (iz p0), .int (iz p1)] : List Value).toArray) hG
  have hown : s.vm.findClass RX1 = some m.cls := findClass_of_methodNamed B.named
  have hlocks := B.notSynchronized
  subst hsz
  have hD := hD0.self (sz := s.heap.size)
  generalize hAe : va_A (iU cI L o r n z F) s.heap.size = A at hD hZ ⊢
  have hA : ∀ q : Nat, s.heap.size ≤ q → A q := fun q h => by rw [← hAe]; exact Or.inr h
  have hS : va_S A s.heap s.heap [] := va_S.rf
  have hl := lv_entry ([.ref o, .int (iz p0), .int (iz p1)]) (n := 4) (Nat.le_of_ble_eq_true rfl)
  rw [lg_entry_eq]
  generalize (lg_sl ([.ref o, .int (iz p0), .int (iz p1)]) ++ List.replicate (4 - (lg_sl ([.ref o, .int (iz p0), .int (iz p1)])).length) Slot.unset).toArray = ls at hl ⊢
  have hl : lv_has ls 4 [(0, .ref o), (1, .int (iz p0)), (2, .int (iz p1))] := hl
  refine lv_aload_n hx hb dX1_swap_0 rfl (lv_at hl 0 rfl) ?_
  refine lv_iload_n hx hb dX1_swap_1 rfl (lv_at hl 1 rfl) ?_
  have hPc := hP.sub (ws' := (iU cI L o r n z F)) [0, 1] rfl
  refine xk_pure (va_runV (As := [.int (iz p0)]) (rest := []) ⟨hx, hb, hml, hown, hts⟩ (x_get l dC dI cI cB cE L o r n z F p0 s.heap.size hok hF (by omega) (by omega)) (cwV 1 hts (kx_gV kq_13_xints_3 kq_13_xints_4 kq_13_xints_5 kq_13_xints_6 kq_13_xints_7 rfl) rfl rfl rfl (by decide +kernel) ⟨Nat.le_of_ble_eq_true rfl, Nat.le_of_ble_eq_true rfl⟩) ⟨pPre_blind, va_recv hK hPc (ci := 1) (q0 := 0) rfl rfl, pPre_give hPc hK hG⟩ rfl rfl hl.1 rfl (lv_room (Nat.le_of_ble_eq_true rfl)) dX1_swap_2 ⟨show 0 + 0 ≤ 0 from (by omega), show 0 + 0 ≤ 0 from (by omega)⟩) hS (fun z_2 locs hq_1 hS => ?_)
  refine W.eq (g2 := F0 m 5 ls [.int (iz z_2)]) rfl ?_
  try dsimp only at hq_1
  have eg_3 : z_2 = F p0 := by omega
  have hgb_4 := hF p0
  subst eg_3
  refine W.eq (g2 := F0 m 5 ls [.int (iz (F p0))]) rfl ?_
  refine lv_istore_n (lv' := [(3, .int (iz (F p0))), (0, .ref o), (1, .int (iz p0)), (2, .int (iz p1))]) hx hb dX1_swap_5 rfl hl (by decide) rfl (fun ls hl => ?_)
  refine lv_aload_n hx hb dX1_swap_6 rfl (lv_at hl 1 rfl) ?_
  refine lv_iload_n hx hb dX1_swap_7 rfl (lv_at hl 2 rfl) ?_
  refine lv_aload_n hx hb dX1_swap_8 rfl (lv_at hl 1 rfl) ?_
  refine lv_iload_n hx hb dX1_swap_9 rfl (lv_at hl 3 rfl) ?_
  have hPc := hP.sub (ws' := (iU cI L o r n z F)) [0, 1] rfl
  refine xk_pure (va_runV (As := [.int (iz p1)]) (rest := [.int (iz p0), .ref o]) ⟨hx, hb, hml, hown, hts⟩ (x_get l dC dI cI cB cE L o r n z F p1 s.heap.size hok hF (by omega) (by omega)) (cwV 1 hts (kx_gV kq_13_xints_3 kq_13_xints_4 kq_13_xints_5 kq_13_xints_6 kq_13_xints_7 rfl) rfl rfl rfl (by decide +kernel) ⟨Nat.le_of_ble_eq_true rfl, Nat.le_of_ble_eq_true rfl⟩) ⟨pPre_blind, va_recv hK hPc (ci := 1) (q0 := 0) rfl rfl, pPre_give hPc hK hG⟩ rfl rfl hl.1 rfl (lv_room (Nat.le_of_ble_eq_true rfl)) dX1_swap_10 ⟨show 0 + 0 ≤ 0 from (by omega), show 0 + 0 ≤ 0 from (by omega)⟩) hS (fun z_6 locs hq_5 hS => ?_)
  refine W.eq (g2 := F0 m 13 ls [.int (iz z_6), .int (iz p0), .ref o]) rfl ?_
  try dsimp only at hq_5
  have eg_7 : z_6 = F p1 := by omega
  have hgb_8 := hF p1
  subst eg_7
  refine W.eq (g2 := F0 m 13 ls [.int (iz (F p1)), .int (iz p0), .ref o]) rfl ?_
  have hPc := hP.sub (ws' := (iU cI L o r n z F)) [0, 1] rfl
  have hDc := hD.sub (ws' := (iU cI L o r n z F)) [0, 1] (by decide) rfl
  have hFc := va_free (wc := (iU cI L o r n z F)) hD hS hA [0, 1] rfl
  refine xk_call (va_runV (As := [.int (iz p0), .int (iz (F p1))]) (rest := []) ⟨hx, hb, hml, hown, hts⟩ (x_set2 l dC dI cI cB cE L o r n z F p0 (F p1) s.heap.size hok hF (by omega) (by omega) (by omega) (by omega) hin0) (cwV 2 hts (kx_gV kq_13_xints_8 kq_13_xints_9 kq_13_xints_10 kq_13_xints_6 kq_13_xints_11 rfl) rfl rfl rfl (by decide +kernel) ⟨Nat.le_of_ble_eq_true rfl, Nat.le_of_ble_eq_true rfl⟩) ⟨kx_blind, va_recv hK hPc (ci := 1) (q0 := 0) rfl rfl, kx_give (ws := []) (tys := []) hPc hDc hK hG hZ hS hFc⟩ rfl rfl hl.1 rfl (lv_room (Nat.le_of_ble_eq_true rfl)) dX1_swap_13 ⟨show 0 + 0 ≤ 0 from (by omega), show 0 + 0 ≤ 0 from (by omega)⟩) hS (fun q _ h => hFc q h) hFc (fun u dn_10 dm_11 t H locs ht hvm hq_9 hB hk1 hS => ?_)
  obtain ⟨F_12, rfl⟩ : ∃ z, z = u := ⟨_, rfl⟩
  obtain ⟨hP1, hK1, hD1⟩ := hB
  rw [ht] at hP1
  obtain ⟨hP, hD⟩ := xj (wr := []) (w1 := (iU cI L o r n z F_12)) (ws' := (iU cI L o r n z F_12)) hP hD [0, 1] [] [0, 1] rfl rfl (by decide) (by decide) hk1 hFc hP1 hD1 rfl (by decide)
  refine W.eq (g2 := F0 m 16 ls []) rfl ?_
  try dsimp only at hq_9
  obtain ⟨hd13, hm13, hF13, eF13⟩ := hq_9
  subst hd13
  subst hm13
  subst eF13
  have hP : va_P (dC, dI) kxCl (iU cI L o r n z (upI F p0 (F p1))) H := hP
  have hD : va_D A (iU cI L o r n z (upI F p0 (F p1))) := hD
  refine lv_aload_n hx hb dX1_swap_16 rfl (lv_at hl 1 rfl) ?_
  refine lv_iload_n hx hb dX1_swap_17 rfl (lv_at hl 3 rfl) ?_
  refine lv_iload_n hx hb dX1_swap_18 rfl (lv_at hl 0 rfl) ?_
  have hPc := hP.sub (ws' := (iU cI L o r n z (upI F p0 (F p1)))) [0, 1] rfl
  have hDc := hD.sub (ws' := (iU cI L o r n z (upI F p0 (F p1)))) [0, 1] (by decide) rfl
  have hFc := va_free (wc := (iU cI L o r n z (upI F p0 (F p1)))) hD hS hA [0, 1] rfl
  refine xk_call (va_runV (As := [.int (iz p1), .int (iz (F p0))]) (rest := []) ⟨hx, hb, hml, hown, hts⟩ (x_set2 l dC dI cI cB cE L o r n z (upI F p0 (F p1)) p1 (F p0) H.size hok hF13 (by omega) (by omega) (by omega) (by omega) hin1) (cwV 2 hts (kx_gV kq_13_xints_8 kq_13_xints_9 kq_13_xints_10 kq_13_xints_6 kq_13_xints_11 rfl) rfl rfl rfl (by decide +kernel) ⟨Nat.le_of_ble_eq_true rfl, Nat.le_of_ble_eq_true rfl⟩) ⟨kx_blind, va_recv hK hPc (ci := 1) (q0 := 0) rfl rfl, kx_give (ws := []) (tys := []) hPc hDc hK hG hZ hS hFc⟩ rfl rfl hl.1 rfl (lv_room (Nat.le_of_ble_eq_true rfl)) dX1_swap_19 ⟨show (0 + 0) + 0 ≤ 0 from (by omega), show (0 + 0) + 0 ≤ 0 from (by omega)⟩) hS (fun q _ h => hFc q h) hFc (fun u dn_15 dm_16 t H locs ht hvm hq_14 hB hk1 hS => ?_)
  obtain ⟨F_17, rfl⟩ : ∃ z, z = u := ⟨_, rfl⟩
  obtain ⟨hP1, hK1, hD1⟩ := hB
  rw [ht] at hP1
  obtain ⟨hP, hD⟩ := xj (wr := []) (w1 := (iU cI L o r n z F_17)) (ws' := (iU cI L o r n z F_17)) hP hD [0, 1] [] [0, 1] rfl rfl (by decide) (by decide) hk1 hFc hP1 hD1 rfl (by decide)
  refine W.eq (g2 := F0 m 22 ls []) rfl ?_
  try dsimp only at hq_14
  obtain ⟨hd18, hm18, hF18, eF18⟩ := hq_14
  subst hd18
  subst hm18
  subst eF18
  have hP : va_P (dC, dI) kxCl (iU cI L o r n z (upI (upI F p0 (F p1)) p1 (F p0))) H := hP
  have hD : va_D A (iU cI L o r n z (upI (upI F p0 (F p1)) p1 (F p0))) := hD
  exact xk_vret (ov := (fun _ : (Int → Int) => none)) (post := (fun (u : (Int → Int)) (dn dm : Nat) => match u with | F' => dn = 0 ∧ dm = 0 ∧ iB F' ∧ F' = upI (upI F p0 (F p1)) p1 (F p0))) (ws := (fun u : (Int → Int) => match u with | F' => (iU cI L o r n z F'))) (tys := xT cI cB cE) (upI (upI F p0 (F p1)) p1 (F p0)) hx hb hr hlocks rfl hP hD hK hS dX1_swap_22 (fun dn dm hdn hdm => ⟨by omega, by omega, hF18, rfl⟩) (by omega) (by omega)
set_option maxHeartbeats 4000000 in
set_option maxRecDepth 100000 in
theorem y_firstOf2 (l : Launch) (dC : Nat → ClassId) (dI : Nat → Nat → Nat) (cI cB cE : ClassId) (o r n : Nat → Nat) (z : Nat → Int) (F : Nat → Int → Int) (G : Nat → Option Nat) (N : Nat) (Eo Er En : Nat → Nat → Nat) (Ez : Nat → Nat → Int) (EF : Nat → Nat → Int → Int) (p0 : Int) (sz : Nat) (hok : xOk n z F) (hxG : xG N (z 12) G Eo) (hPE : eA N En Ez EF) (hp01 : -2147483648 ≤ p0) (hp02 : p0 < 2147483648) : Met l yX5_firstOf [.code yX5_firstOf cX5_firstOf 2 (some .int)] ({ frames := 2, cells := 0, slots := 0, locals := 43 }) (va_Pc [.ref (o 15), .int (iz p0)] (pPre dC dI (xU cI cB cE o r n z F G (Eo 0 0) ++ eP cI N Eo Er En Ez EF) (xT cI cB cE) sz)) (pQ (fun z => some (.int (iz z))) (fun (q : Int) => q = rs_fo (z 12) Ez p0 ∧ -2147483648 ≤ q ∧ q < 2147483648)) 0 0 (fun _ => False) := by
  refine Met.ofW (cc := cX5_firstOf) (maxL := 2) (ret := (some .int)) (by decide) rfl ?_
  intro p e s m args below meth c s₁ B hml hv
  obtain ⟨rfl, hsz, hP, hK, hG⟩ := hv
  have hx := B.exec
  have hb := B.bytes
  have hr := B.returns
  have hts := kx_hts (a := ([.ref (o 15), .int (iz p0)] : List Value).toArray) hG
  have hown : s.vm.findClass RX5 = some m.cls := findClass_of_methodNamed B.named
  have hlocks := B.notSynchronized
  subst hsz
  have hS : va_S (fun _ => False) s.heap s.heap [] := va_S.rf
  have hl := lv_entry ([.ref (o 15), .int (iz p0)]) (n := 2) (Nat.le_of_ble_eq_true rfl)
  rw [lg_entry_eq]
  generalize (lg_sl ([.ref (o 15), .int (iz p0)]) ++ List.replicate (2 - (lg_sl ([.ref (o 15), .int (iz p0)])).length) Slot.unset).toArray = ls at hl ⊢
  obtain ⟨hN1, hN2, hN3, hN4⟩ := hxG
  have hl : lv_has ls 2 [(0, .ref (o 15)), (1, .int (iz p0))] := hl
  refine lv_aload_n hx hb dX5_firstOf_0 rfl (lv_at hl 0 rfl) ?_
  refine lv_iload_n hx hb dX5_firstOf_1 rfl (lv_at hl 1 rfl) ?_
  have hxz_1 : -2147483648 ≤ z 12 ∧ z 12 < 2147483648 := hok.2.2.2.1 12
  have hxG9 : xG N (z 12) G Eo := ⟨by omega, by omega, by omega, fun e9 h9 => hN4 e9 (by omega)⟩
  have hP : va_P (dC, dI) kxCl (xU cI cB cE o r n z F G (Eo 0 0) ++ eP cI N Eo Er En Ez EF) s.heap := hP
  refine xk_pure (va_runV (As := [.int (iz p0)]) (rest := []) ⟨hx, hb, hml, hown, hts⟩ (y_isEntry l dC dI cI cB cE o r n z F G N Eo Er En Ez EF p0 s.heap.size hok hxG9 hPE (by omega) (by omega)) (cwV 1 hts (kx_gV kq_18_xrows_1 kq_18_xrows_2 kq_18_xrows_3 kq_18_xrows_4 kq_18_xrows_5 rfl) rfl rfl rfl (by decide +kernel) ⟨Nat.le_of_ble_eq_true rfl, Nat.le_of_ble_eq_true rfl⟩) ⟨pPre_blind, va_recv hK hP (ci := 5) (q0 := 0) rfl rfl, pPre_give hP hK hG⟩ rfl rfl hl.1 rfl (lv_room (Nat.le_of_ble_eq_true rfl)) dX5_firstOf_2 ⟨Nat.le_of_ble_eq_true rfl, Nat.le_of_ble_eq_true rfl⟩) hS (fun z_3 locs hq_2 hS => ?_)
  refine W.eq (g2 := F0 m 5 ls [.int (iz z_3)]) rfl ?_
  try dsimp only at hq_2
  rcases hq_2 with ⟨rfl, hq_2⟩ | ⟨rfl, hq_2⟩
  · skip
    refine ki_if_eq (tgt := 19) hx hb dX5_firstOf_5 (by decide) (by omega) (by omega) (fun c_4 => ?_) (fun c_4 => ?_)
    · omega
    · skip
      refine lv_aload_n hx hb dX5_firstOf_8 rfl (lv_at hl 0 rfl) ?_
      refine lv_iload_n hx hb dX5_firstOf_9 rfl (lv_at hl 1 rfl) ?_
      have hxG9 : xG N (z 12) G Eo := ⟨by omega, by omega, by omega, fun e9 h9 => hN4 e9 (by omega)⟩
      have hP : va_P (dC, dI) kxCl (xU cI cB cE o r n z F G (Eo 0 0) ++ eP cI N Eo Er En Ez EF) s.heap := hP
      refine xk_pure (va_runV (As := [.int (iz p0)]) (rest := []) ⟨hx, hb, hml, hown, hts⟩ (y_known l dC dI cI cB cE o r n z F G N Eo Er En Ez EF p0 s.heap.size hok hxG9 hPE (by omega) (by omega)) (cwV 1 hts (kx_gV kq_18_xrows_8 kq_18_xrows_9 kq_18_xrows_10 kq_18_xrows_4 kq_18_xrows_11 rfl) rfl rfl rfl (by decide +kernel) ⟨Nat.le_of_ble_eq_true rfl, Nat.le_of_ble_eq_true rfl⟩) ⟨pPre_blind, va_recv hK hP (ci := 5) (q0 := 0) rfl rfl, pPre_give hP hK hG⟩ rfl rfl hl.1 rfl (lv_room (Nat.le_of_ble_eq_true rfl)) dX5_firstOf_10 ⟨Nat.le_of_ble_eq_true rfl, Nat.le_of_ble_eq_true rfl⟩) hS (fun z_6 locs hq_5 hS => ?_)
      refine W.eq (g2 := F0 m 13 ls [.ref z_6.toNat]) rfl ?_
      try dsimp only at hq_5
      obtain ⟨j7, hj7, ez7, hje7⟩ := hq_5
      subst ez7
      refine W.eq (g2 := F0 m 13 ls [.ref (Eo j7 0)]) rfl ?_
      have hP := eP_foc hj7 hP
      have hez_8 : -2147483648 ≤ Ez j7 10 ∧ Ez j7 10 < 2147483648 := (hPE j7 hj7).2.2 10
      refine va_getN (D := (dC, dI)) (ci := 0) (v := .int (iz (Ez j7 10))) (C := RX0) (T := TX0) (N := 12) hx hb hts kt_X0 hown hK hP 29 rfl rfl 8 (by decide) (va_Nw.use rfl (kx_nf hG kq_18_xrows_13)) (fun _ h9 => h9) rfl dX5_firstOf_13 ?_
      refine lv_goto (tgt := 20) hx hb dX5_firstOf_16 (by decide) ?_
      exact xp_iret (z := Ez j7 10) hx hb hr rfl hlocks rfl hS.2.2 dX5_firstOf_20 (by have ej : j7 = (p0 + 1).toNat := (by omega); subst ej; exact ⟨(if_pos (by omega)).symm, by omega⟩)
  · skip
    refine ki_if_eq (tgt := 19) hx hb dX5_firstOf_5 (by decide) (by omega) (by omega) (fun c_9 => ?_) (fun c_9 => ?_)
    · skip
      refine lv_iconst (v := iz (-1)) hx hb dX5_firstOf_19 (by decide) ?_
      exact xp_iret (z := (-1)) hx hb hr rfl hlocks rfl hS.2.2 dX5_firstOf_20 (⟨(if_neg (by omega)).symm, by omega⟩)
    · omega
set_option maxHeartbeats 4000000 in
set_option maxRecDepth 100000 in
theorem y_isSame2 (l : Launch) (dC : Nat → ClassId) (dI : Nat → Nat → Nat) (cI cB cE : ClassId) (o r n : Nat → Nat) (z : Nat → Int) (F : Nat → Int → Int) (G : Nat → Option Nat) (N : Nat) (Eo Er En : Nat → Nat → Nat) (Ez : Nat → Nat → Int) (EF : Nat → Nat → Int → Int) (j1 : Nat) (j2 : Nat) (sz : Nat) (hok : xOk n z F) (hxG : xG N (z 12) G Eo) (hPE : eA N En Ez EF) (hj_j1 : j1 < N) (hj_j2 : j2 < N) : Met l yX5_isSame [.code yX5_isSame cX5_isSame 3 (some .boolean)] ({ frames := 3, cells := 0, slots := 0, locals := 64 }) (va_Pc [.ref (o 15), .ref (Eo j1 0), .ref (Eo j2 0)] (pPre dC dI (xU cI cB cE o r n z F G (Eo 0 0) ++ eP cI N Eo Er En Ez EF) (xT cI cB cE) sz)) (pQ (fun z => some (.int (iz z))) (fun (q : Int) => (q = 1 ∧ (Ez j1 7 = Ez j2 7 ∧ rs_fo (z 12) Ez (Ez j1 8) = rs_fo (z 12) Ez (Ez j2 8) ∧ rs_K 1 Ez EF j1 j2 = 0)) ∨ (q = 0 ∧ ¬ (Ez j1 7 = Ez j2 7 ∧ rs_fo (z 12) Ez (Ez j1 8) = rs_fo (z 12) Ez (Ez j2 8) ∧ rs_K 1 Ez EF j1 j2 = 0)))) 0 0 (fun _ => False) := by
  refine Met.ofW (cc := cX5_isSame) (maxL := 3) (ret := (some .boolean)) (by decide) rfl ?_
  intro p e s m args below meth c s₁ B hml hv
  obtain ⟨rfl, hsz, hP, hK, hG⟩ := hv
  have hx := B.exec
  have hb := B.bytes
  have hr := B.returns
  have hts := kx_hts (a := ([.ref (o 15), .ref (Eo j1 0), .ref (Eo j2 0)] : List Value).toArray) hG
  have hown : s.vm.findClass RX5 = some m.cls := findClass_of_methodNamed B.named
  have hlocks := B.notSynchronized
  subst hsz
  have hS : va_S (fun _ => False) s.heap s.heap [] := va_S.rf
  have hl := lv_entry ([.ref (o 15), .ref (Eo j1 0), .ref (Eo j2 0)]) (n := 3) (Nat.le_of_ble_eq_true rfl)
  rw [lg_entry_eq]
  generalize (lg_sl ([.ref (o 15), .ref (Eo j1 0), .ref (Eo j2 0)]) ++ List.replicate (3 - (lg_sl ([.ref (o 15), .ref (Eo j1 0), .ref (Eo j2 0)])).length) Slot.unset).toArray = ls at hl ⊢
  obtain ⟨hN1, hN2, hN3, hN4⟩ := hxG
  have hl : lv_has ls 3 [(0, .ref (o 15)), (1, .ref (Eo j1 0)), (2, .ref (Eo j2 0))] := hl
  refine lv_aload_n hx hb dX5_isSame_0 rfl (lv_at hl 1 rfl) ?_
  have hP := eP_foc hj_j1 hP
  have hez_1 : -2147483648 ≤ Ez j1 7 ∧ Ez j1 7 < 2147483648 := (hPE j1 hj_j1).2.2 7
  refine va_getN (D := (dC, dI)) (ci := 0) (v := .int (iz (Ez j1 7))) (C := RX0) (T := TX0) (N := 12) hx hb hts kt_X0 hown hK hP 29 rfl rfl 0 (by decide) (va_Nw.use rfl (kx_nf hG kq_18_xrows_12)) (fun _ h9 => h9) rfl dX5_isSame_1 ?_
  refine lv_aload_n hx hb dX5_isSame_4 rfl (lv_at hl 2 rfl) ?_
  have hP := eP_un0 hj_j1 hP
  have hP := eP_foc hj_j2 hP
  have hez_2 : -2147483648 ≤ Ez j2 7 ∧ Ez j2 7 < 2147483648 := (hPE j2 hj_j2).2.2 7
  refine va_getN (D := (dC, dI)) (ci := 0) (v := .int (iz (Ez j2 7))) (C := RX0) (T := TX0) (N := 12) hx hb hts kt_X0 hown hK hP 29 rfl rfl 0 (by decide) (va_Nw.use rfl (kx_nf hG kq_18_xrows_12)) (fun _ h9 => h9) rfl dX5_isSame_5 ?_
  refine ki_icmp_ne (tgt := 48) hx hb dX5_isSame_8 (by decide) (by omega) (by omega) (by omega) (by omega) (fun c_3 => ?_) (fun c_3 => ?_)
  · skip
    refine lv_iconst (v := iz 0) hx hb dX5_isSame_48 (by decide) ?_
    exact xp_iret (z := 0) hx hb hr (mz_bool (by omega)).1 hlocks rfl hS.2.2 dX5_isSame_49 (by omega)
  · skip
    refine lv_aload_n hx hb dX5_isSame_11 rfl (lv_at hl 0 rfl) ?_
    refine lv_aload_n hx hb dX5_isSame_12 rfl (lv_at hl 1 rfl) ?_
    have hP := eP_un0 hj_j2 hP
    have hP := eP_foc hj_j1 hP
    have hez_4 : -2147483648 ≤ Ez j1 8 ∧ Ez j1 8 < 2147483648 := (hPE j1 hj_j1).2.2 8
    refine va_getN (D := (dC, dI)) (ci := 0) (v := .int (iz (Ez j1 8))) (C := RX0) (T := TX0) (N := 12) hx hb hts kt_X0 hown hK hP 29 rfl rfl 1 (by decide) (va_Nw.use rfl (kx_nf hG kq_18_xrows_14)) (fun _ h9 => h9) rfl dX5_isSame_13 ?_
    have hP := eP_un0 hj_j1 hP
    have hxz_5 : -2147483648 ≤ z 12 ∧ z 12 < 2147483648 := hok.2.2.2.1 12
    have hxG9 : xG N (z 12) G Eo := ⟨by omega, by omega, by omega, fun e9 h9 => hN4 e9 (by omega)⟩
    have hP : va_P (dC, dI) kxCl (xU cI cB cE o r n z F G (Eo 0 0) ++ eP cI N Eo Er En Ez EF) s.heap := hP
    refine xk_pure (va_runV (As := [.int (iz (Ez j1 8))]) (rest := []) ⟨hx, hb, hml, hown, hts⟩ (y_firstOf2 l dC dI cI cB cE o r n z F G N Eo Er En Ez EF (Ez j1 8) s.heap.size hok hxG9 hPE (by omega) (by omega)) (cwV 1 hts (kx_gV kq_18_xrows_15 kq_18_xrows_16 kq_18_xrows_17 kq_18_xrows_4 kq_18_xrows_18 rfl) rfl rfl rfl (by decide +kernel) ⟨Nat.le_of_ble_eq_true rfl, Nat.le_of_ble_eq_true rfl⟩) ⟨pPre_blind, va_recv hK hP (ci := 5) (q0 := 0) rfl rfl, pPre_give hP hK hG⟩ rfl rfl hl.1 rfl (lv_room (Nat.le_of_ble_eq_true rfl)) dX5_isSame_16 ⟨Nat.le_of_ble_eq_true rfl, Nat.le_of_ble_eq_true rfl⟩) hS (fun z_7 locs hq_6 hS => ?_)
    refine W.eq (g2 := F0 m 19 ls [.int (iz z_7)]) rfl ?_
    try dsimp only at hq_6
    refine lv_aload_n hx hb dX5_isSame_19 rfl (lv_at hl 0 rfl) ?_
    refine lv_aload_n hx hb dX5_isSame_20 rfl (lv_at hl 2 rfl) ?_
    have hP := eP_foc hj_j2 hP
    have hez_8 : -2147483648 ≤ Ez j2 8 ∧ Ez j2 8 < 2147483648 := (hPE j2 hj_j2).2.2 8
    refine va_getN (D := (dC, dI)) (ci := 0) (v := .int (iz (Ez j2 8))) (C := RX0) (T := TX0) (N := 12) hx hb hts kt_X0 hown hK hP 29 rfl rfl 1 (by decide) (va_Nw.use rfl (kx_nf hG kq_18_xrows_14)) (fun _ h9 => h9) rfl dX5_isSame_21 ?_
    have hP := eP_un0 hj_j2 hP
    have hxG9 : xG N (z 12) G Eo := ⟨by omega, by omega, by omega, fun e9 h9 => hN4 e9 (by omega)⟩
    have hP : va_P (dC, dI) kxCl (xU cI cB cE o r n z F G (Eo 0 0) ++ eP cI N Eo Er En Ez EF) s.heap := hP
    refine xk_pure (va_runV (As := [.int (iz (Ez j2 8))]) (rest := [.int (iz z_7)]) ⟨hx, hb, hml, hown, hts⟩ (y_firstOf2 l dC dI cI cB cE o r n z F G N Eo Er En Ez EF (Ez j2 8) s.heap.size hok hxG9 hPE (by omega) (by omega)) (cwV 1 hts (kx_gV kq_18_xrows_15 kq_18_xrows_16 kq_18_xrows_17 kq_18_xrows_4 kq_18_xrows_18 rfl) rfl rfl rfl (by decide +kernel) ⟨Nat.le_of_ble_eq_true rfl, Nat.le_of_ble_eq_true rfl⟩) ⟨pPre_blind, va_recv hK hP (ci := 5) (q0 := 0) rfl rfl, pPre_give hP hK hG⟩ rfl rfl hl.1 rfl (lv_room (Nat.le_of_ble_eq_true rfl)) dX5_isSame_24 ⟨Nat.le_of_ble_eq_true rfl, Nat.le_of_ble_eq_true rfl⟩) hS (fun z_10 locs hq_9 hS => ?_)
    refine W.eq (g2 := F0 m 27 ls [.int (iz z_10), .int (iz z_7)]) rfl ?_
    try dsimp only at hq_9
    refine ki_icmp_ne (tgt := 48) hx hb dX5_isSame_27 (by decide) (by omega) (by omega) (by omega) (by omega) (fun c_11 => ?_) (fun c_11 => ?_)
    · skip
      refine lv_iconst (v := iz 0) hx hb dX5_isSame_48 (by decide) ?_
      exact xp_iret (z := 0) hx hb hr (mz_bool (by omega)).1 hlocks rfl hS.2.2 dX5_isSame_49 (by omega)
    · skip
      refine lv_aload_n hx hb dX5_isSame_30 rfl (lv_at hl 1 rfl) ?_
      have hP := eP_foc hj_j1 hP
      refine va_getN (D := (dC, dI)) (ci := 0) (v := .ref (Eo j1 2)) (C := RX0) (T := TX0) (N := 12) hx hb hts kt_X0 hown hK hP 29 rfl rfl 3 (by decide) (va_Nw.use rfl (kx_nf hG kq_18_xrows_19)) (fun _ h9 => h9) rfl dX5_isSame_31 ?_
      refine lv_aload_n hx hb dX5_isSame_34 rfl (lv_at hl 2 rfl) ?_
      have hP := eP_un0 hj_j1 hP
      have hP := eP_foc hj_j2 hP
      refine va_getN (D := (dC, dI)) (ci := 0) (v := .ref (Eo j2 2)) (C := RX0) (T := TX0) (N := 12) hx hb hts kt_X0 hown hK hP 29 rfl rfl 3 (by decide) (va_Nw.use rfl (kx_nf hG kq_18_xrows_19)) (fun _ h9 => h9) rfl dX5_isSame_35 ?_
      have hP := eP_un0 hj_j2 hP
      have hPk := hP
      have hP : va_P (dC, dI) kxCl ((xU cI cB cE o r n z F G (Eo 0 0)) ++ (eU cI (Eo j2) (Er j2) (En j2) (Ez j2) (EF j2)) ++ (eU cI (Eo j1) (Er j1) (En j1) (Ez j1) (EF j1))) s.heap := (((eP_hd hP).app (eP_get hj_j2 hP)).app (eP_get hj_j1 hP))
      have he_12 : 0 ≤ Ez j1 1 ∧ Ez j1 1 ≤ ((En j1 1 : Nat) : Int) ∧ ((En j1 1 : Nat) : Int) ≤ 20 := (hPE j1 hj_j1).1 1 (by decide)
      have he_13 : 0 ≤ Ez j2 1 ∧ Ez j2 1 ≤ ((En j2 1 : Nat) : Int) ∧ ((En j2 1 : Nat) : Int) ≤ 20 := (hPE j2 hj_j2).1 1 (by decide)
      have hPc := hP.sub (ws' := ((iU cI 20 (Eo j1 2) (Er j1 1) (En j1 1) (Ez j1 1) (EF j1 1)) ++ (iU cI 20 (Eo j2 2) (Er j2 1) (En j2 1) (Ez j2 1) (EF j2 1)))) [48, 49, 32, 33] rfl
      refine xk_pure (va_runV (As := [.ref (Eo j2 2)]) (rest := []) ⟨hx, hb, hml, hown, hts⟩ (x_orderTo2 l dC dI cI cB cE 20 (Eo j1 2) (Er j1 1) (En j1 1) (Ez j1 1) (EF j1 1) 20 (Eo j2 2) (Er j2 1) (En j2 1) (Ez j2 1) (EF j2 1)  s.heap.size (by omega) ((hPE j1 hj_j1).2.1 1) (by omega) ((hPE j2 hj_j2).2.1 1)) (cwV 1 hts (kx_gV kq_18_xrows_20 kq_16_xentry_26 kq_16_xentry_27 kq_13_xints_6 kq_16_xentry_28 rfl) rfl rfl rfl (by decide +kernel) ⟨Nat.le_of_ble_eq_true rfl, Nat.le_of_ble_eq_true rfl⟩) ⟨pPre_blind, va_recv hK hPc (ci := 1) (q0 := 0) rfl rfl, pPre_give hPc hK hG⟩ rfl rfl hl.1 rfl (lv_room (Nat.le_of_ble_eq_true rfl)) dX5_isSame_38 ⟨Nat.le_of_ble_eq_true rfl, Nat.le_of_ble_eq_true rfl⟩) hS (fun z_15 locs hq_14 hS => ?_)
      refine W.eq (g2 := F0 m 41 ls [.int (iz z_15)]) rfl ?_
      try dsimp only at hq_14
      have hP := hPk
      have hq_14 : z_15 = rs_K 1 Ez EF j1 j2 := hq_14
      have hq_14b := rs_K_bd 1 Ez EF j1 j2
      refine ki_if_ne (tgt := 48) hx hb dX5_isSame_41 (by decide) (by omega) (by omega) (fun c_16 => ?_) (fun c_16 => ?_)
      · skip
        refine lv_iconst (v := iz 0) hx hb dX5_isSame_48 (by decide) ?_
        exact xp_iret (z := 0) hx hb hr (mz_bool (by omega)).1 hlocks rfl hS.2.2 dX5_isSame_49 (by omega)
      · skip
        refine lv_iconst (v := iz 1) hx hb dX5_isSame_44 (by decide) ?_
        refine lv_goto (tgt := 49) hx hb dX5_isSame_45 (by decide) ?_
        exact xp_iret (z := 1) hx hb hr (mz_bool (by omega)).1 hlocks rfl hS.2.2 dX5_isSame_49 (by omega)
set_option maxHeartbeats 4000000 in
set_option maxRecDepth 100000 in
theorem y_firstSame2 (l : Launch) (dC : Nat → ClassId) (dI : Nat → Nat → Nat) (cI cB cE : ClassId) (o r n : Nat → Nat) (z : Nat → Int) (F : Nat → Int → Int) (G : Nat → Option Nat) (N : Nat) (Eo Er En : Nat → Nat → Nat) (Ez : Nat → Nat → Int) (EF : Nat → Nat → Int → Int) (p0 : Int) (lv : Int → Int) (ab : Int → Int) (Wd : Int → Int → Prop) (cm : Int → Int → Int) (sz : Nat) (hok : xOk n z F) (hxG : xG N (z 12) G Eo) (hPE : eA N En Ez EF) (h0 : 0 ≤ p0 ∧ p0 < z 12 ∧ p0 ≤ 78) (hRH : rs_H (z 12) Ez EF lv ab Wd cm) : Met l yX5_firstSame [.code yX5_firstSame cX5_firstSame 3 (some .int)] ({ frames := 4, cells := 0, slots := 0, locals := 86 }) (va_Pc [.ref (o 15), .int (iz p0)] (pPre dC dI (xU cI cB cE o r n z F G (Eo 0 0) ++ eP cI N Eo Er En Ez EF) (xT cI cB cE) sz)) (pQ (fun z => some (.int (iz z))) (fun (q : Int) => (0 ≤ q ∧ q ≤ p0) ∧ (q = p0 ∨ rs_al lv ab Wd (rs_sE Ez) p0 q) ∧ ∀ k, 0 ≤ k → k < q → ¬ rs_al lv ab Wd (rs_sE Ez) p0 k)) 0 0 (fun _ => False) := by
  refine Met.ofW (cc := cX5_firstSame) (maxL := 3) (ret := (some .int)) (by decide) rfl ?_
  intro p e s m args below meth c s₁ B hml hv
  obtain ⟨rfl, hsz, hP, hK, hG⟩ := hv
  have hx := B.exec
  have hb := B.bytes
  have hr := B.returns
  have hts := kx_hts (a := ([.ref (o 15), .int (iz p0)] : List Value).toArray) hG
  have hown : s.vm.findClass RX5 = some m.cls := findClass_of_methodNamed B.named
  have hlocks := B.notSynchronized
  subst hsz
  have hS : va_S (fun _ => False) s.heap s.heap [] := va_S.rf
  have hl := lv_entry ([.ref (o 15), .int (iz p0)]) (n := 3) (Nat.le_of_ble_eq_true rfl)
  rw [lg_entry_eq]
  generalize (lg_sl ([.ref (o 15), .int (iz p0)]) ++ List.replicate (3 - (lg_sl ([.ref (o 15), .int (iz p0)])).length) Slot.unset).toArray = ls at hl ⊢
  obtain ⟨hN1, hN2, hN3, hN4⟩ := hxG
  have hl : lv_has ls 3 [(0, .ref (o 15)), (1, .int (iz p0))] := hl
  generalize hQe : MQ below (pQ (fun z => some (.int (iz z))) (fun (q : Int) => (0 ≤ q ∧ q ≤ p0) ∧ (q = p0 ∨ rs_al lv ab Wd (rs_sE Ez) p0 q) ∧ ∀ k, 0 ≤ k → k < q → ¬ rs_al lv ab Wd (rs_sE Ez) p0 k)) ([.ref (o 15), .int (iz p0)] : List Value).toArray s 0 0 (fun _ => False) = QQ
  refine lv_iconst (v := iz 0) hx hb dX5_firstSame_0 (by decide) ?_
  refine lv_istore_n (lv' := [(2, .int (iz 0)), (0, .ref (o 15)), (1, .int (iz p0))]) hx hb dX5_firstSame_1 rfl hl (by decide) rfl (fun ls hl => ?_)
  have lp2 : ∀ (n0 : Nat) (k : Int), ((0 ≤ k ∧ k ≤ p0) ∧ (∀ i, 0 ≤ i → i < k → ¬ rs_al lv ab Wd (rs_sE Ez) p0 i)) → (p0 - k).toNat < n0 → ∀ (locs : List Loc), va_S (fun _ => False) s.heap s.heap locs → ∀ ls : Array Slot, lv_has ls 3 [(2, .int (iz k)), (0, .ref (o 15)), (1, .int (iz p0))] → W p l e (headSpec [.code yX5_firstSame cX5_firstSame 3 (some .int)] ({ frames := 4, cells := 0, slots := 0, locals := 86 })).room s m ([.ref (o 15), .int (iz p0)] : List Value).toArray below meth c s.heap locs 0 0 QQ (F0 m 2 ls []) := by
    intro n0
    induction n0 with
    | zero => intro k hinv hm0; exact absurd hm0 (Nat.not_lt_zero _)
    | succ n0 ih2 =>
      intro k hinv hm0 locs hS ls hl
      obtain ⟨hk, hno⟩ := hinv
      refine lv_iload_n hx hb dX5_firstSame_2 rfl (lv_at hl 0 rfl) ?_
      refine lv_iload_n hx hb dX5_firstSame_3 rfl (lv_at hl 2 rfl) ?_
      refine ki_icmp_ge (tgt := 32) hx hb dX5_firstSame_4 (by decide) (by omega) (by omega) (by omega) (by omega) (fun c_1 => ?_) (fun c_1 => ?_)
      · skip
        refine lv_iload_n hx hb dX5_firstSame_32 rfl (lv_at hl 2 rfl) ?_
        rw [← hQe]
        exact xp_iret (z := p0) hx hb hr rfl hlocks rfl hS.2.2 dX5_firstSame_33 (⟨by omega, Or.inl rfl, fun k9 a b => hno k9 a (by omega)⟩)
      · skip
        refine lv_aload_n hx hb dX5_firstSame_7 rfl (lv_at hl 1 rfl) ?_
        refine lv_aload_n hx hb dX5_firstSame_8 rfl (lv_at hl 1 rfl) ?_
        refine lv_iload_n hx hb dX5_firstSame_9 rfl (lv_at hl 2 rfl) ?_
        have hxz_2 : -2147483648 ≤ z 12 ∧ z 12 < 2147483648 := hok.2.2.2.1 12
        have hxG9 : xG N (z 12) G Eo := ⟨by omega, by omega, by omega, fun e9 h9 => hN4 e9 (by omega)⟩
        have hP : va_P (dC, dI) kxCl (xU cI cB cE o r n z F G (Eo 0 0) ++ eP cI N Eo Er En Ez EF) s.heap := hP
        refine xk_pure (va_runV (As := [.int (iz p0)]) (rest := [.ref (o 15)]) ⟨hx, hb, hml, hown, hts⟩ (y_known l dC dI cI cB cE o r n z F G N Eo Er En Ez EF p0 s.heap.size hok hxG9 hPE (by omega) (by omega)) (cwV 1 hts (kx_gV kq_18_xrows_8 kq_18_xrows_9 kq_18_xrows_10 kq_18_xrows_4 kq_18_xrows_11 rfl) rfl rfl rfl (by decide +kernel) ⟨Nat.le_of_ble_eq_true rfl, Nat.le_of_ble_eq_true rfl⟩) ⟨pPre_blind, va_recv hK hP (ci := 5) (q0 := 0) rfl rfl, pPre_give hP hK hG⟩ rfl rfl hl.1 rfl (lv_room (Nat.le_of_ble_eq_true rfl)) dX5_firstSame_10 ⟨Nat.le_of_ble_eq_true rfl, Nat.le_of_ble_eq_true rfl⟩) hS (fun z_4 locs hq_3 hS => ?_)
        refine W.eq (g2 := F0 m 13 ls [.ref z_4.toNat, .ref (o 15)]) rfl ?_
        try dsimp only at hq_3
        obtain ⟨j5, hj5, ez5, hje5⟩ := hq_3
        subst ez5
        refine W.eq (g2 := F0 m 13 ls [.ref (Eo j5 0), .ref (o 15)]) rfl ?_
        have ej5 : j5 = (p0 + 1).toNat := by omega
        subst ej5
        refine lv_aload_n hx hb dX5_firstSame_13 rfl (lv_at hl 1 rfl) ?_
        refine lv_iload_n hx hb dX5_firstSame_14 rfl (lv_at hl 0 rfl) ?_
        have hxG9 : xG N (z 12) G Eo := ⟨by omega, by omega, by omega, fun e9 h9 => hN4 e9 (by omega)⟩
        have hP : va_P (dC, dI) kxCl (xU cI cB cE o r n z F G (Eo 0 0) ++ eP cI N Eo Er En Ez EF) s.heap := hP
        refine xk_pure (va_runV (As := [.int (iz k)]) (rest := [.ref (Eo ((p0 + 1).toNat) 0), .ref (o 15)]) ⟨hx, hb, hml, hown, hts⟩ (y_known l dC dI cI cB cE o r n z F G N Eo Er En Ez EF k s.heap.size hok hxG9 hPE (by omega) (by omega)) (cwV 1 hts (kx_gV kq_18_xrows_8 kq_18_xrows_9 kq_18_xrows_10 kq_18_xrows_4 kq_18_xrows_11 rfl) rfl rfl rfl (by decide +kernel) ⟨Nat.le_of_ble_eq_true rfl, Nat.le_of_ble_eq_true rfl⟩) ⟨pPre_blind, va_recv hK hP (ci := 5) (q0 := 0) rfl rfl, pPre_give hP hK hG⟩ rfl rfl hl.1 rfl (lv_room (Nat.le_of_ble_eq_true rfl)) dX5_firstSame_15 ⟨Nat.le_of_ble_eq_true rfl, Nat.le_of_ble_eq_true rfl⟩) hS (fun z_7 locs hq_6 hS => ?_)
        refine W.eq (g2 := F0 m 18 ls [.ref z_7.toNat, .ref (Eo ((p0 + 1).toNat) 0), .ref (o 15)]) rfl ?_
        try dsimp only at hq_6
        obtain ⟨j8, hj8, ez8, hje8⟩ := hq_6
        subst ez8
        refine W.eq (g2 := F0 m 18 ls [.ref (Eo j8 0), .ref (Eo ((p0 + 1).toNat) 0), .ref (o 15)]) rfl ?_
        have ej8 : j8 = (k + 1).toNat := by omega
        subst ej8
        have hxG9 : xG N (z 12) G Eo := ⟨by omega, by omega, by omega, fun e9 h9 => hN4 e9 (by omega)⟩
        have hP : va_P (dC, dI) kxCl (xU cI cB cE o r n z F G (Eo 0 0) ++ eP cI N Eo Er En Ez EF) s.heap := hP
        refine xk_pure (va_runV (As := [.ref (Eo ((p0 + 1).toNat) 0), .ref (Eo ((k + 1).toNat) 0)]) (rest := []) ⟨hx, hb, hml, hown, hts⟩ (y_isSame2 l dC dI cI cB cE o r n z F G N Eo Er En Ez EF ((p0 + 1).toNat) ((k + 1).toNat) s.heap.size hok hxG9 hPE hj5 hj8) (cwV 2 hts (kx_gV kq_18_xrows_21 kq_18_xrows_22 kq_18_xrows_23 kq_18_xrows_4 kq_18_xrows_24 rfl) rfl rfl rfl (by decide +kernel) ⟨Nat.le_of_ble_eq_true rfl, Nat.le_of_ble_eq_true rfl⟩) ⟨pPre_blind, va_recv hK hP (ci := 5) (q0 := 0) rfl rfl, pPre_give hP hK hG⟩ rfl rfl hl.1 rfl (lv_room (Nat.le_of_ble_eq_true rfl)) dX5_firstSame_18 ⟨Nat.le_of_ble_eq_true rfl, Nat.le_of_ble_eq_true rfl⟩) hS (fun z_10 locs hq_9 hS => ?_)
        refine W.eq (g2 := F0 m 21 ls [.int (iz z_10)]) rfl ?_
        try dsimp only at hq_9
        rw [hRH.same (by omega) (by omega)] at hq_9
        rcases hq_9 with ⟨rfl, hq_9⟩ | ⟨rfl, hq_9⟩
        · skip
          refine ki_if_eq (tgt := 26) hx hb dX5_firstSame_21 (by decide) (by omega) (by omega) (fun c_11 => ?_) (fun c_11 => ?_)
          · omega
          · skip
            refine lv_iload_n hx hb dX5_firstSame_24 rfl (lv_at hl 0 rfl) ?_
            rw [← hQe]
            exact xp_iret (z := k) hx hb hr rfl hlocks rfl hS.2.2 dX5_firstSame_25 (⟨by omega, Or.inr hq_9, hno⟩)
        · skip
          refine ki_if_eq (tgt := 26) hx hb dX5_firstSame_21 (by decide) (by omega) (by omega) (fun c_12 => ?_) (fun c_12 => ?_)
          · skip
            refine lv_iinc (v := iz (k + 1)) (lv' := [(2, .int (iz (k + 1))), (0, .ref (o 15)), (1, .int (iz p0))]) hx hb dX5_firstSame_26 hl (k := 0) rfl (iz_add k 1) (by decide) rfl (fun ls hl => ?_)
            refine lv_goto (tgt := 2) hx hb dX5_firstSame_29 (by decide) ?_
            exact ih2 (k + 1) ⟨by omega, fun i a b => by by_cases c9 : i = k; (rw [c9]; exact hq_9); exact hno i a (by omega)⟩ (by omega) _ hS ls (lv_sub hl [0, 1, 2] rfl)
          · omega
  exact lp2 _ 0 ⟨by omega, fun i a b => absurd b (by omega)⟩ (Nat.lt_succ_self _) _ hS ls (lv_sub hl [0, 1, 2] rfl)
set_option maxHeartbeats 4000000 in
set_option maxRecDepth 100000 in
theorem y_sortFirsts2 (l : Launch) (dC : Nat → ClassId) (dI : Nat → Nat → Nat) (cI cB cE : ClassId) (o r n : Nat → Nat) (z : Nat → Int) (F : Nat → Int → Int) (G : Nat → Option Nat) (N : Nat) (Eo Er En : Nat → Nat → Nat) (Ez : Nat → Nat → Int) (EF : Nat → Nat → Int → Int) (lv : Int → Int) (ab : Int → Int) (Wd : Int → Int → Prop) (cm : Int → Int → Int) (sz : Nat) (hok : xOk n z F) (hxG : xG N (z 12) G Eo) (hPE : eA N En Ez EF) (hRH : rs_H (z 12) Ez EF lv ab Wd cm) (h79 : z 12 ≤ 78) : Met l yX5_sortFirsts [.code yX5_sortFirsts cX5_sortFirsts 3 none] ({ frames := 3, cells := 100, slots := 45000, locals := 103 }) (va_Pc [.ref (o 15)] (kx_Pre dC dI (xU cI cB cE o r n z F G (Eo 0 0) ++ eP cI N Eo Er En Ez EF) (xT cI cB cE) sz)) (xQ (fun _ : (Nat → Nat) × (Nat → Nat) × (Nat → Int) × (Nat → Int → Int) × (Nat → Nat → Nat) × (Nat → Nat → Nat) × (Nat → Nat → Int) × (Nat → Nat → Int → Int) => none) (fun (u : (Nat → Nat) × (Nat → Nat) × (Nat → Int) × (Nat → Int → Int) × (Nat → Nat → Nat) × (Nat → Nat → Nat) × (Nat → Nat → Int) × (Nat → Nat → Int → Int)) (dn dm : Nat) => match u with | (r', n', z', F', Er', En', Ez', EF') => xR [0] [0] [] [] N z F En Ez EF n' z' F' En' Ez' EF' ∧ (dn + xg n' ≤ xg n + 0 ∧ dm + xp n' ≤ xp n + 0) ∧ (rs_so (rs_lt cm) (F' 0) 0 (z' 0) ∧ (∀ x, rs_me (F' 0) 0 (z' 0) x ↔ (0 ≤ x ∧ x < z 12 ∧ rs_sE Ez x = x)) ∧ Er = Er' ∧ En = En' ∧ Ez = Ez' ∧ EF = EF')) (fun u t => kx_At dC dI (va_A (xU cI cB cE o r n z F G (Eo 0 0) ++ eP cI N Eo Er En Ez EF) sz) ((fun u : (Nat → Nat) × (Nat → Nat) × (Nat → Int) × (Nat → Int → Int) × (Nat → Nat → Nat) × (Nat → Nat → Nat) × (Nat → Nat → Int) × (Nat → Nat → Int → Int) => match u with | (r', n', z', F', Er', En', Ez', EF') => (xU cI cB cE o r' n' z' F' G (Eo 0 0) ++ eP cI N Eo Er' En' Ez' EF')) u) (xT cI cB cE) t) (va_A (xU cI cB cE o r n z F G (Eo 0 0) ++ eP cI N Eo Er En Ez EF) sz)) 100 45000 (va_A (xU cI cB cE o r n z F G (Eo 0 0) ++ eP cI N Eo Er En Ez EF) sz) := by
  refine Met.ofW (cc := cX5_sortFirsts) (maxL := 3) (ret := none) (by decide) rfl ?_
  intro p e s m args below meth c s₁ B hml hv
  obtain ⟨rfl, hsz, hP, hK, hD0, hG, hZ⟩ := hv
  have hx := B.exec
  have hb := B.bytes
  have hr := B.returns
  have hts := kx_hts (a := ([.ref (o 15)] : List Value).toArray) hG
  have hown : s.vm.findClass RX5 = some m.cls := findClass_of_methodNamed B.named
  have hlocks := B.notSynchronized
  subst hsz
  have hD := hD0.self (sz := s.heap.size)
  generalize hAe : va_A (xU cI cB cE o r n z F G (Eo 0 0) ++ eP cI N Eo Er En Ez EF) s.heap.size = A at hD hZ ⊢
  have hA : ∀ q : Nat, s.heap.size ≤ q → A q := fun q h => by rw [← hAe]; exact Or.inr h
  have hS : va_S A s.heap s.heap [] := va_S.rf
  have hl := lv_entry ([.ref (o 15)]) (n := 3) (Nat.le_of_ble_eq_true rfl)
  rw [lg_entry_eq]
  generalize (lg_sl ([.ref (o 15)]) ++ List.replicate (3 - (lg_sl ([.ref (o 15)])).length) Slot.unset).toArray = ls at hl ⊢
  obtain ⟨hN1, hN2, hN3, hN4⟩ := hxG
  have hef : eFr [] [] En Ez EF En Ez EF := eFr.rf
  have hfr : xFr [0] [0] z F z F := xFr.rf
  have hxgl := xg_le n
  have hxpl := xp_le n
  have hl : lv_has ls 3 [(0, .ref (o 15))] := hl
  generalize hQe : MQ below (xQ (fun _ : (Nat → Nat) × (Nat → Nat) × (Nat → Int) × (Nat → Int → Int) × (Nat → Nat → Nat) × (Nat → Nat → Nat) × (Nat → Nat → Int) × (Nat → Nat → Int → Int) => none) (fun (u : (Nat → Nat) × (Nat → Nat) × (Nat → Int) × (Nat → Int → Int) × (Nat → Nat → Nat) × (Nat → Nat → Nat) × (Nat → Nat → Int) × (Nat → Nat → Int → Int)) (dn dm : Nat) => match u with | (r', n', z', F', Er', En', Ez', EF') => xR [0] [0] [] [] N z F En Ez EF n' z' F' En' Ez' EF' ∧ (dn + xg n' ≤ xg n + 0 ∧ dm + xp n' ≤ xp n + 0) ∧ (rs_so (rs_lt cm) (F' 0) 0 (z' 0) ∧ (∀ x, rs_me (F' 0) 0 (z' 0) x ↔ (0 ≤ x ∧ x < z 12 ∧ rs_sE Ez x = x)) ∧ Er = Er' ∧ En = En' ∧ Ez = Ez' ∧ EF = EF')) (fun u t => kx_At dC dI A ((fun u : (Nat → Nat) × (Nat → Nat) × (Nat → Int) × (Nat → Int → Int) × (Nat → Nat → Nat) × (Nat → Nat → Nat) × (Nat → Nat → Int) × (Nat → Nat → Int → Int) => match u with | (r', n', z', F', Er', En', Ez', EF') => (xU cI cB cE o r' n' z' F' G (Eo 0 0) ++ eP cI N Eo Er' En' Ez' EF')) u) (xT cI cB cE) t) A) ([.ref (o 15)] : List Value).toArray s 100 45000 A = QQ
  refine lv_aload_n hx hb dX5_sortFirsts_0 rfl (lv_at hl 0 rfl) ?_
  refine va_get (D := (dC, dI)) (ci := 5) (v := .ref (o 0)) (C := RX5) (T := TX5) (N := 16) hx hb hts kt_X5 hown hK hP 0 rfl rfl 5 (by decide) (kx_word hG kq_18_xrows_37 rfl) (fun _ h9 => h9) rfl dX5_sortFirsts_1 ?_
  have hxi_1 : 0 ≤ z 0 ∧ z 0 ≤ ((n 0 : Nat) : Int) ∧ ((n 0 : Nat) : Int) ≤ 80 := hok.1 0 (by decide)
  have hPc := hP.sub (ws' := (iU cI 80 (o 0) (r 0) (n 0) (z 0) (F 0))) [2, 3] rfl
  have hDc := hD.sub (ws' := (iU cI 80 (o 0) (r 0) (n 0) (z 0) (F 0))) [2, 3] (by decide) rfl
  have hFc := va_free (wc := (iU cI 80 (o 0) (r 0) (n 0) (z 0) (F 0))) hD hS hA [2, 3] rfl
  refine xk_call (va_runV (As := []) (rest := []) ⟨hx, hb, hml, hown, hts⟩ (x_clear l dC dI cI cB cE 80 (o 0) (r 0) (n 0) (z 0) (F 0)  s.heap.size ) (cwV 0 hts (kx_gV kq_18_xrows_38 kq_15_xspan_42 kq_15_xspan_43 kq_13_xints_6 kq_15_xspan_44 rfl) rfl rfl rfl (by decide +kernel) ⟨Nat.le_of_ble_eq_true rfl, Nat.le_of_ble_eq_true rfl⟩) ⟨kx_blind, va_recv hK hPc (ci := 1) (q0 := 0) rfl rfl, kx_give (ws := []) (tys := []) hPc hDc hK hG hZ hS hFc⟩ rfl rfl hl.1 rfl (lv_room (Nat.le_of_ble_eq_true rfl)) dX5_sortFirsts_4 ⟨show 0 + 0 ≤ 100 from (by omega), show 0 + 0 ≤ 45000 from (by omega)⟩) hS (fun q _ h => hFc q h) hFc (fun u dn_3 dm_4 t H locs ht hvm hq_2 hB hk1 hS => ?_)
  obtain ⟨z_5, rfl⟩ : ∃ z, z = u := ⟨_, rfl⟩
  obtain ⟨hP1, hK1, hD1⟩ := hB
  rw [ht] at hP1
  obtain ⟨hP, hD⟩ := xj_pool (wr := [(o 15, .inr (5, [.ref (o 16), .ref (Eo 0 0), .int (iz (z 12)), .int (iz (z 13)), .int (iz (z 14)), .ref (o 0), .ref (o 1), .int (iz (z 15)), .ref (o 13), .ref (o 14), .int (iz (z 16)), .ref (o 2), .ref (o 12), .ref (o 3), .ref (o 10), .ref (o 11)])), (o 16, .inl (cE, 80, .inr (.inr (.inr (.inr G))))), (o 1, .inr (1, [.int (iz 80), .ref (r 1), .int (iz (z 1))])), (r 1, .inl (cI, n 1, .inl (iA (F 1)))), (o 2, .inr (1, [.int (iz 80), .ref (r 2), .int (iz (z 2))])), (r 2, .inl (cI, n 2, .inl (iA (F 2)))), (o 3, .inr (1, [.int (iz 80), .ref (r 3), .int (iz (z 3))])), (r 3, .inl (cI, n 3, .inl (iA (F 3)))), (o 13, .inr (3, [.ref (o 4), .ref (o 5), .ref (o 6)])), (o 4, .inr (1, [.int (iz 1600), .ref (r 4), .int (iz (z 4))])), (r 4, .inl (cI, n 4, .inl (iA (F 4)))), (o 5, .inr (1, [.int (iz 1600), .ref (r 5), .int (iz (z 5))])), (r 5, .inl (cI, n 5, .inl (iA (F 5)))), (o 6, .inr (1, [.int (iz 1600), .ref (r 6), .int (iz (z 6))])), (r 6, .inl (cI, n 6, .inl (iA (F 6)))), (o 14, .inr (3, [.ref (o 7), .ref (o 8), .ref (o 9)])), (o 7, .inr (1, [.int (iz 1600), .ref (r 7), .int (iz (z 7))])), (r 7, .inl (cI, n 7, .inl (iA (F 7)))), (o 8, .inr (1, [.int (iz 1600), .ref (r 8), .int (iz (z 8))])), (r 8, .inl (cI, n 8, .inl (iA (F 8)))), (o 9, .inr (1, [.int (iz 1600), .ref (r 9), .int (iz (z 9))])), (r 9, .inl (cI, n 9, .inl (iA (F 9)))), (o 12, .inr (4, [.int (iz (z 17)), .int (iz (z 18)), .int (iz (z 19)), .int (iz (z 20)), .int (iz (z 21))])), (o 10, .inr (2, [.ref (r 10), .int (iz (z 10)), .int (iz (z 22))])), (r 10, .inl (cB, n 10, .inl (iA (F 10)))), (o 11, .inr (2, [.ref (r 11), .int (iz (z 11)), .int (iz (z 23))])), (r 11, .inl (cB, n 11, .inl (iA (F 11))))]) (w1 := (iU cI 80 (o 0) (r 0) (n 0) z_5 (F 0))) (ws' := (xU cI cB cE o r n (va_up z 0 z_5) F G (Eo 0 0))) hP hD [2, 3] [0, 1, 4, 5, 6, 7, 8, 9, 10, 11, 12, 13, 14, 15, 16, 17, 18, 19, 20, 21, 22, 23, 24, 25, 26, 27, 28] [0, 1, 27, 28, 2, 3, 4, 5, 6, 7, 8, 9, 10, 11, 12, 13, 14, 15, 16, 17, 18, 19, 20, 21, 22, 23, 24, 25, 26] rfl rfl (by decide) (by decide) hk1 hFc hP1 hD1 rfl (by decide)
  refine W.eq (g2 := F0 m 7 ls []) rfl ?_
  try dsimp only at hq_2
  obtain ⟨hd6, hm6, hz6⟩ := hq_2
  subst hd6
  subst hm6
  refine lv_iconst (v := iz 0) hx hb dX5_sortFirsts_7 (by decide) ?_
  refine lv_istore_n (lv' := [(1, .int (iz 0)), (0, .ref (o 15))]) hx hb dX5_sortFirsts_8 rfl hl (by decide) rfl (fun ls hl => ?_)
  have hok7 : xOk (va_up n 0 (n 0)) (va_up z 0 z_5) (va_up F 0 (F 0)) := (hok.i 0 (by decide) (show 0 ≤ z_5 ∧ z_5 ≤ ((n 0 : Nat) : Int) ∧ ((n 0 : Nat) : Int) ≤ 80 by omega) (hok.2.2.1 0))
  have hfr7 : xFr [0] [0] z F (va_up z 0 z_5) (va_up F 0 (F 0)) := ((hfr.uz 0 (by decide) _).uf 0 (by decide) _)
  have hcg7 : (0) + xg (va_up n 0 (n 0)) ≤ xg n := by unfold xg; simp (decide := true) only [va_ev, ↓reduceIte]; omega
  have hcp7 : (0) + xp (va_up n 0 (n 0)) ≤ xp n := by unfold xp; simp (decide := true) only [va_ev, ↓reduceIte]; omega
  have lp9 : ∀ (n0 : Nat) (k : Int) (rL9 : Nat → Nat) (nL9 : Nat → Nat) (zL9 : Nat → Int) (FL9 : Nat → Int → Int) (cv : Nat) (sv : Nat), ((xR [0] [0] [] [] N z F En Ez EF nL9 zL9 FL9 En Ez EF) ∧ (cv + xg nL9 ≤ xg n + (0) ∧ sv + xp nL9 ≤ xp n + (0)) ∧ (zL9 12 = z 12) ∧ (0 ≤ k ∧ k ≤ 79 ∧ k ≤ z 12) ∧ (rs_so (rs_lt cm) (FL9 0) 0 (zL9 0)) ∧ (∀ x, rs_me (FL9 0) 0 (zL9 0) x ↔ (0 ≤ x ∧ x < k ∧ rs_sE Ez x = x)) ∧ (0 ≤ zL9 0 ∧ zL9 0 ≤ k)) → (z 12 - k).toNat < n0 → ∀ (H : Heap) (locs : List Loc), va_P (dC, dI) kxCl ((xU cI cB cE o rL9 nL9 zL9 FL9 G (Eo 0 0)) ++ (eP cI N Eo Er En Ez EF)) H → va_D A ((xU cI cB cE o rL9 nL9 zL9 FL9 G (Eo 0 0)) ++ (eP cI N Eo Er En Ez EF)) → va_S A s.heap H locs → ∀ ls : Array Slot, lv_has ls 3 [(1, .int (iz k)), (0, .ref (o 15))] → W p l e (headSpec [.code yX5_sortFirsts cX5_sortFirsts 3 none] ({ frames := 3, cells := 100, slots := 45000, locals := 103 })).room s m ([.ref (o 15)] : List Value).toArray below meth c H locs cv sv QQ (F0 m 9 ls []) := by
    intro n0
    induction n0 with
    | zero => intro k rL9 nL9 zL9 FL9 cv sv hinv hm0; exact absurd hm0 (Nat.not_lt_zero _)
    | succ n0 ih9 =>
      intro k rL9 nL9 zL9 FL9 cv sv hinv hm0 H locs hP hD hS ls hl
      obtain ⟨hRLL9, hCLL9, hZLL9, hk, hso, hme, hz0⟩ := hinv
      refine lv_iload_n hx hb dX5_sortFirsts_9 rfl (lv_at hl 0 rfl) ?_
      refine lv_aload_n hx hb dX5_sortFirsts_10 rfl (lv_at hl 1 rfl) ?_
      have hxz_8 : -2147483648 ≤ zL9 12 ∧ zL9 12 < 2147483648 := hRLL9.1.2.2.2.1 12
      refine va_get (D := (dC, dI)) (ci := 5) (v := .int (iz (zL9 12))) (C := RX5) (T := TX5) (N := 16) hx hb hts kt_X5 hown hK hP 0 rfl rfl 2 (by decide) (kx_word hG kq_18_xrows_0 rfl) (fun _ h9 => h9) rfl dX5_sortFirsts_11 ?_
      refine ki_icmp_ge (tgt := 99) hx hb dX5_sortFirsts_14 (by decide) (by omega) (by omega) (by omega) (by omega) (fun c_9 => ?_) (fun c_9 => ?_)
      · skip
        rw [← hQe]
        exact xk_vret (ov := (fun _ : (Nat → Nat) × (Nat → Nat) × (Nat → Int) × (Nat → Int → Int) × (Nat → Nat → Nat) × (Nat → Nat → Nat) × (Nat → Nat → Int) × (Nat → Nat → Int → Int) => none)) (post := (fun (u : (Nat → Nat) × (Nat → Nat) × (Nat → Int) × (Nat → Int → Int) × (Nat → Nat → Nat) × (Nat → Nat → Nat) × (Nat → Nat → Int) × (Nat → Nat → Int → Int)) (dn dm : Nat) => match u with | (r', n', z', F', Er', En', Ez', EF') => xR [0] [0] [] [] N z F En Ez EF n' z' F' En' Ez' EF' ∧ (dn + xg n' ≤ xg n + 0 ∧ dm + xp n' ≤ xp n + 0) ∧ (rs_so (rs_lt cm) (F' 0) 0 (z' 0) ∧ (∀ x, rs_me (F' 0) 0 (z' 0) x ↔ (0 ≤ x ∧ x < z 12 ∧ rs_sE Ez x = x)) ∧ Er = Er' ∧ En = En' ∧ Ez = Ez' ∧ EF = EF'))) (ws := (fun u : (Nat → Nat) × (Nat → Nat) × (Nat → Int) × (Nat → Int → Int) × (Nat → Nat → Nat) × (Nat → Nat → Nat) × (Nat → Nat → Int) × (Nat → Nat → Int → Int) => match u with | (r', n', z', F', Er', En', Ez', EF') => (xU cI cB cE o r' n' z' F' G (Eo 0 0) ++ eP cI N Eo Er' En' Ez' EF'))) (tys := xT cI cB cE) (rL9, nL9, zL9, FL9, Er, En, Ez, EF) hx hb hr hlocks rfl hP hD hK hS dX5_sortFirsts_99 (fun dn dm hdn hdm => ⟨⟨hRLL9.1, hRLL9.2.1, hRLL9.2.2.1, hRLL9.2.2.2⟩, ⟨by omega, by omega⟩, ⟨hso, fun x => (hme x).trans ⟨fun h9 => ⟨h9.1, by omega, h9.2.2⟩, fun h9 => ⟨h9.1, by omega, h9.2.2⟩⟩, rfl, rfl, rfl, rfl⟩⟩) (by omega) (by omega)
      · skip
        refine lv_aload_n hx hb dX5_sortFirsts_17 rfl (lv_at hl 1 rfl) ?_
        refine lv_iload_n hx hb dX5_sortFirsts_18 rfl (lv_at hl 0 rfl) ?_
        have hxG9 : xG N (zL9 12) G Eo := ⟨by omega, by omega, by omega, fun e9 h9 => hN4 e9 (by omega)⟩
        have hP : va_P (dC, dI) kxCl (xU cI cB cE o rL9 nL9 zL9 FL9 G (Eo 0 0) ++ eP cI N Eo Er En Ez EF) H := hP
        refine xk_pure (va_runV (As := [.int (iz k)]) (rest := []) ⟨hx, hb, hml, hown, hts⟩ (y_firstOf2 l dC dI cI cB cE o rL9 nL9 zL9 FL9 G N Eo Er En Ez EF k H.size hRLL9.1 hxG9 hRLL9.2.2.1 (by omega) (by omega)) (cwV 1 hts (kx_gV kq_18_xrows_15 kq_18_xrows_16 kq_18_xrows_17 kq_18_xrows_4 kq_18_xrows_18 rfl) rfl rfl rfl (by decide +kernel) ⟨Nat.le_of_ble_eq_true rfl, Nat.le_of_ble_eq_true rfl⟩) ⟨pPre_blind, va_recv hK hP (ci := 5) (q0 := 0) rfl rfl, pPre_give hP hK hG⟩ rfl rfl hl.1 rfl (lv_room (Nat.le_of_ble_eq_true rfl)) dX5_sortFirsts_19 ⟨show cv + 0 ≤ 100 from (by omega), show sv + 0 ≤ 45000 from (by omega)⟩) hS (fun z_11 locs hq_10 hS => ?_)
        refine W.eq (g2 := F0 m 22 ls [.int (iz z_11)]) rfl ?_
        try dsimp only at hq_10
        obtain ⟨hq_10, hq_10b⟩ := hq_10
        subst hq_10
        refine W.eq (g2 := F0 m 22 ls [.int (iz (rs_fo (zL9 12) Ez k))]) rfl ?_
        refine lv_iload_n hx hb dX5_sortFirsts_22 rfl (lv_at hl 0 rfl) ?_
        refine ki_icmp_eq (tgt := 29) hx hb dX5_sortFirsts_23 (by decide) (by omega) (by omega) (by omega) (by omega) (fun c_12 => ?_) (fun c_12 => ?_)
        · skip
          have hff : rs_sE Ez k = k := (if_pos (show 0 ≤ k ∧ k < zL9 12 by omega)).symm.trans (show rs_fo (zL9 12) Ez k = k by omega)
          refine lv_aload_n hx hb dX5_sortFirsts_29 rfl (lv_at hl 1 rfl) ?_
          refine va_get (D := (dC, dI)) (ci := 5) (v := .ref (o 0)) (C := RX5) (T := TX5) (N := 16) hx hb hts kt_X5 hown hK hP 0 rfl rfl 5 (by decide) (kx_word hG kq_18_xrows_37 rfl) (fun _ h9 => h9) rfl dX5_sortFirsts_30 ?_
          refine lv_iload_n hx hb dX5_sortFirsts_33 rfl (lv_at hl 0 rfl) ?_
          have hxi_13 : 0 ≤ zL9 0 ∧ zL9 0 ≤ ((nL9 0 : Nat) : Int) ∧ ((nL9 0 : Nat) : Int) ≤ 80 := hRLL9.1.1 0 (by decide)
          have hPc := hP.sub (ws' := (iU cI 80 (o 0) (rL9 0) (nL9 0) (zL9 0) (FL9 0))) [2, 3] rfl
          have hDc := hD.sub (ws' := (iU cI 80 (o 0) (rL9 0) (nL9 0) (zL9 0) (FL9 0))) [2, 3] (by decide) rfl
          have hFc := va_free (wc := (iU cI 80 (o 0) (rL9 0) (nL9 0) (zL9 0) (FL9 0))) hD hS hA [2, 3] rfl
          refine xk_call (va_runV (As := [.int (iz k)]) (rest := []) ⟨hx, hb, hml, hown, hts⟩ (x_add l dC dI cI cB cE 80 (o 0) (rL9 0) (nL9 0) (zL9 0) (FL9 0) k H.size (by omega) (hRLL9.1.2.2.1 0) (by omega) (by omega)) (cwV 1 hts (kx_gV kq_18_xrows_39 kq_15_xspan_46 kq_15_xspan_47 kq_13_xints_6 kq_15_xspan_48 rfl) rfl rfl rfl (by decide +kernel) ⟨Nat.le_of_ble_eq_true rfl, Nat.le_of_ble_eq_true rfl⟩) ⟨kx_blind, va_recv hK hPc (ci := 1) (q0 := 0) rfl rfl, kx_give (ws := []) (tys := []) hPc hDc hK hG hZ hS hFc⟩ rfl rfl hl.1 rfl (lv_room (Nat.le_of_ble_eq_true rfl)) dX5_sortFirsts_34 ⟨show cv + 1 ≤ 100 from (by omega), show sv + 1600 ≤ 45000 from (by omega)⟩) hS (fun q _ h => hFc q h) hFc (fun u dn_15 dm_16 t H locs ht hvm hq_14 hB hk1 hS => ?_)
          obtain ⟨r_17, n_18, z_19, F_20⟩ := u
          obtain ⟨hP1, hK1, hD1⟩ := hB
          rw [ht] at hP1
          obtain ⟨hP, hD⟩ := xj_pool (wr := [(o 15, .inr (5, [.ref (o 16), .ref (Eo 0 0), .int (iz (zL9 12)), .int (iz (zL9 13)), .int (iz (zL9 14)), .ref (o 0), .ref (o 1), .int (iz (zL9 15)), .ref (o 13), .ref (o 14), .int (iz (zL9 16)), .ref (o 2), .ref (o 12), .ref (o 3), .ref (o 10), .ref (o 11)])), (o 16, .inl (cE, 80, .inr (.inr (.inr (.inr G))))), (o 1, .inr (1, [.int (iz 80), .ref (rL9 1), .int (iz (zL9 1))])), (rL9 1, .inl (cI, nL9 1, .inl (iA (FL9 1)))), (o 2, .inr (1, [.int (iz 80), .ref (rL9 2), .int (iz (zL9 2))])), (rL9 2, .inl (cI, nL9 2, .inl (iA (FL9 2)))), (o 3, .inr (1, [.int (iz 80), .ref (rL9 3), .int (iz (zL9 3))])), (rL9 3, .inl (cI, nL9 3, .inl (iA (FL9 3)))), (o 13, .inr (3, [.ref (o 4), .ref (o 5), .ref (o 6)])), (o 4, .inr (1, [.int (iz 1600), .ref (rL9 4), .int (iz (zL9 4))])), (rL9 4, .inl (cI, nL9 4, .inl (iA (FL9 4)))), (o 5, .inr (1, [.int (iz 1600), .ref (rL9 5), .int (iz (zL9 5))])), (rL9 5, .inl (cI, nL9 5, .inl (iA (FL9 5)))), (o 6, .inr (1, [.int (iz 1600), .ref (rL9 6), .int (iz (zL9 6))])), (rL9 6, .inl (cI, nL9 6, .inl (iA (FL9 6)))), (o 14, .inr (3, [.ref (o 7), .ref (o 8), .ref (o 9)])), (o 7, .inr (1, [.int (iz 1600), .ref (rL9 7), .int (iz (zL9 7))])), (rL9 7, .inl (cI, nL9 7, .inl (iA (FL9 7)))), (o 8, .inr (1, [.int (iz 1600), .ref (rL9 8), .int (iz (zL9 8))])), (rL9 8, .inl (cI, nL9 8, .inl (iA (FL9 8)))), (o 9, .inr (1, [.int (iz 1600), .ref (rL9 9), .int (iz (zL9 9))])), (rL9 9, .inl (cI, nL9 9, .inl (iA (FL9 9)))), (o 12, .inr (4, [.int (iz (zL9 17)), .int (iz (zL9 18)), .int (iz (zL9 19)), .int (iz (zL9 20)), .int (iz (zL9 21))])), (o 10, .inr (2, [.ref (rL9 10), .int (iz (zL9 10)), .int (iz (zL9 22))])), (rL9 10, .inl (cB, nL9 10, .inl (iA (FL9 10)))), (o 11, .inr (2, [.ref (rL9 11), .int (iz (zL9 11)), .int (iz (zL9 23))])), (rL9 11, .inl (cB, nL9 11, .inl (iA (FL9 11))))]) (w1 := (iU cI 80 (o 0) r_17 n_18 z_19 F_20)) (ws' := (xU cI cB cE o (va_up rL9 0 r_17) (va_up nL9 0 n_18) (va_up zL9 0 z_19) (va_up FL9 0 F_20) G (Eo 0 0))) hP hD [2, 3] [0, 1, 4, 5, 6, 7, 8, 9, 10, 11, 12, 13, 14, 15, 16, 17, 18, 19, 20, 21, 22, 23, 24, 25, 26, 27, 28] [0, 1, 27, 28, 2, 3, 4, 5, 6, 7, 8, 9, 10, 11, 12, 13, 14, 15, 16, 17, 18, 19, 20, 21, 22, 23, 24, 25, 26] rfl rfl (by decide) (by decide) hk1 hFc hP1 hD1 rfl (by decide)
          refine W.eq (g2 := F0 m 37 ls []) rfl ?_
          try dsimp only at hq_14
          obtain ⟨ha21, hb21, hc21, hd21⟩ := hq_14
          have hax21 := hd21.1
          obtain ⟨haz, haf, hav⟩ := rs_added (by omega) (by omega) hd21
          refine lv_aload_n hx hb dX5_sortFirsts_37 rfl (lv_at hl 1 rfl) ?_
          refine va_get (D := (dC, dI)) (ci := 5) (v := .ref (o 0)) (C := RX5) (T := TX5) (N := 16) hx hb hts kt_X5 hown hK hP 0 rfl rfl 5 (by decide) (kx_word hG kq_18_xrows_37 rfl) (fun _ h9 => h9) rfl dX5_sortFirsts_38 ?_
          have hPc := hP.sub (ws' := (iU cI 80 (o 0) r_17 n_18 z_19 F_20)) [2, 3] rfl
          refine xk_pure (va_runV (As := []) (rest := []) ⟨hx, hb, hml, hown, hts⟩ (x_size l dC dI cI cB cE 80 (o 0) r_17 n_18 z_19 F_20  H.size ) (cwV 0 hts (kx_gV kq_18_xrows_40 kq_15_xspan_10 kq_15_xspan_11 kq_13_xints_6 kq_15_xspan_12 rfl) rfl rfl rfl (by decide +kernel) ⟨Nat.le_of_ble_eq_true rfl, Nat.le_of_ble_eq_true rfl⟩) ⟨pPre_blind, va_recv hK hPc (ci := 1) (q0 := 0) rfl rfl, pPre_give hPc hK hG⟩ rfl rfl hl.1 rfl (lv_room (Nat.le_of_ble_eq_true rfl)) dX5_sortFirsts_41 ⟨show (cv + dn_15) + 0 ≤ 100 from (by omega), show (sv + dm_16) + 0 ≤ 45000 from (by omega)⟩) hS (fun z_23 locs hq_22 hS => ?_)
          refine W.eq (g2 := F0 m 44 ls [.int (iz z_23)]) rfl ?_
          try dsimp only at hq_22
          have hq_22 := hq_22.symm
          subst hq_22
          refine lv_iconst (v := iz 1) hx hb dX5_sortFirsts_44 (by decide) ?_
          refine ki_isub hx hb dX5_sortFirsts_45 ?_
          refine lv_istore_n (lv' := [(2, .int (iz (z_19 - 1))), (1, .int (iz k)), (0, .ref (o 15))]) hx hb dX5_sortFirsts_46 rfl hl (by decide) rfl (fun ls hl => ?_)
          have hok24 : xOk (va_up nL9 0 n_18) (va_up zL9 0 z_19) (va_up FL9 0 F_20) := (hRLL9.1.i 0 (by decide) (show 0 ≤ z_19 ∧ z_19 ≤ ((n_18 : Nat) : Int) ∧ ((n_18 : Nat) : Int) ≤ 80 by omega) hb21)
          have hfr24 : xFr [0] [0] z F (va_up zL9 0 z_19) (va_up FL9 0 F_20) := ((hRLL9.2.1.uz 0 (by decide) _).uf 0 (by decide) _)
          have hcg24 : (dn_15) + xg (va_up nL9 0 n_18) ≤ xg nL9 := by unfold xg; simp (decide := true) only [va_ev, ↓reduceIte]; omega
          have hcp24 : (dm_16) + xp (va_up nL9 0 n_18) ≤ xp nL9 := by unfold xp; simp (decide := true) only [va_ev, ↓reduceIte]; omega
          have lp47 : ∀ (n0 : Nat) (i : Int) (rL47 : Nat → Nat) (nL47 : Nat → Nat) (zL47 : Nat → Int) (FL47 : Nat → Int → Int) (cv : Nat) (sv : Nat), ((xR [0] [0] [] [] N z F En Ez EF nL47 zL47 FL47 En Ez EF) ∧ (cv + xg nL47 ≤ xg n + (0) ∧ sv + xp nL47 ≤ xp n + (0)) ∧ (zL47 12 = z 12) ∧ (0 ≤ i ∧ i ≤ zL9 0) ∧ (zL47 0 = zL9 0 + 1) ∧ (∀ j, 0 ≤ j → j < i → FL47 0 j = FL9 0 j) ∧ (FL47 0 i = k) ∧ (∀ j, i < j → j ≤ zL9 0 → FL47 0 j = FL9 0 (j - 1)) ∧ (∀ j, i ≤ j → j < zL9 0 → rs_lt cm k (FL9 0 j))) → (i).toNat < n0 → ∀ (H : Heap) (locs : List Loc), va_P (dC, dI) kxCl ((xU cI cB cE o rL47 nL47 zL47 FL47 G (Eo 0 0)) ++ (eP cI N Eo Er En Ez EF)) H → va_D A ((xU cI cB cE o rL47 nL47 zL47 FL47 G (Eo 0 0)) ++ (eP cI N Eo Er En Ez EF)) → va_S A s.heap H locs → ∀ ls : Array Slot, lv_has ls 3 [(2, .int (iz i)), (1, .int (iz k)), (0, .ref (o 15))] → W p l e (headSpec [.code yX5_sortFirsts cX5_sortFirsts 3 none] ({ frames := 3, cells := 100, slots := 45000, locals := 103 })).room s m ([.ref (o 15)] : List Value).toArray below meth c H locs cv sv QQ (F0 m 47 ls []) := by
            intro n0
            induction n0 with
            | zero => intro i rL47 nL47 zL47 FL47 cv sv hinv hm0; exact absurd hm0 (Nat.not_lt_zero _)
            | succ n0 ih47 =>
              intro i rL47 nL47 zL47 FL47 cv sv hinv hm0 H locs hP hD hS ls hl
              obtain ⟨hRLL47, hCLL47, hZLL47, hi, hz9, hg1, hg2, hg3, hgr⟩ := hinv
              refine lv_iload_n hx hb dX5_sortFirsts_47 rfl (lv_at hl 0 rfl) ?_
              refine ki_if_le (tgt := 93) hx hb dX5_sortFirsts_48 (by decide) (by omega) (by omega) (fun c_25 => ?_) (fun c_25 => ?_)
              · skip
                refine lv_iinc (v := iz (k + 1)) (lv' := [(1, .int (iz (k + 1))), (2, .int (iz i)), (0, .ref (o 15))]) hx hb dX5_sortFirsts_93 hl (k := 1) rfl (iz_add k 1) (by decide) rfl (fun ls hl => ?_)
                refine lv_goto (tgt := 9) hx hb dX5_sortFirsts_96 (by decide) ?_
                exact ih9 (k + 1) rL47 nL47 zL47 FL47 cv sv ⟨⟨hRLL47.1, hRLL47.2.1, hRLL47.2.2.1, hRLL47.2.2.2⟩, ⟨by omega, by omega⟩, (show zL47 12 = z 12 by omega), by omega, by rw [hz9]; exact (rs_sort_add (s := rs_sE Ez) hRH.1.2.2 (by omega) hso hme (by omega) hg1 hg2 hg3 hgr (Or.inl (by omega)) hff).1, by rw [hz9]; exact (rs_sort_add (s := rs_sE Ez) hRH.1.2.2 (by omega) hso hme (by omega) hg1 hg2 hg3 hgr (Or.inl (by omega)) hff).2, by omega⟩ (by omega) _ _ hP hD hS ls (lv_sub hl [0, 2] rfl)
              · skip
                refine lv_aload_n hx hb dX5_sortFirsts_51 rfl (lv_at hl 2 rfl) ?_
                refine lv_iload_n hx hb dX5_sortFirsts_52 rfl (lv_at hl 1 rfl) ?_
                have hxz_26 : -2147483648 ≤ zL47 12 ∧ zL47 12 < 2147483648 := hRLL47.1.2.2.2.1 12
                have hxG9 : xG N (zL47 12) G Eo := ⟨by omega, by omega, by omega, fun e9 h9 => hN4 e9 (by omega)⟩
                have hP : va_P (dC, dI) kxCl (xU cI cB cE o rL47 nL47 zL47 FL47 G (Eo 0 0) ++ eP cI N Eo Er En Ez EF) H := hP
                refine xk_pure (va_runV (As := [.int (iz k)]) (rest := []) ⟨hx, hb, hml, hown, hts⟩ (y_known l dC dI cI cB cE o rL47 nL47 zL47 FL47 G N Eo Er En Ez EF k H.size hRLL47.1 hxG9 hRLL47.2.2.1 (by omega) (by omega)) (cwV 1 hts (kx_gV kq_18_xrows_8 kq_18_xrows_9 kq_18_xrows_10 kq_18_xrows_4 kq_18_xrows_11 rfl) rfl rfl rfl (by decide +kernel) ⟨Nat.le_of_ble_eq_true rfl, Nat.le_of_ble_eq_true rfl⟩) ⟨pPre_blind, va_recv hK hP (ci := 5) (q0 := 0) rfl rfl, pPre_give hP hK hG⟩ rfl rfl hl.1 rfl (lv_room (Nat.le_of_ble_eq_true rfl)) dX5_sortFirsts_53 ⟨show cv + 0 ≤ 100 from (by omega), show sv + 0 ≤ 45000 from (by omega)⟩) hS (fun z_28 locs hq_27 hS => ?_)
                refine W.eq (g2 := F0 m 56 ls [.ref z_28.toNat]) rfl ?_
                try dsimp only at hq_27
                obtain ⟨j29, hj29, ez29, hje29⟩ := hq_27
                subst ez29
                refine W.eq (g2 := F0 m 56 ls [.ref (Eo j29 0)]) rfl ?_
                have ej29 : j29 = (k + 1).toNat := by omega
                subst ej29
                refine lv_aload_n hx hb dX5_sortFirsts_56 rfl (lv_at hl 2 rfl) ?_
                refine lv_aload_n hx hb dX5_sortFirsts_57 rfl (lv_at hl 2 rfl) ?_
                refine va_get (D := (dC, dI)) (ci := 5) (v := .ref (o 0)) (C := RX5) (T := TX5) (N := 16) hx hb hts kt_X5 hown hK hP 0 rfl rfl 5 (by decide) (kx_word hG kq_18_xrows_37 rfl) (fun _ h9 => h9) rfl dX5_sortFirsts_58 ?_
                refine lv_iload_n hx hb dX5_sortFirsts_61 rfl (lv_at hl 0 rfl) ?_
                refine lv_iconst (v := iz 1) hx hb dX5_sortFirsts_62 (by decide) ?_
                refine ki_isub hx hb dX5_sortFirsts_63 ?_
                have hxi_30 : 0 ≤ zL47 0 ∧ zL47 0 ≤ ((nL47 0 : Nat) : Int) ∧ ((nL47 0 : Nat) : Int) ≤ 80 := hRLL47.1.1 0 (by decide)
                have hPc := hP.sub (ws' := (iU cI 80 (o 0) (rL47 0) (nL47 0) (zL47 0) (FL47 0))) [2, 3] rfl
                refine xk_pure (va_runV (As := [.int (iz (i - 1))]) (rest := [.ref (o 15), .ref (Eo ((k + 1).toNat) 0)]) ⟨hx, hb, hml, hown, hts⟩ (x_get l dC dI cI cB cE 80 (o 0) (rL47 0) (nL47 0) (zL47 0) (FL47 0) (i - 1) H.size (by omega) (hRLL47.1.2.2.1 0) (by omega) (by omega)) (cwV 1 hts (kx_gV kq_18_xrows_41 kq_13_xints_4 kq_13_xints_5 kq_13_xints_6 kq_13_xints_7 rfl) rfl rfl rfl (by decide +kernel) ⟨Nat.le_of_ble_eq_true rfl, Nat.le_of_ble_eq_true rfl⟩) ⟨pPre_blind, va_recv hK hPc (ci := 1) (q0 := 0) rfl rfl, pPre_give hPc hK hG⟩ rfl rfl hl.1 rfl (lv_room (Nat.le_of_ble_eq_true rfl)) dX5_sortFirsts_64 ⟨show cv + 0 ≤ 100 from (by omega), show sv + 0 ≤ 45000 from (by omega)⟩) hS (fun z_32 locs hq_31 hS => ?_)
                refine W.eq (g2 := F0 m 67 ls [.int (iz z_32), .ref (o 15), .ref (Eo ((k + 1).toNat) 0)]) rfl ?_
                try dsimp only at hq_31
                have hx9 := (hme (FL9 0 (i - 1))).mp ⟨i - 1, by omega, by omega, rfl⟩
                have ev_33 : z_32 = FL9 0 (i - 1) := by have h9 := hg1 (i - 1) (by omega) (by omega); omega
                subst ev_33
                refine W.eq (g2 := F0 m 67 ls [.int (iz (FL9 0 (i - 1))), .ref (o 15), .ref (Eo ((k + 1).toNat) 0)]) rfl ?_
                have hxG9 : xG N (zL47 12) G Eo := ⟨by omega, by omega, by omega, fun e9 h9 => hN4 e9 (by omega)⟩
                have hP : va_P (dC, dI) kxCl (xU cI cB cE o rL47 nL47 zL47 FL47 G (Eo 0 0) ++ eP cI N Eo Er En Ez EF) H := hP
                refine xk_pure (va_runV (As := [.int (iz (FL9 0 (i - 1)))]) (rest := [.ref (Eo ((k + 1).toNat) 0)]) ⟨hx, hb, hml, hown, hts⟩ (y_known l dC dI cI cB cE o rL47 nL47 zL47 FL47 G N Eo Er En Ez EF (FL9 0 (i - 1)) H.size hRLL47.1 hxG9 hRLL47.2.2.1 (by omega) (by omega)) (cwV 1 hts (kx_gV kq_18_xrows_8 kq_18_xrows_9 kq_18_xrows_10 kq_18_xrows_4 kq_18_xrows_11 rfl) rfl rfl rfl (by decide +kernel) ⟨Nat.le_of_ble_eq_true rfl, Nat.le_of_ble_eq_true rfl⟩) ⟨pPre_blind, va_recv hK hP (ci := 5) (q0 := 0) rfl rfl, pPre_give hP hK hG⟩ rfl rfl hl.1 rfl (lv_room (Nat.le_of_ble_eq_true rfl)) dX5_sortFirsts_67 ⟨show cv + 0 ≤ 100 from (by omega), show sv + 0 ≤ 45000 from (by omega)⟩) hS (fun z_35 locs hq_34 hS => ?_)
                refine W.eq (g2 := F0 m 70 ls [.ref z_35.toNat, .ref (Eo ((k + 1).toNat) 0)]) rfl ?_
                try dsimp only at hq_34
                obtain ⟨j36, hj36, ez36, hje36⟩ := hq_34
                subst ez36
                refine W.eq (g2 := F0 m 70 ls [.ref (Eo j36 0), .ref (Eo ((k + 1).toNat) 0)]) rfl ?_
                have ej36 : j36 = ((FL9 0 (i - 1)) + 1).toNat := by omega
                subst ej36
                have hPk := hP
                have hP : va_P (dC, dI) kxCl ((xU cI cB cE o rL47 nL47 zL47 FL47 G (Eo 0 0)) ++ (eU cI (Eo (((FL9 0 (i - 1)) + 1).toNat)) (Er (((FL9 0 (i - 1)) + 1).toNat)) (En (((FL9 0 (i - 1)) + 1).toNat)) (Ez (((FL9 0 (i - 1)) + 1).toNat)) (EF (((FL9 0 (i - 1)) + 1).toNat))) ++ (eU cI (Eo ((k + 1).toNat)) (Er ((k + 1).toNat)) (En ((k + 1).toNat)) (Ez ((k + 1).toNat)) (EF ((k + 1).toNat)))) H := (((eP_hd hP).app (eP_get hj36 hP)).app (eP_get hj29 hP))
                have hPc := hP.sub (ws' := ((eU cI (Eo ((k + 1).toNat)) (Er ((k + 1).toNat)) (En ((k + 1).toNat)) (Ez ((k + 1).toNat)) (EF ((k + 1).toNat))) ++ (eU cI (Eo (((FL9 0 (i - 1)) + 1).toNat)) (Er (((FL9 0 (i - 1)) + 1).toNat)) (En (((FL9 0 (i - 1)) + 1).toNat)) (Ez (((FL9 0 (i - 1)) + 1).toNat)) (EF (((FL9 0 (i - 1)) + 1).toNat))))) [45, 46, 47, 48, 49, 50, 51, 52, 53, 54, 55, 56, 57, 58, 59, 60, 29, 30, 31, 32, 33, 34, 35, 36, 37, 38, 39, 40, 41, 42, 43, 44] rfl
                refine xk_pure (va_runV (As := [.ref (Eo (((FL9 0 (i - 1)) + 1).toNat) 0)]) (rest := []) ⟨hx, hb, hml, hown, hts⟩ (x_eorderTo2 l dC dI cI cB cE (Eo ((k + 1).toNat)) (Er ((k + 1).toNat)) (En ((k + 1).toNat)) (Ez ((k + 1).toNat)) (EF ((k + 1).toNat)) (Eo (((FL9 0 (i - 1)) + 1).toNat)) (Er (((FL9 0 (i - 1)) + 1).toNat)) (En (((FL9 0 (i - 1)) + 1).toNat)) (Ez (((FL9 0 (i - 1)) + 1).toNat)) (EF (((FL9 0 (i - 1)) + 1).toNat))  H.size (hRLL47.2.2.1 ((k + 1).toNat) hj29) (hRLL47.2.2.1 (((FL9 0 (i - 1)) + 1).toNat) hj36)) (cwV 1 hts (kx_gV kq_18_xrows_42 kq_18_xrows_43 kq_18_xrows_44 kq_16_xentry_2 kq_18_xrows_45 rfl) rfl rfl rfl (by decide +kernel) ⟨Nat.le_of_ble_eq_true rfl, Nat.le_of_ble_eq_true rfl⟩) ⟨pPre_blind, va_recv hK hPc (ci := 0) (q0 := 0) rfl rfl, pPre_give hPc hK hG⟩ rfl rfl hl.1 rfl (lv_room (Nat.le_of_ble_eq_true rfl)) dX5_sortFirsts_70 ⟨show cv + 0 ≤ 100 from (by omega), show sv + 0 ≤ 45000 from (by omega)⟩) hS (fun z_38 locs hq_37 hS => ?_)
                refine W.eq (g2 := F0 m 73 ls [.int (iz z_38)]) rfl ?_
                try dsimp only at hq_37
                have hP := hPk
                have hq_37b2 := rs_K_bd 2 Ez EF ((k + 1).toNat) ((FL9 0 (i - 1) + 1).toNat)
                have hq_37b1 := rs_K_bd 1 Ez EF ((k + 1).toNat) ((FL9 0 (i - 1) + 1).toNat)
                have hq_37 : (¬ rs_K 2 Ez EF ((k + 1).toNat) ((FL9 0 (i - 1) + 1).toNat) = 0 ∧ z_38 = rs_K 2 Ez EF ((k + 1).toNat) ((FL9 0 (i - 1) + 1).toNat)) ∨ (rs_K 2 Ez EF ((k + 1).toNat) ((FL9 0 (i - 1) + 1).toNat) = 0 ∧ z_38 = rs_K 1 Ez EF ((k + 1).toNat) ((FL9 0 (i - 1) + 1).toNat)) := hq_37
                have hq_37b3 : -1 ≤ z_38 ∧ z_38 ≤ 1 := by omega
                have hcm9 : z_38 = cm k (FL9 0 (i - 1)) := hRH.ord (by omega) (by omega) hq_37
                refine ki_if_ge (tgt := 93) hx hb dX5_sortFirsts_73 (by decide) (by omega) (by omega) (fun c_39 => ?_) (fun c_39 => ?_)
                · skip
                  refine lv_iinc (v := iz (k + 1)) (lv' := [(1, .int (iz (k + 1))), (2, .int (iz i)), (0, .ref (o 15))]) hx hb dX5_sortFirsts_93 hl (k := 1) rfl (iz_add k 1) (by decide) rfl (fun ls hl => ?_)
                  refine lv_goto (tgt := 9) hx hb dX5_sortFirsts_96 (by decide) ?_
                  exact ih9 (k + 1) rL47 nL47 zL47 FL47 cv sv ⟨⟨hRLL47.1, hRLL47.2.1, hRLL47.2.2.1, hRLL47.2.2.2⟩, ⟨by omega, by omega⟩, (show zL47 12 = z 12 by omega), by omega, by rw [hz9]; exact (rs_sort_add (s := rs_sE Ez) hRH.1.2.2 (by omega) hso hme (by omega) hg1 hg2 hg3 hgr (Or.inr (by omega)) hff).1, by rw [hz9]; exact (rs_sort_add (s := rs_sE Ez) hRH.1.2.2 (by omega) hso hme (by omega) hg1 hg2 hg3 hgr (Or.inr (by omega)) hff).2, by omega⟩ (by omega) _ _ hP hD hS ls (lv_sub hl [0, 2] rfl)
                · skip
                  refine lv_aload_n hx hb dX5_sortFirsts_76 rfl (lv_at hl 2 rfl) ?_
                  refine va_get (D := (dC, dI)) (ci := 5) (v := .ref (o 0)) (C := RX5) (T := TX5) (N := 16) hx hb hts kt_X5 hown hK hP 0 rfl rfl 5 (by decide) (kx_word hG kq_18_xrows_37 rfl) (fun _ h9 => h9) rfl dX5_sortFirsts_77 ?_
                  refine lv_iload_n hx hb dX5_sortFirsts_80 rfl (lv_at hl 0 rfl) ?_
                  refine lv_iload_n hx hb dX5_sortFirsts_81 rfl (lv_at hl 0 rfl) ?_
                  refine lv_iconst (v := iz 1) hx hb dX5_sortFirsts_82 (by decide) ?_
                  refine ki_isub hx hb dX5_sortFirsts_83 ?_
                  have hPc := hP.sub (ws' := (iU cI 80 (o 0) (rL47 0) (nL47 0) (zL47 0) (FL47 0))) [2, 3] rfl
                  have hDc := hD.sub (ws' := (iU cI 80 (o 0) (rL47 0) (nL47 0) (zL47 0) (FL47 0))) [2, 3] (by decide) rfl
                  have hFc := va_free (wc := (iU cI 80 (o 0) (rL47 0) (nL47 0) (zL47 0) (FL47 0))) hD hS hA [2, 3] rfl
                  refine xk_call (va_runV (As := [.int (iz i), .int (iz (i - 1))]) (rest := []) ⟨hx, hb, hml, hown, hts⟩ (x_swap2 l dC dI cI cB cE 80 (o 0) (rL47 0) (nL47 0) (zL47 0) (FL47 0) i (i - 1) H.size (by omega) (hRLL47.1.2.2.1 0) (by omega) (by omega) (by omega) (by omega) (by omega) (by omega)) (cwV 2 hts (kx_gV kq_18_xrows_46 kq_15_xspan_60 kq_15_xspan_61 kq_13_xints_6 kq_15_xspan_62 rfl) rfl rfl rfl (by decide +kernel) ⟨Nat.le_of_ble_eq_true rfl, Nat.le_of_ble_eq_true rfl⟩) ⟨kx_blind, va_recv hK hPc (ci := 1) (q0 := 0) rfl rfl, kx_give (ws := []) (tys := []) hPc hDc hK hG hZ hS hFc⟩ rfl rfl hl.1 rfl (lv_room (Nat.le_of_ble_eq_true rfl)) dX5_sortFirsts_84 ⟨show cv + 0 ≤ 100 from (by omega), show sv + 0 ≤ 45000 from (by omega)⟩) hS (fun q _ h => hFc q h) hFc (fun u dn_41 dm_42 t H locs ht hvm hq_40 hB hk1 hS => ?_)
                  obtain ⟨F_43, rfl⟩ : ∃ z, z = u := ⟨_, rfl⟩
                  obtain ⟨hP1, hK1, hD1⟩ := hB
                  rw [ht] at hP1
                  obtain ⟨hP, hD⟩ := xj_pool (wr := [(o 15, .inr (5, [.ref (o 16), .ref (Eo 0 0), .int (iz (zL47 12)), .int (iz (zL47 13)), .int (iz (zL47 14)), .ref (o 0), .ref (o 1), .int (iz (zL47 15)), .ref (o 13), .ref (o 14), .int (iz (zL47 16)), .ref (o 2), .ref (o 12), .ref (o 3), .ref (o 10), .ref (o 11)])), (o 16, .inl (cE, 80, .inr (.inr (.inr (.inr G))))), (o 1, .inr (1, [.int (iz 80), .ref (rL47 1), .int (iz (zL47 1))])), (rL47 1, .inl (cI, nL47 1, .inl (iA (FL47 1)))), (o 2, .inr (1, [.int (iz 80), .ref (rL47 2), .int (iz (zL47 2))])), (rL47 2, .inl (cI, nL47 2, .inl (iA (FL47 2)))), (o 3, .inr (1, [.int (iz 80), .ref (rL47 3), .int (iz (zL47 3))])), (rL47 3, .inl (cI, nL47 3, .inl (iA (FL47 3)))), (o 13, .inr (3, [.ref (o 4), .ref (o 5), .ref (o 6)])), (o 4, .inr (1, [.int (iz 1600), .ref (rL47 4), .int (iz (zL47 4))])), (rL47 4, .inl (cI, nL47 4, .inl (iA (FL47 4)))), (o 5, .inr (1, [.int (iz 1600), .ref (rL47 5), .int (iz (zL47 5))])), (rL47 5, .inl (cI, nL47 5, .inl (iA (FL47 5)))), (o 6, .inr (1, [.int (iz 1600), .ref (rL47 6), .int (iz (zL47 6))])), (rL47 6, .inl (cI, nL47 6, .inl (iA (FL47 6)))), (o 14, .inr (3, [.ref (o 7), .ref (o 8), .ref (o 9)])), (o 7, .inr (1, [.int (iz 1600), .ref (rL47 7), .int (iz (zL47 7))])), (rL47 7, .inl (cI, nL47 7, .inl (iA (FL47 7)))), (o 8, .inr (1, [.int (iz 1600), .ref (rL47 8), .int (iz (zL47 8))])), (rL47 8, .inl (cI, nL47 8, .inl (iA (FL47 8)))), (o 9, .inr (1, [.int (iz 1600), .ref (rL47 9), .int (iz (zL47 9))])), (rL47 9, .inl (cI, nL47 9, .inl (iA (FL47 9)))), (o 12, .inr (4, [.int (iz (zL47 17)), .int (iz (zL47 18)), .int (iz (zL47 19)), .int (iz (zL47 20)), .int (iz (zL47 21))])), (o 10, .inr (2, [.ref (rL47 10), .int (iz (zL47 10)), .int (iz (zL47 22))])), (rL47 10, .inl (cB, nL47 10, .inl (iA (FL47 10)))), (o 11, .inr (2, [.ref (rL47 11), .int (iz (zL47 11)), .int (iz (zL47 23))])), (rL47 11, .inl (cB, nL47 11, .inl (iA (FL47 11))))]) (w1 := (iU cI 80 (o 0) (rL47 0) (nL47 0) (zL47 0) F_43)) (ws' := (xU cI cB cE o rL47 nL47 zL47 (va_up FL47 0 F_43) G (Eo 0 0))) hP hD [2, 3] [0, 1, 4, 5, 6, 7, 8, 9, 10, 11, 12, 13, 14, 15, 16, 17, 18, 19, 20, 21, 22, 23, 24, 25, 26, 27, 28] [0, 1, 27, 28, 2, 3, 4, 5, 6, 7, 8, 9, 10, 11, 12, 13, 14, 15, 16, 17, 18, 19, 20, 21, 22, 23, 24, 25, 26] rfl rfl (by decide) (by decide) hk1 hFc hP1 hD1 rfl (by decide)
                  refine W.eq (g2 := F0 m 87 ls []) rfl ?_
                  try dsimp only at hq_40
                  obtain ⟨hd44, hm44, hF44, eF44⟩ := hq_40
                  subst hd44
                  subst hm44
                  refine lv_iinc (v := iz (i + (-1))) (lv' := [(2, .int (iz (i + (-1)))), (1, .int (iz k)), (0, .ref (o 15))]) hx hb dX5_sortFirsts_87 hl (k := 0) rfl (iz_add i (-1)) (by decide) rfl (fun ls hl => ?_)
                  refine lv_goto (tgt := 47) hx hb dX5_sortFirsts_90 (by decide) ?_
                  have hok45 : xOk (va_up nL47 0 (nL47 0)) (va_up zL47 0 (zL47 0)) (va_up FL47 0 F_43) := (hRLL47.1.i 0 (by decide) (show 0 ≤ zL47 0 ∧ zL47 0 ≤ ((nL47 0 : Nat) : Int) ∧ ((nL47 0 : Nat) : Int) ≤ 80 by omega) hF44)
                  have hfr45 : xFr [0] [0] z F (va_up zL47 0 (zL47 0)) (va_up FL47 0 F_43) := ((hRLL47.2.1.uz 0 (by decide) _).uf 0 (by decide) _)
                  have hcg45 : (0) + xg (va_up nL47 0 (nL47 0)) ≤ xg nL47 := by unfold xg; simp (decide := true) only [va_ev, ↓reduceIte]; omega
                  have hcp45 : (0) + xp (va_up nL47 0 (nL47 0)) ≤ xp nL47 := by unfold xp; simp (decide := true) only [va_ev, ↓reduceIte]; omega
                  exact ih47 (i + (-1)) rL47 (va_up nL47 0 (nL47 0)) (va_up zL47 0 (zL47 0)) (va_up FL47 0 F_43) (cv + 0) (sv + 0) ⟨⟨hok45, hfr45, hRLL47.2.2.1, hRLL47.2.2.2⟩, ⟨by omega, by omega⟩, (show zL47 12 = z 12 by omega), by omega, (show zL47 0 = zL9 0 + 1 by omega), fun j a b => by show F_43 j = FL9 0 j; rw [eF44, upI_ne _ _ (by omega), upI_ne _ _ (by omega)]; exact hg1 j a (by omega), by show F_43 (i + (-1)) = k; rw [eF44, show i + (-1) = i - 1 by omega, upI_self]; exact hg2, fun j a b => by show F_43 j = FL9 0 (j - 1); by_cases c9 : j = i; (rw [eF44, c9, upI_ne _ _ (by omega), upI_self]; exact hg1 (i - 1) (by omega) (by omega)); (rw [eF44, upI_ne _ _ (by omega), upI_ne _ _ c9]; exact hg3 j (by omega) b), fun j a b => by by_cases c9 : j = i - 1; (rw [c9]; exact Or.inl (by omega)); exact hgr j (by omega) b⟩ (by omega) _ _ hP hD hS ls (lv_sub hl [0, 1, 2] rfl)
          exact lp47 _ (z_19 - 1) (va_up rL9 0 r_17) (va_up nL9 0 n_18) (va_up zL9 0 z_19) (va_up FL9 0 F_20) (cv + dn_15) (sv + dm_16) ⟨⟨hok24, hfr24, hRLL9.2.2.1, hRLL9.2.2.2⟩, ⟨by omega, by omega⟩, (show zL9 12 = z 12 by omega), by omega, (show z_19 = zL9 0 + 1 by omega), fun j a b => haf j a (by omega), (by show F_20 (z_19 - 1) = k; rw [haz, show zL9 0 + 1 - 1 = zL9 0 by omega]; exact hav), fun j a b => absurd b (by omega), fun j a b => absurd b (by omega)⟩ (Nat.lt_succ_self _) _ _ hP hD hS ls (lv_sub hl [0, 1, 2] rfl)
        · skip
          have hnf : ¬ rs_sE Ez k = k := fun h9 => absurd (show rs_fo (zL9 12) Ez k = k from (if_pos (by omega)).trans h9) (by omega)
          refine lv_goto (tgt := 93) hx hb dX5_sortFirsts_26 (by decide) ?_
          refine lv_iinc (v := iz (k + 1)) (lv' := [(1, .int (iz (k + 1))), (0, .ref (o 15))]) hx hb dX5_sortFirsts_93 hl (k := 0) rfl (iz_add k 1) (by decide) rfl (fun ls hl => ?_)
          refine lv_goto (tgt := 9) hx hb dX5_sortFirsts_96 (by decide) ?_
          exact ih9 (k + 1) rL9 nL9 zL9 FL9 cv sv ⟨⟨hRLL9.1, hRLL9.2.1, hRLL9.2.2.1, hRLL9.2.2.2⟩, ⟨by omega, by omega⟩, (show zL9 12 = z 12 by omega), by omega, hso, fun x => (hme x).trans ⟨fun h9 => ⟨h9.1, by omega, h9.2.2⟩, fun h9 => ⟨h9.1, by by_cases c9 : x = k; (exfalso; rw [c9] at h9; exact hnf h9.2.2); omega, h9.2.2⟩⟩, by omega⟩ (by omega) _ _ hP hD hS ls (lv_sub hl [0, 1] rfl)
  exact lp9 _ 0 r (va_up n 0 (n 0)) (va_up z 0 z_5) (va_up F 0 (F 0)) (0 + 0) (0 + 0) ⟨⟨hok7, hfr7, hPE, hef⟩, ⟨by omega, by omega⟩, (show z 12 = z 12 by omega), by omega, fun i j a b c => absurd (show j < z_5 from c) (by omega), fun x => ⟨fun h9 => by obtain ⟨j, a, b, c⟩ := h9; exact absurd (show j < z_5 from b) (by omega), fun h9 => absurd h9.2.1 (by omega)⟩, (show 0 ≤ z_5 ∧ z_5 ≤ 0 by omega)⟩ (Nat.lt_succ_self _) _ _ hP hD hS ls (lv_sub hl [0, 1] rfl)
