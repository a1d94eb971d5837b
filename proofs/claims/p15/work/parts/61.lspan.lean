/-! the landed class, exact: rows of places -/

set_option maxHeartbeats 4000000 in
set_option maxRecDepth 100000 in
theorem x_stold2 (l : Launch) (dC : Nat → ClassId) (dI : Nat → Nat → Nat) (cI cB cE : ClassId) (L : Int) (o0 : Nat) (o1 : Nat) (o2 : Nat) (o3 : Nat) (r1 : Nat) (r2 : Nat) (r3 : Nat) (n1 : Nat) (n2 : Nat) (n3 : Nat) (z1 : Int) (z2 : Int) (z3 : Int) (F1 : Int → Int) (F2 : Int → Int) (F3 : Int → Int) (p0 : Int) (sz : Nat) (hok1 : 0 ≤ z1 ∧ z1 ≤ (n1 : Int) ∧ (n1 : Int) ≤ L ∧ L ≤ 1600) (hF1 : iB F1) (hok2 : 0 ≤ z2 ∧ z2 ≤ (n2 : Int) ∧ (n2 : Int) ≤ L ∧ L ≤ 1600) (hF2 : iB F2) (hok3 : 0 ≤ z3 ∧ z3 ≤ (n3 : Int) ∧ (n3 : Int) ≤ L ∧ L ≤ 1600) (hF3 : iB F3) (hp01 : -2147483648 ≤ p0) (hp02 : p0 < 2147483648) (hin : 0 ≤ p0 ∧ p0 < z3) : Met l yX3_isTold [.code yX3_isTold cX3_isTold 2 (some .boolean)] ({ frames := 1, cells := 0, slots := 0, locals := 21 }) (va_Pc [.ref o0, .int (iz p0)] (pPre dC dI (sU cI L o0 o1 o2 o3 r1 r2 r3 n1 n2 n3 z1 z2 z3 F1 F2 F3) (xT cI cB cE) sz)) (pQ (fun z => some (.int (iz z))) (fun (q : Int) => (q = 1 ∧ F3 p0 = 1) ∨ (q = 0 ∧ ¬ F3 p0 = 1))) 0 0 (fun _ => False) := by
  refine Met.ofW (cc := cX3_isTold) (maxL := 2) (ret := (some .boolean)) (by decide) rfl ?_
  intro p e s m args below meth c s₁ B hml hv
  obtain ⟨rfl, hsz, hP, hK, hG⟩ := hv
  have hx := B.exec
  have hb := B.bytes
  have hr := B.returns
  have hts := kx_hts (a := ([.ref o0, .int (iz p0)] : List Value).toArray) hG
  have hown : s.vm.findClass RX3 = some m.cls := findClass_of_methodNamed B.named
  have hlocks := B.notSynchronized
  subst hsz
  have hS : va_S (fun _ => False) s.heap s.heap [] := va_S.rf
  have hl := lv_entry ([.ref o0, .int (iz p0)]) (n := 2) (Nat.le_of_ble_eq_true rfl)
  rw [lg_entry_eq]
  generalize (lg_sl ([.ref o0, .int (iz p0)]) ++ List.replicate (2 - (lg_sl ([.ref o0, .int (iz p0)])).length) Slot.unset).toArray = ls at hl ⊢
  have hl : lv_has ls 2 [(0, .ref o0), (1, .int (iz p0))] := hl
  refine lv_aload_n hx hb dX3_isTold_0 rfl (lv_at hl 0 rfl) ?_
  refine va_get (D := (dC, dI)) (ci := 3) (v := .ref o3) (C := RX3) (T := TX3) (N := 3) hx hb hts kt_X3 hown hK hP 0 rfl rfl 2 (by decide) (kx_word hG kq_15_xspan_40 rfl) (fun _ h9 => h9) rfl dX3_isTold_1 ?_
  refine lv_iload_n hx hb dX3_isTold_4 rfl (lv_at hl 1 rfl) ?_
  have hPc := hP.sub (ws' := (iU cI L o3 r3 n3 z3 F3)) [5, 6] rfl
  refine xk_pure (va_runV (As := [.int (iz p0)]) (rest := []) ⟨hx, hb, hml, hown, hts⟩ (x_get l dC dI cI cB cE L o3 r3 n3 z3 F3 p0 s.heap.size hok3 hF3 (by omega) (by omega)) (cwV 1 hts (kx_gV kq_15_xspan_38 kq_13_xints_4 kq_13_xints_5 kq_13_xints_6 kq_13_xints_7 rfl) rfl rfl rfl (by decide +kernel) ⟨Nat.le_of_ble_eq_true rfl, Nat.le_of_ble_eq_true rfl⟩) ⟨pPre_blind, va_recv hK hPc (ci := 1) (q0 := 0) rfl rfl, pPre_give hPc hK hG⟩ rfl rfl hl.1 rfl (lv_room (Nat.le_of_ble_eq_true rfl)) dX3_isTold_5 ⟨Nat.le_of_ble_eq_true rfl, Nat.le_of_ble_eq_true rfl⟩) hS (fun z_2 locs hq_1 hS => ?_)
  refine W.eq (g2 := F0 m 8 ls [.int (iz z_2)]) rfl ?_
  try dsimp only at hq_1
  refine lv_iconst (v := iz 1) hx hb dX3_isTold_8 (by decide) ?_
  refine ki_icmp_ne (tgt := 16) hx hb dX3_isTold_9 (by decide) (by omega) (by omega) (by omega) (by omega) (fun c_3 => ?_) (fun c_3 => ?_)
  · skip
    refine lv_iconst (v := iz 0) hx hb dX3_isTold_16 (by decide) ?_
    exact xp_iret (z := 0) hx hb hr (mz_bool (by omega)).1 hlocks rfl hS.2.2 dX3_isTold_17 (by omega)
  · skip
    refine lv_iconst (v := iz 1) hx hb dX3_isTold_12 (by decide) ?_
    refine lv_goto (tgt := 17) hx hb dX3_isTold_13 (by decide) ?_
    exact xp_iret (z := 1) hx hb hr (mz_bool (by omega)).1 hlocks rfl hS.2.2 dX3_isTold_17 (by omega)
set_option maxHeartbeats 4000000 in
set_option maxRecDepth 100000 in
theorem x_sendAt2 (l : Launch) (dC : Nat → ClassId) (dI : Nat → Nat → Nat) (cI cB cE : ClassId) (L : Int) (o0 : Nat) (o1 : Nat) (o2 : Nat) (o3 : Nat) (r1 : Nat) (r2 : Nat) (r3 : Nat) (n1 : Nat) (n2 : Nat) (n3 : Nat) (z1 : Int) (z2 : Int) (z3 : Int) (F1 : Int → Int) (F2 : Int → Int) (F3 : Int → Int) (p0 : Int) (p1 : Int) (sz : Nat) (hok1 : 0 ≤ z1 ∧ z1 ≤ (n1 : Int) ∧ (n1 : Int) ≤ L ∧ L ≤ 1600) (hF1 : iB F1) (hok2 : 0 ≤ z2 ∧ z2 ≤ (n2 : Int) ∧ (n2 : Int) ≤ L ∧ L ≤ 1600) (hF2 : iB F2) (hok3 : 0 ≤ z3 ∧ z3 ≤ (n3 : Int) ∧ (n3 : Int) ≤ L ∧ L ≤ 1600) (hF3 : iB F3) (hp01 : -2147483648 ≤ p0) (hp02 : p0 < 2147483648) (hp11 : -2147483648 ≤ p1) (hp12 : p1 < 2147483648) (hin : 0 ≤ p0 ∧ p0 < z2 ∧ p0 < z3) : Met l yX3_endAt [.code yX3_endAt cX3_endAt 3 none] ({ frames := 1, cells := 0, slots := 0, locals := 22 }) (va_Pc [.ref o0, .int (iz p0), .int (iz p1)] (kx_Pre dC dI (sU cI L o0 o1 o2 o3 r1 r2 r3 n1 n2 n3 z1 z2 z3 F1 F2 F3) (xT cI cB cE) sz)) (xQ (fun _ : (Int → Int) × (Int → Int) => none) (fun (u : (Int → Int) × (Int → Int)) (dn dm : Nat) => match u with | (F2', F3') => dn = 0 ∧ dm = 0 ∧ iB F2' ∧ iB F3' ∧ F2' = upI F2 p0 p1 ∧ F3' = upI F3 p0 1) (fun u t => kx_At dC dI (va_A (sU cI L o0 o1 o2 o3 r1 r2 r3 n1 n2 n3 z1 z2 z3 F1 F2 F3) sz) ((fun u : (Int → Int) × (Int → Int) => match u with | (F2', F3') => (sU cI L o0 o1 o2 o3 r1 r2 r3 n1 n2 n3 z1 z2 z3 F1 F2' F3')) u) (xT cI cB cE) t) (va_A (sU cI L o0 o1 o2 o3 r1 r2 r3 n1 n2 n3 z1 z2 z3 F1 F2 F3) sz)) 0 0 (va_A (sU cI L o0 o1 o2 o3 r1 r2 r3 n1 n2 n3 z1 z2 z3 F1 F2 F3) sz) := by
  refine Met.ofW (cc := cX3_endAt) (maxL := 3) (ret := none) (by decide) rfl ?_
  intro p e s m args below meth c s₁ B hml hv
  obtain ⟨rfl, hsz, hP, hK, hD0, hG, hZ⟩ := hv
  have hx := B.exec
  have hb := B.bytes
  have hr := B.returns
  have hts := kx_hts (a := ([.ref o0, .int (iz p0), .int (iz p1)] : List Value).toArray) hG
  have hown : s.vm.findClass RX3 = some m.cls := findClass_of_methodNamed B.named
  have hlocks := B.notSynchronized
  subst hsz
  have hD := hD0.self (sz := s.heap.size)
  generalize hAe : va_A (sU cI L o0 o1 o2 o3 r1 r2 r3 n1 n2 n3 z1 z2 z3 F1 F2 F3) s.heap.size = A at hD hZ ⊢
  have hA : ∀ q : Nat, s.heap.size ≤ q → A q := fun q h => by rw [← hAe]; exact Or.inr h
  have hS : va_S A s.heap s.heap [] := va_S.rf
  have hl := lv_entry ([.ref o0, .int (iz p0), .int (iz p1)]) (n := 3) (Nat.le_of_ble_eq_true rfl)
  rw [lg_entry_eq]
  generalize (lg_sl ([.ref o0, .int (iz p0), .int (iz p1)]) ++ List.replicate (3 - (lg_sl ([.ref o0, .int (iz p0), .int (iz p1)])).length) Slot.unset).toArray = ls at hl ⊢
  have hl : lv_has ls 3 [(0, .ref o0), (1, .int (iz p0)), (2, .int (iz p1))] := hl
  refine lv_aload_n hx hb dX3_endAt_0 rfl (lv_at hl 0 rfl) ?_
  refine va_get (D := (dC, dI)) (ci := 3) (v := .ref o2) (C := RX3) (T := TX3) (N := 3) hx hb hts kt_X3 hown hK hP 0 rfl rfl 1 (by decide) (kx_word hG kq_15_xspan_39 rfl) (fun _ h9 => h9) rfl dX3_endAt_1 ?_
  refine lv_iload_n hx hb dX3_endAt_4 rfl (lv_at hl 1 rfl) ?_
  refine lv_iload_n hx hb dX3_endAt_5 rfl (lv_at hl 2 rfl) ?_
  have hPc := hP.sub (ws' := (iU cI L o2 r2 n2 z2 F2)) [3, 4] rfl
  have hDc := hD.sub (ws' := (iU cI L o2 r2 n2 z2 F2)) [3, 4] (by decide) rfl
  have hFc := va_free (wc := (iU cI L o2 r2 n2 z2 F2)) hD hS hA [3, 4] rfl
  refine xk_call (va_runV (As := [.int (iz p0), .int (iz p1)]) (rest := []) ⟨hx, hb, hml, hown, hts⟩ (x_set2 l dC dI cI cB cE L o2 r2 n2 z2 F2 p0 p1 s.heap.size hok2 hF2 (by omega) (by omega) (by omega) (by omega) (by omega)) (cwV 2 hts (kx_gV kq_15_xspan_49 kq_13_xints_9 kq_13_xints_10 kq_13_xints_6 kq_13_xints_11 rfl) rfl rfl rfl (by decide +kernel) ⟨Nat.le_of_ble_eq_true rfl, Nat.le_of_ble_eq_true rfl⟩) ⟨kx_blind, va_recv hK hPc (ci := 1) (q0 := 0) rfl rfl, kx_give (ws := []) (tys := []) hPc hDc hK hG hZ hS hFc⟩ rfl rfl hl.1 rfl (lv_room (Nat.le_of_ble_eq_true rfl)) dX3_endAt_6 ⟨show 0 + 0 ≤ 0 from (by omega), show 0 + 0 ≤ 0 from (by omega)⟩) hS (fun q _ h => hFc q h) hFc (fun u dn_2 dm_3 t H locs ht hvm hq_1 hB hk1 hS => ?_)
  obtain ⟨F_4, rfl⟩ : ∃ z, z = u := ⟨_, rfl⟩
  obtain ⟨hP1, hK1, hD1⟩ := hB
  rw [ht] at hP1
  obtain ⟨hP, hD⟩ := xj (wr := [(o0, .inr (3, [.ref o1, .ref o2, .ref o3])), (o1, .inr (1, [.int (iz L), .ref r1, .int (iz z1)])), (r1, .inl (cI, n1, .inl (iA F1))), (o3, .inr (1, [.int (iz L), .ref r3, .int (iz z3)])), (r3, .inl (cI, n3, .inl (iA F3)))]) (w1 := (iU cI L o2 r2 n2 z2 F_4)) (ws' := (sU cI L o0 o1 o2 o3 r1 r2 r3 n1 n2 n3 z1 z2 z3 F1 F_4 F3)) hP hD [3, 4] [0, 1, 2, 5, 6] [0, 1, 2, 5, 6, 3, 4] rfl rfl (by decide) (by decide) hk1 hFc hP1 hD1 rfl (by decide)
  refine W.eq (g2 := F0 m 9 ls []) rfl ?_
  try dsimp only at hq_1
  obtain ⟨hd1, hm1, hg1, he1⟩ := hq_1
  subst hd1
  subst hm1
  refine lv_aload_n hx hb dX3_endAt_9 rfl (lv_at hl 0 rfl) ?_
  refine va_get (D := (dC, dI)) (ci := 3) (v := .ref o3) (C := RX3) (T := TX3) (N := 3) hx hb hts kt_X3 hown hK hP 0 rfl rfl 2 (by decide) (kx_word hG kq_15_xspan_40 rfl) (fun _ h9 => h9) rfl dX3_endAt_10 ?_
  refine lv_iload_n hx hb dX3_endAt_13 rfl (lv_at hl 1 rfl) ?_
  refine lv_iconst (v := iz 1) hx hb dX3_endAt_14 (by decide) ?_
  have hPc := hP.sub (ws' := (iU cI L o3 r3 n3 z3 F3)) [5, 6] rfl
  have hDc := hD.sub (ws' := (iU cI L o3 r3 n3 z3 F3)) [5, 6] (by decide) rfl
  have hFc := va_free (wc := (iU cI L o3 r3 n3 z3 F3)) hD hS hA [5, 6] rfl
  refine xk_call (va_runV (As := [.int (iz p0), .int (iz 1)]) (rest := []) ⟨hx, hb, hml, hown, hts⟩ (x_set2 l dC dI cI cB cE L o3 r3 n3 z3 F3 p0 1 H.size hok3 hF3 (by omega) (by omega) (by omega) (by omega) (by omega)) (cwV 2 hts (kx_gV kq_15_xspan_49 kq_13_xints_9 kq_13_xints_10 kq_13_xints_6 kq_13_xints_11 rfl) rfl rfl rfl (by decide +kernel) ⟨Nat.le_of_ble_eq_true rfl, Nat.le_of_ble_eq_true rfl⟩) ⟨kx_blind, va_recv hK hPc (ci := 1) (q0 := 0) rfl rfl, kx_give (ws := []) (tys := []) hPc hDc hK hG hZ hS hFc⟩ rfl rfl hl.1 rfl (lv_room (Nat.le_of_ble_eq_true rfl)) dX3_endAt_15 ⟨show (0 + 0) + 0 ≤ 0 from (by omega), show (0 + 0) + 0 ≤ 0 from (by omega)⟩) hS (fun q _ h => hFc q h) hFc (fun u dn_6 dm_7 t H locs ht hvm hq_5 hB hk1 hS => ?_)
  obtain ⟨F_8, rfl⟩ : ∃ z, z = u := ⟨_, rfl⟩
  obtain ⟨hP1, hK1, hD1⟩ := hB
  rw [ht] at hP1
  obtain ⟨hP, hD⟩ := xj (wr := [(o0, .inr (3, [.ref o1, .ref o2, .ref o3])), (o1, .inr (1, [.int (iz L), .ref r1, .int (iz z1)])), (r1, .inl (cI, n1, .inl (iA F1))), (o2, .inr (1, [.int (iz L), .ref r2, .int (iz z2)])), (r2, .inl (cI, n2, .inl (iA F_4)))]) (w1 := (iU cI L o3 r3 n3 z3 F_8)) (ws' := (sU cI L o0 o1 o2 o3 r1 r2 r3 n1 n2 n3 z1 z2 z3 F1 F_4 F_8)) hP hD [5, 6] [0, 1, 2, 3, 4] [0, 1, 2, 3, 4, 5, 6] rfl rfl (by decide) (by decide) hk1 hFc hP1 hD1 rfl (by decide)
  refine W.eq (g2 := F0 m 18 ls []) rfl ?_
  try dsimp only at hq_5
  obtain ⟨hd2, hm2, hg2, he2⟩ := hq_5
  subst hd2
  subst hm2
  exact xk_vret (ov := (fun _ : (Int → Int) × (Int → Int) => none)) (post := (fun (u : (Int → Int) × (Int → Int)) (dn dm : Nat) => match u with | (F2', F3') => dn = 0 ∧ dm = 0 ∧ iB F2' ∧ iB F3' ∧ F2' = upI F2 p0 p1 ∧ F3' = upI F3 p0 1)) (ws := (fun u : (Int → Int) × (Int → Int) => match u with | (F2', F3') => (sU cI L o0 o1 o2 o3 r1 r2 r3 n1 n2 n3 z1 z2 z3 F1 F2' F3'))) (tys := xT cI cB cE) (F_4, F_8) hx hb hr hlocks rfl hP hD hK hS dX3_endAt_18 (fun dn dm hdn hdm => ⟨by omega, by omega, hg1, hg2, he1, he2⟩) (by omega) (by omega)
set_option maxHeartbeats 4000000 in
set_option maxRecDepth 100000 in
theorem x_ssink2 (l : Launch) (dC : Nat → ClassId) (dI : Nat → Nat → Nat) (cI cB cE : ClassId) (L : Int) (o0 : Nat) (o1 : Nat) (o2 : Nat) (o3 : Nat) (r1 : Nat) (r2 : Nat) (r3 : Nat) (n1 : Nat) (n2 : Nat) (n3 : Nat) (z1 : Int) (z2 : Int) (z3 : Int) (F1 : Int → Int) (F2 : Int → Int) (F3 : Int → Int) (sz : Nat) (hok1 : 0 ≤ z1 ∧ z1 ≤ (n1 : Int) ∧ (n1 : Int) ≤ L ∧ L ≤ 1600) (hF1 : iB F1) (hok2 : 0 ≤ z2 ∧ z2 ≤ (n2 : Int) ∧ (n2 : Int) ≤ L ∧ L ≤ 1600) (hF2 : iB F2) (hok3 : 0 ≤ z3 ∧ z3 ≤ (n3 : Int) ∧ (n3 : Int) ≤ L ∧ L ≤ 1600) (hF3 : iB F3) (hzz : z1 = z2 ∧ z2 = z3 ∧ 1 ≤ z1) : Met l yX3_sinkLast [.code yX3_sinkLast cX3_sinkLast 2 none] ({ frames := 2, cells := 0, slots := 0, locals := 45 }) (va_Pc [.ref o0] (kx_Pre dC dI (sU cI L o0 o1 o2 o3 r1 r2 r3 n1 n2 n3 z1 z2 z3 F1 F2 F3) (xT cI cB cE) sz)) (xQ (fun _ : (Int → Int) × (Int → Int) × (Int → Int) => none) (fun (u : (Int → Int) × (Int → Int) × (Int → Int)) (dn dm : Nat) => match u with | (F1', F2', F3') => dn = 0 ∧ dm = 0 ∧ iB F1' ∧ iB F2' ∧ iB F3' ∧ ∃ k9 : Int, (0 ≤ k9 ∧ k9 < z1) ∧ lo_sh F1 F1' (z1 - 1) k9 ∧ lo_sh F2 F2' (z1 - 1) k9 ∧ lo_sh F3 F3' (z1 - 1) k9 ∧ (k9 = 0 ∨ F1 (k9 - 1) ≤ F1 (z1 - 1)) ∧ ∀ i, k9 ≤ i → i < z1 - 1 → F1 (z1 - 1) < F1 i) (fun u t => kx_At dC dI (va_A (sU cI L o0 o1 o2 o3 r1 r2 r3 n1 n2 n3 z1 z2 z3 F1 F2 F3) sz) ((fun u : (Int → Int) × (Int → Int) × (Int → Int) => match u with | (F1', F2', F3') => (sU cI L o0 o1 o2 o3 r1 r2 r3 n1 n2 n3 z1 z2 z3 F1' F2' F3')) u) (xT cI cB cE) t) (va_A (sU cI L o0 o1 o2 o3 r1 r2 r3 n1 n2 n3 z1 z2 z3 F1 F2 F3) sz)) 0 0 (va_A (sU cI L o0 o1 o2 o3 r1 r2 r3 n1 n2 n3 z1 z2 z3 F1 F2 F3) sz) := by
  refine Met.ofW (cc := cX3_sinkLast) (maxL := 2) (ret := none) (by decide) rfl ?_
  intro p e s m args below meth c s₁ B hml hv
  obtain ⟨rfl, hsz, hP, hK, hD0, hG, hZ⟩ := hv
  have hx := B.exec
  have hb := B.bytes
  have hr := B.returns
  have hts := kx_hts (a := ([.ref o0] : List Value).toArray) hG
  have hown : s.vm.findClass RX3 = some m.cls := findClass_of_methodNamed B.named
  have hlocks := B.notSynchronized
  subst hsz
  have hD := hD0.self (sz := s.heap.size)
  generalize hAe : va_A (sU cI L o0 o1 o2 o3 r1 r2 r3 n1 n2 n3 z1 z2 z3 F1 F2 F3) s.heap.size = A at hD hZ ⊢
  have hA : ∀ q : Nat, s.heap.size ≤ q → A q := fun q h => by rw [← hAe]; exact Or.inr h
  have hS : va_S A s.heap s.heap [] := va_S.rf
  have hl := lv_entry ([.ref o0]) (n := 2) (Nat.le_of_ble_eq_true rfl)
  rw [lg_entry_eq]
  generalize (lg_sl ([.ref o0]) ++ List.replicate (2 - (lg_sl ([.ref o0])).length) Slot.unset).toArray = ls at hl ⊢
  have hl : lv_has ls 2 [(0, .ref o0)] := hl
  generalize hQe : MQ below (xQ (fun _ : (Int → Int) × (Int → Int) × (Int → Int) => none) (fun (u : (Int → Int) × (Int → Int) × (Int → Int)) (dn dm : Nat) => match u with | (F1', F2', F3') => dn = 0 ∧ dm = 0 ∧ iB F1' ∧ iB F2' ∧ iB F3' ∧ ∃ k9 : Int, (0 ≤ k9 ∧ k9 < z1) ∧ lo_sh F1 F1' (z1 - 1) k9 ∧ lo_sh F2 F2' (z1 - 1) k9 ∧ lo_sh F3 F3' (z1 - 1) k9 ∧ (k9 = 0 ∨ F1 (k9 - 1) ≤ F1 (z1 - 1)) ∧ ∀ i, k9 ≤ i → i < z1 - 1 → F1 (z1 - 1) < F1 i) (fun u t => kx_At dC dI A ((fun u : (Int → Int) × (Int → Int) × (Int → Int) => match u with | (F1', F2', F3') => (sU cI L o0 o1 o2 o3 r1 r2 r3 n1 n2 n3 z1 z2 z3 F1' F2' F3')) u) (xT cI cB cE) t) A) ([.ref o0] : List Value).toArray s 0 0 A = QQ
  refine lv_aload_n hx hb dX3_sinkLast_0 rfl (lv_at hl 0 rfl) ?_
  have hPc := hP.sub (ws' := (sU cI L o0 o1 o2 o3 r1 r2 r3 n1 n2 n3 z1 z2 z3 F1 F2 F3)) [0, 1, 2, 3, 4, 5, 6] rfl
  refine xk_pure (va_runV (As := []) (rest := []) ⟨hx, hb, hml, hown, hts⟩ (x_ssize l dC dI cI cB cE L o0 o1 o2 o3 r1 r2 r3 n1 n2 n3 z1 z2 z3 F1 F2 F3  s.heap.size ) (cwV 0 hts (kx_gV kq_15_xspan_50 kq_15_xspan_51 kq_15_xspan_52 kq_15_xspan_53 kq_15_xspan_54 rfl) rfl rfl rfl (by decide +kernel) ⟨Nat.le_of_ble_eq_true rfl, Nat.le_of_ble_eq_true rfl⟩) ⟨pPre_blind, va_recv hK hPc (ci := 3) (q0 := 0) rfl rfl, pPre_give hPc hK hG⟩ rfl rfl hl.1 rfl (lv_room (Nat.le_of_ble_eq_true rfl)) dX3_sinkLast_1 ⟨show 0 + 0 ≤ 0 from (by omega), show 0 + 0 ≤ 0 from (by omega)⟩) hS (fun z_2 locs hq_1 hS => ?_)
  refine W.eq (g2 := F0 m 4 ls [.int (iz z_2)]) rfl ?_
  try dsimp only at hq_1
  have hq_1 := hq_1.symm
  subst hq_1
  refine lv_iconst (v := iz 1) hx hb dX3_sinkLast_4 (by decide) ?_
  refine ki_isub hx hb dX3_sinkLast_5 ?_
  refine lv_istore_n (lv' := [(1, .int (iz (z1 - 1))), (0, .ref o0)]) hx hb dX3_sinkLast_6 rfl hl (by decide) rfl (fun ls hl => ?_)
  have lp7 : ∀ (n0 : Nat) (k : Int) (G1 : Int → Int) (G2 : Int → Int) (G3 : Int → Int), ((0 ≤ k ∧ k < z1) ∧ (iB G1) ∧ (iB G2) ∧ (iB G3) ∧ (lo_sh F1 G1 (z1 - 1) k) ∧ (lo_sh F2 G2 (z1 - 1) k) ∧ (lo_sh F3 G3 (z1 - 1) k) ∧ (∀ i, k ≤ i → i < z1 - 1 → F1 (z1 - 1) < F1 i)) → (k).toNat < n0 → ∀ (H : Heap) (locs : List Loc), va_P (dC, dI) kxCl (sU cI L o0 o1 o2 o3 r1 r2 r3 n1 n2 n3 z1 z2 z3 G1 G2 G3) H → va_D A (sU cI L o0 o1 o2 o3 r1 r2 r3 n1 n2 n3 z1 z2 z3 G1 G2 G3) → va_S A s.heap H locs → ∀ ls : Array Slot, lv_has ls 2 [(1, .int (iz k)), (0, .ref o0)] → W p l e (headSpec [.code yX3_sinkLast cX3_sinkLast 2 none] ({ frames := 2, cells := 0, slots := 0, locals := 45 })).room s m ([.ref o0] : List Value).toArray below meth c H locs 0 0 QQ (F0 m 7 ls []) := by
    intro n0
    induction n0 with
    | zero => intro k G1 G2 G3 hinv hm0; exact absurd hm0 (Nat.not_lt_zero _)
    | succ n0 ih7 =>
      intro k G1 G2 G3 hinv hm0 H locs hP hD hS ls hl
      obtain ⟨hk, hv1, hv2, hv3, hs1, hs2, hs3, hgt⟩ := hinv
      refine lv_iload_n hx hb dX3_sinkLast_7 rfl (lv_at hl 0 rfl) ?_
      refine ki_if_le (tgt := 65) hx hb dX3_sinkLast_8 (by decide) (by omega) (by omega) (fun c_3 => ?_) (fun c_3 => ?_)
      · skip
        rw [← hQe]
        exact xk_vret (ov := (fun _ : (Int → Int) × (Int → Int) × (Int → Int) => none)) (post := (fun (u : (Int → Int) × (Int → Int) × (Int → Int)) (dn dm : Nat) => match u with | (F1', F2', F3') => dn = 0 ∧ dm = 0 ∧ iB F1' ∧ iB F2' ∧ iB F3' ∧ ∃ k9 : Int, (0 ≤ k9 ∧ k9 < z1) ∧ lo_sh F1 F1' (z1 - 1) k9 ∧ lo_sh F2 F2' (z1 - 1) k9 ∧ lo_sh F3 F3' (z1 - 1) k9 ∧ (k9 = 0 ∨ F1 (k9 - 1) ≤ F1 (z1 - 1)) ∧ ∀ i, k9 ≤ i → i < z1 - 1 → F1 (z1 - 1) < F1 i)) (ws := (fun u : (Int → Int) × (Int → Int) × (Int → Int) => match u with | (F1', F2', F3') => (sU cI L o0 o1 o2 o3 r1 r2 r3 n1 n2 n3 z1 z2 z3 F1' F2' F3'))) (tys := xT cI cB cE) (G1, G2, G3) hx hb hr hlocks rfl hP hD hK hS dX3_sinkLast_65 (fun dn dm hdn hdm => ⟨by omega, by omega, hv1, hv2, hv3, k, by omega, hs1, hs2, hs3, by first | exact Or.inl (by omega) | exact Or.inr (by omega), hgt⟩) (by omega) (by omega)
      · skip
        have hgk := hs1.2.1
        have hgp := hs1.1 (k - 1) (by omega) (by omega)
        refine lv_aload_n hx hb dX3_sinkLast_11 rfl (lv_at hl 1 rfl) ?_
        refine lv_iload_n hx hb dX3_sinkLast_12 rfl (lv_at hl 0 rfl) ?_
        have hPc := hP.sub (ws' := (sU cI L o0 o1 o2 o3 r1 r2 r3 n1 n2 n3 z1 z2 z3 G1 G2 G3)) [0, 1, 2, 3, 4, 5, 6] rfl
        refine xk_pure (va_runV (As := [.int (iz k)]) (rest := []) ⟨hx, hb, hml, hown, hts⟩ (x_sfrom l dC dI cI cB cE L o0 o1 o2 o3 r1 r2 r3 n1 n2 n3 z1 z2 z3 G1 G2 G3 k H.size hok1 hv1 hok2 hv2 hok3 hv3 (by omega) (by omega)) (cwV 1 hts (kx_gV kq_15_xspan_55 kq_15_xspan_56 kq_15_xspan_57 kq_15_xspan_53 kq_15_xspan_58 rfl) rfl rfl rfl (by decide +kernel) ⟨Nat.le_of_ble_eq_true rfl, Nat.le_of_ble_eq_true rfl⟩) ⟨pPre_blind, va_recv hK hPc (ci := 3) (q0 := 0) rfl rfl, pPre_give hPc hK hG⟩ rfl rfl hl.1 rfl (lv_room (Nat.le_of_ble_eq_true rfl)) dX3_sinkLast_13 ⟨show 0 + 0 ≤ 0 from (by omega), show 0 + 0 ≤ 0 from (by omega)⟩) hS (fun z_5 locs hq_4 hS => ?_)
        refine W.eq (g2 := F0 m 16 ls [.int (iz z_5)]) rfl ?_
        try dsimp only at hq_4
        refine lv_aload_n hx hb dX3_sinkLast_16 rfl (lv_at hl 1 rfl) ?_
        refine lv_iload_n hx hb dX3_sinkLast_17 rfl (lv_at hl 0 rfl) ?_
        refine lv_iconst (v := iz 1) hx hb dX3_sinkLast_18 (by decide) ?_
        refine ki_isub hx hb dX3_sinkLast_19 ?_
        have hPc := hP.sub (ws' := (sU cI L o0 o1 o2 o3 r1 r2 r3 n1 n2 n3 z1 z2 z3 G1 G2 G3)) [0, 1, 2, 3, 4, 5, 6] rfl
        refine xk_pure (va_runV (As := [.int (iz (k - 1))]) (rest := [.int (iz z_5)]) ⟨hx, hb, hml, hown, hts⟩ (x_sfrom l dC dI cI cB cE L o0 o1 o2 o3 r1 r2 r3 n1 n2 n3 z1 z2 z3 G1 G2 G3 (k - 1) H.size hok1 hv1 hok2 hv2 hok3 hv3 (by omega) (by omega)) (cwV 1 hts (kx_gV kq_15_xspan_55 kq_15_xspan_56 kq_15_xspan_57 kq_15_xspan_53 kq_15_xspan_58 rfl) rfl rfl rfl (by decide +kernel) ⟨Nat.le_of_ble_eq_true rfl, Nat.le_of_ble_eq_true rfl⟩) ⟨pPre_blind, va_recv hK hPc (ci := 3) (q0 := 0) rfl rfl, pPre_give hPc hK hG⟩ rfl rfl hl.1 rfl (lv_room (Nat.le_of_ble_eq_true rfl)) dX3_sinkLast_20 ⟨show 0 + 0 ≤ 0 from (by omega), show 0 + 0 ≤ 0 from (by omega)⟩) hS (fun z_7 locs hq_6 hS => ?_)
        refine W.eq (g2 := F0 m 23 ls [.int (iz z_7), .int (iz z_5)]) rfl ?_
        try dsimp only at hq_6
        refine ki_icmp_ge (tgt := 65) hx hb dX3_sinkLast_23 (by decide) (by omega) (by omega) (by omega) (by omega) (fun c_8 => ?_) (fun c_8 => ?_)
        · skip
          rw [← hQe]
          exact xk_vret (ov := (fun _ : (Int → Int) × (Int → Int) × (Int → Int) => none)) (post := (fun (u : (Int → Int) × (Int → Int) × (Int → Int)) (dn dm : Nat) => match u with | (F1', F2', F3') => dn = 0 ∧ dm = 0 ∧ iB F1' ∧ iB F2' ∧ iB F3' ∧ ∃ k9 : Int, (0 ≤ k9 ∧ k9 < z1) ∧ lo_sh F1 F1' (z1 - 1) k9 ∧ lo_sh F2 F2' (z1 - 1) k9 ∧ lo_sh F3 F3' (z1 - 1) k9 ∧ (k9 = 0 ∨ F1 (k9 - 1) ≤ F1 (z1 - 1)) ∧ ∀ i, k9 ≤ i → i < z1 - 1 → F1 (z1 - 1) < F1 i)) (ws := (fun u : (Int → Int) × (Int → Int) × (Int → Int) => match u with | (F1', F2', F3') => (sU cI L o0 o1 o2 o3 r1 r2 r3 n1 n2 n3 z1 z2 z3 F1' F2' F3'))) (tys := xT cI cB cE) (G1, G2, G3) hx hb hr hlocks rfl hP hD hK hS dX3_sinkLast_65 (fun dn dm hdn hdm => ⟨by omega, by omega, hv1, hv2, hv3, k, by omega, hs1, hs2, hs3, by first | exact Or.inl (by omega) | exact Or.inr (by omega), hgt⟩) (by omega) (by omega)
        · skip
          refine lv_aload_n hx hb dX3_sinkLast_26 rfl (lv_at hl 1 rfl) ?_
          refine va_get (D := (dC, dI)) (ci := 3) (v := .ref o1) (C := RX3) (T := TX3) (N := 3) hx hb hts kt_X3 hown hK hP 0 rfl rfl 0 (by decide) (kx_word hG kq_15_xspan_32 rfl) (fun _ h9 => h9) rfl dX3_sinkLast_27 ?_
          refine lv_iload_n hx hb dX3_sinkLast_30 rfl (lv_at hl 0 rfl) ?_
          refine lv_iload_n hx hb dX3_sinkLast_31 rfl (lv_at hl 0 rfl) ?_
          refine lv_iconst (v := iz 1) hx hb dX3_sinkLast_32 (by decide) ?_
          refine ki_isub hx hb dX3_sinkLast_33 ?_
          have hPc := hP.sub (ws' := (iU cI L o1 r1 n1 z1 G1)) [1, 2] rfl
          have hDc := hD.sub (ws' := (iU cI L o1 r1 n1 z1 G1)) [1, 2] (by decide) rfl
          have hFc := va_free (wc := (iU cI L o1 r1 n1 z1 G1)) hD hS hA [1, 2] rfl
          refine xk_call (va_runV (As := [.int (iz k), .int (iz (k - 1))]) (rest := []) ⟨hx, hb, hml, hown, hts⟩ (x_swap2 l dC dI cI cB cE L o1 r1 n1 z1 G1 k (k - 1) H.size hok1 hv1 (by omega) (by omega) (by omega) (by omega) (by omega) (by omega)) (cwV 2 hts (kx_gV kq_15_xspan_59 kq_15_xspan_60 kq_15_xspan_61 kq_13_xints_6 kq_15_xspan_62 rfl) rfl rfl rfl (by decide +kernel) ⟨Nat.le_of_ble_eq_true rfl, Nat.le_of_ble_eq_true rfl⟩) ⟨kx_blind, va_recv hK hPc (ci := 1) (q0 := 0) rfl rfl, kx_give (ws := []) (tys := []) hPc hDc hK hG hZ hS hFc⟩ rfl rfl hl.1 rfl (lv_room (Nat.le_of_ble_eq_true rfl)) dX3_sinkLast_34 ⟨show 0 + 0 ≤ 0 from (by omega), show 0 + 0 ≤ 0 from (by omega)⟩) hS (fun q _ h => hFc q h) hFc (fun u dn_10 dm_11 t H locs ht hvm hq_9 hB hk1 hS => ?_)
          obtain ⟨F_12, rfl⟩ : ∃ z, z = u := ⟨_, rfl⟩
          obtain ⟨hP1, hK1, hD1⟩ := hB
          rw [ht] at hP1
          obtain ⟨hP, hD⟩ := xj (wr := [(o0, .inr (3, [.ref o1, .ref o2, .ref o3])), (o2, .inr (1, [.int (iz L), .ref r2, .int (iz z2)])), (r2, .inl (cI, n2, .inl (iA G2))), (o3, .inr (1, [.int (iz L), .ref r3, .int (iz z3)])), (r3, .inl (cI, n3, .inl (iA G3)))]) (w1 := (iU cI L o1 r1 n1 z1 F_12)) (ws' := (sU cI L o0 o1 o2 o3 r1 r2 r3 n1 n2 n3 z1 z2 z3 F_12 G2 G3)) hP hD [1, 2] [0, 3, 4, 5, 6] [0, 5, 6, 1, 2, 3, 4] rfl rfl (by decide) (by decide) hk1 hFc hP1 hD1 rfl (by decide)
          refine W.eq (g2 := F0 m 37 ls []) rfl ?_
          try dsimp only at hq_9
          obtain ⟨hd1, hm1, hg1, he1⟩ := hq_9
          subst hd1
          subst hm1
          have hn1 : lo_sh F1 F_12 (z1 - 1) (k + (-1)) := by rw [he1, show k + (-1) = k - 1 by omega]; exact lo_sh_st hs1 (by omega) (by omega)
          refine lv_aload_n hx hb dX3_sinkLast_37 rfl (lv_at hl 1 rfl) ?_
          refine va_get (D := (dC, dI)) (ci := 3) (v := .ref o2) (C := RX3) (T := TX3) (N := 3) hx hb hts kt_X3 hown hK hP 0 rfl rfl 1 (by decide) (kx_word hG kq_15_xspan_39 rfl) (fun _ h9 => h9) rfl dX3_sinkLast_38 ?_
          refine lv_iload_n hx hb dX3_sinkLast_41 rfl (lv_at hl 0 rfl) ?_
          refine lv_iload_n hx hb dX3_sinkLast_42 rfl (lv_at hl 0 rfl) ?_
          refine lv_iconst (v := iz 1) hx hb dX3_sinkLast_43 (by decide) ?_
          refine ki_isub hx hb dX3_sinkLast_44 ?_
          have hPc := hP.sub (ws' := (iU cI L o2 r2 n2 z2 G2)) [3, 4] rfl
          have hDc := hD.sub (ws' := (iU cI L o2 r2 n2 z2 G2)) [3, 4] (by decide) rfl
          have hFc := va_free (wc := (iU cI L o2 r2 n2 z2 G2)) hD hS hA [3, 4] rfl
          refine xk_call (va_runV (As := [.int (iz k), .int (iz (k - 1))]) (rest := []) ⟨hx, hb, hml, hown, hts⟩ (x_swap2 l dC dI cI cB cE L o2 r2 n2 z2 G2 k (k - 1) H.size hok2 hv2 (by omega) (by omega) (by omega) (by omega) (by omega) (by omega)) (cwV 2 hts (kx_gV kq_15_xspan_59 kq_15_xspan_60 kq_15_xspan_61 kq_13_xints_6 kq_15_xspan_62 rfl) rfl rfl rfl (by decide +kernel) ⟨Nat.le_of_ble_eq_true rfl, Nat.le_of_ble_eq_true rfl⟩) ⟨kx_blind, va_recv hK hPc (ci := 1) (q0 := 0) rfl rfl, kx_give (ws := []) (tys := []) hPc hDc hK hG hZ hS hFc⟩ rfl rfl hl.1 rfl (lv_room (Nat.le_of_ble_eq_true rfl)) dX3_sinkLast_45 ⟨show (0 + 0) + 0 ≤ 0 from (by omega), show (0 + 0) + 0 ≤ 0 from (by omega)⟩) hS (fun q _ h => hFc q h) hFc (fun u dn_14 dm_15 t H locs ht hvm hq_13 hB hk1 hS => ?_)
          obtain ⟨F_16, rfl⟩ : ∃ z, z = u := ⟨_, rfl⟩
          obtain ⟨hP1, hK1, hD1⟩ := hB
          rw [ht] at hP1
          obtain ⟨hP, hD⟩ := xj (wr := [(o0, .inr (3, [.ref o1, .ref o2, .ref o3])), (o1, .inr (1, [.int (iz L), .ref r1, .int (iz z1)])), (r1, .inl (cI, n1, .inl (iA F_12))), (o3, .inr (1, [.int (iz L), .ref r3, .int (iz z3)])), (r3, .inl (cI, n3, .inl (iA G3)))]) (w1 := (iU cI L o2 r2 n2 z2 F_16)) (ws' := (sU cI L o0 o1 o2 o3 r1 r2 r3 n1 n2 n3 z1 z2 z3 F_12 F_16 G3)) hP hD [3, 4] [0, 1, 2, 5, 6] [0, 1, 2, 5, 6, 3, 4] rfl rfl (by decide) (by decide) hk1 hFc hP1 hD1 rfl (by decide)
          refine W.eq (g2 := F0 m 48 ls []) rfl ?_
          try dsimp only at hq_13
          obtain ⟨hd2, hm2, hg2, he2⟩ := hq_13
          subst hd2
          subst hm2
          have hn2 : lo_sh F2 F_16 (z1 - 1) (k + (-1)) := by rw [he2, show k + (-1) = k - 1 by omega]; exact lo_sh_st hs2 (by omega) (by omega)
          refine lv_aload_n hx hb dX3_sinkLast_48 rfl (lv_at hl 1 rfl) ?_
          refine va_get (D := (dC, dI)) (ci := 3) (v := .ref o3) (C := RX3) (T := TX3) (N := 3) hx hb hts kt_X3 hown hK hP 0 rfl rfl 2 (by decide) (kx_word hG kq_15_xspan_40 rfl) (fun _ h9 => h9) rfl dX3_sinkLast_49 ?_
          refine lv_iload_n hx hb dX3_sinkLast_52 rfl (lv_at hl 0 rfl) ?_
          refine lv_iload_n hx hb dX3_sinkLast_53 rfl (lv_at hl 0 rfl) ?_
          refine lv_iconst (v := iz 1) hx hb dX3_sinkLast_54 (by decide) ?_
          refine ki_isub hx hb dX3_sinkLast_55 ?_
          have hPc := hP.sub (ws' := (iU cI L o3 r3 n3 z3 G3)) [5, 6] rfl
          have hDc := hD.sub (ws' := (iU cI L o3 r3 n3 z3 G3)) [5, 6] (by decide) rfl
          have hFc := va_free (wc := (iU cI L o3 r3 n3 z3 G3)) hD hS hA [5, 6] rfl
          refine xk_call (va_runV (As := [.int (iz k), .int (iz (k - 1))]) (rest := []) ⟨hx, hb, hml, hown, hts⟩ (x_swap2 l dC dI cI cB cE L o3 r3 n3 z3 G3 k (k - 1) H.size hok3 hv3 (by omega) (by omega) (by omega) (by omega) (by omega) (by omega)) (cwV 2 hts (kx_gV kq_15_xspan_59 kq_15_xspan_60 kq_15_xspan_61 kq_13_xints_6 kq_15_xspan_62 rfl) rfl rfl rfl (by decide +kernel) ⟨Nat.le_of_ble_eq_true rfl, Nat.le_of_ble_eq_true rfl⟩) ⟨kx_blind, va_recv hK hPc (ci := 1) (q0 := 0) rfl rfl, kx_give (ws := []) (tys := []) hPc hDc hK hG hZ hS hFc⟩ rfl rfl hl.1 rfl (lv_room (Nat.le_of_ble_eq_true rfl)) dX3_sinkLast_56 ⟨show ((0 + 0) + 0) + 0 ≤ 0 from (by omega), show ((0 + 0) + 0) + 0 ≤ 0 from (by omega)⟩) hS (fun q _ h => hFc q h) hFc (fun u dn_18 dm_19 t H locs ht hvm hq_17 hB hk1 hS => ?_)
          obtain ⟨F_20, rfl⟩ : ∃ z, z = u := ⟨_, rfl⟩
          obtain ⟨hP1, hK1, hD1⟩ := hB
          rw [ht] at hP1
          obtain ⟨hP, hD⟩ := xj (wr := [(o0, .inr (3, [.ref o1, .ref o2, .ref o3])), (o1, .inr (1, [.int (iz L), .ref r1, .int (iz z1)])), (r1, .inl (cI, n1, .inl (iA F_12))), (o2, .inr (1, [.int (iz L), .ref r2, .int (iz z2)])), (r2, .inl (cI, n2, .inl (iA F_16)))]) (w1 := (iU cI L o3 r3 n3 z3 F_20)) (ws' := (sU cI L o0 o1 o2 o3 r1 r2 r3 n1 n2 n3 z1 z2 z3 F_12 F_16 F_20)) hP hD [5, 6] [0, 1, 2, 3, 4] [0, 1, 2, 3, 4, 5, 6] rfl rfl (by decide) (by decide) hk1 hFc hP1 hD1 rfl (by decide)
          refine W.eq (g2 := F0 m 59 ls []) rfl ?_
          try dsimp only at hq_17
          obtain ⟨hd3, hm3, hg3, he3⟩ := hq_17
          subst hd3
          subst hm3
          have hn3 : lo_sh F3 F_20 (z1 - 1) (k + (-1)) := by rw [he3, show k + (-1) = k - 1 by omega]; exact lo_sh_st hs3 (by omega) (by omega)
          refine lv_iinc (v := iz (k + (-1))) (lv' := [(1, .int (iz (k + (-1)))), (0, .ref o0)]) hx hb dX3_sinkLast_59 hl (k := 0) rfl (iz_add k (-1)) (by decide) rfl (fun ls hl => ?_)
          refine lv_goto (tgt := 7) hx hb dX3_sinkLast_62 (by decide) ?_
          exact ih7 (k + (-1)) F_12 F_16 F_20 ⟨by omega, hg1, hg2, hg3, hn1, hn2, hn3, fun i a b => by by_cases c9 : i = k - 1; (rw [c9]; omega); exact hgt i (by omega) b⟩ (by omega) _ _ hP hD hS ls (lv_sub hl [0, 1] rfl)
  exact lp7 _ (z1 - 1) F1 F2 F3 ⟨by omega, hF1, hF2, hF3, lo_sh_0 _ _, lo_sh_0 _ _, lo_sh_0 _ _, fun i a b => absurd b (by omega)⟩ (Nat.lt_succ_self _) _ _ hP hD hS ls (lv_sub hl [0, 1] rfl)
set_option maxHeartbeats 4000000 in
set_option maxRecDepth 100000 in
theorem x_sall2 (l : Launch) (dC : Nat → ClassId) (dI : Nat → Nat → Nat) (cI cB cE : ClassId) (L : Int) (o0 : Nat) (o1 : Nat) (o2 : Nat) (o3 : Nat) (r1 : Nat) (r2 : Nat) (r3 : Nat) (n1 : Nat) (n2 : Nat) (n3 : Nat) (z1 : Int) (z2 : Int) (z3 : Int) (F1 : Int → Int) (F2 : Int → Int) (F3 : Int → Int) (Lb : Int) (o0b : Nat) (o1b : Nat) (o2b : Nat) (o3b : Nat) (r1b : Nat) (r2b : Nat) (r3b : Nat) (n1b : Nat) (n2b : Nat) (n3b : Nat) (z1b : Int) (z2b : Int) (z3b : Int) (F1b : Int → Int) (F2b : Int → Int) (F3b : Int → Int) (sz : Nat) (hok1 : 0 ≤ z1 ∧ z1 ≤ (n1 : Int) ∧ (n1 : Int) ≤ L ∧ L ≤ 1600) (hF1 : iB F1) (hok2 : 0 ≤ z2 ∧ z2 ≤ (n2 : Int) ∧ (n2 : Int) ≤ L ∧ L ≤ 1600) (hF2 : iB F2) (hok3 : 0 ≤ z3 ∧ z3 ≤ (n3 : Int) ∧ (n3 : Int) ≤ L ∧ L ≤ 1600) (hF3 : iB F3) (hok1b : 0 ≤ z1b ∧ z1b ≤ (n1b : Int) ∧ (n1b : Int) ≤ Lb ∧ Lb ≤ 1600) (hF1b : iB F1b) (hok2b : 0 ≤ z2b ∧ z2b ≤ (n2b : Int) ∧ (n2b : Int) ≤ Lb ∧ Lb ≤ 1600) (hF2b : iB F2b) (hok3b : 0 ≤ z3b ∧ z3b ≤ (n3b : Int) ∧ (n3b : Int) ≤ Lb ∧ Lb ≤ 1600) (hF3b : iB F3b) (hzz : z1 = z2 ∧ z2 = z3) (hzb : z1b = z2b ∧ z2b = z3b) (hrm : z1 + z1b ≤ L) (hb01 : ∀ i, 0 ≤ i → i < z1b → F3b i = 0 ∨ F3b i = 1) : Met l yX3_addAllInOrder [.code yX3_addAllInOrder cX3_addAllInOrder 3 none] ({ frames := 4, cells := 30, slots := 19200, locals := 126 }) (va_Pc [.ref o0, .ref o0b] (kx_Pre dC dI ((sU cI L o0 o1 o2 o3 r1 r2 r3 n1 n2 n3 z1 z2 z3 F1 F2 F3) ++ (sU cI Lb o0b o1b o2b o3b r1b r2b r3b n1b n2b n3b z1b z2b z3b F1b F2b F3b)) (xT cI cB cE) sz)) (xQ (fun _ : Nat × Nat × Int × (Int → Int) × Nat × Nat × Int × (Int → Int) × Nat × Nat × Int × (Int → Int) => none) (fun (u : Nat × Nat × Int × (Int → Int) × Nat × Nat × Int × (Int → Int) × Nat × Nat × Int × (Int → Int)) (dn dm : Nat) => match u with | (r1', n1', z1', F1', r2', n2', z2', F2', r3', n3', z3', F3') => (0 ≤ z1' ∧ z1' ≤ (n1' : Int) ∧ (n1' : Int) ≤ L) ∧ iB F1' ∧ (0 ≤ z2' ∧ z2' ≤ (n2' : Int) ∧ (n2' : Int) ≤ L) ∧ iB F2' ∧ (0 ≤ z3' ∧ z3' ≤ (n3' : Int) ∧ (n3' : Int) ≤ L) ∧ iB F3' ∧ (dn + psg L n1' + psg L n2' + psg L n3' ≤ psg L n1 + psg L n2 + psg L n3 ∧ dm + psj L n1' + psj L n2' + psj L n3' ≤ psj L n1 + psj L n2 + psj L n3) ∧ (z1' = z1 + z1b ∧ z2' = z1' ∧ z3' = z1') ∧ lo_X (lo_ls F1 F2 F3 z1.toNat 0) (lo_ls F1b F2b F3b (z1b).toNat 0) (lo_ls F1' F2' F3' z1'.toNat 0)) (fun u t => kx_At dC dI (va_A ((sU cI L o0 o1 o2 o3 r1 r2 r3 n1 n2 n3 z1 z2 z3 F1 F2 F3) ++ (sU cI Lb o0b o1b o2b o3b r1b r2b r3b n1b n2b n3b z1b z2b z3b F1b F2b F3b)) sz) ((fun u : Nat × Nat × Int × (Int → Int) × Nat × Nat × Int × (Int → Int) × Nat × Nat × Int × (Int → Int) => match u with | (r1', n1', z1', F1', r2', n2', z2', F2', r3', n3', z3', F3') => ((sU cI L o0 o1 o2 o3 r1' r2' r3' n1' n2' n3' z1' z2' z3' F1' F2' F3') ++ (sU cI Lb o0b o1b o2b o3b r1b r2b r3b n1b n2b n3b z1b z2b z3b F1b F2b F3b))) u) (xT cI cB cE) t) (va_A ((sU cI L o0 o1 o2 o3 r1 r2 r3 n1 n2 n3 z1 z2 z3 F1 F2 F3) ++ (sU cI Lb o0b o1b o2b o3b r1b r2b r3b n1b n2b n3b z1b z2b z3b F1b F2b F3b)) sz)) 30 19200 (va_A ((sU cI L o0 o1 o2 o3 r1 r2 r3 n1 n2 n3 z1 z2 z3 F1 F2 F3) ++ (sU cI Lb o0b o1b o2b o3b r1b r2b r3b n1b n2b n3b z1b z2b z3b F1b F2b F3b)) sz) := by
  refine Met.ofW (cc := cX3_addAllInOrder) (maxL := 3) (ret := none) (by decide) rfl ?_
  intro p e s m args below meth c s₁ B hml hv
  obtain ⟨rfl, hsz, hP, hK, hD0, hG, hZ⟩ := hv
  have hx := B.exec
  have hb := B.bytes
  have hr := B.returns
  have hts := kx_hts (a := ([.ref o0, .ref o0b] : List Value).toArray) hG
  have hown : s.vm.findClass RX3 = some m.cls := findClass_of_methodNamed B.named
  have hlocks := B.notSynchronized
  subst hsz
  have hD := hD0.self (sz := s.heap.size)
  generalize hAe : va_A ((sU cI L o0 o1 o2 o3 r1 r2 r3 n1 n2 n3 z1 z2 z3 F1 F2 F3) ++ (sU cI Lb o0b o1b o2b o3b r1b r2b r3b n1b n2b n3b z1b z2b z3b F1b F2b F3b)) s.heap.size = A at hD hZ ⊢
  have hA : ∀ q : Nat, s.heap.size ≤ q → A q := fun q h => by rw [← hAe]; exact Or.inr h
  have hS : va_S A s.heap s.heap [] := va_S.rf
  have hl := lv_entry ([.ref o0, .ref o0b]) (n := 3) (Nat.le_of_ble_eq_true rfl)
  rw [lg_entry_eq]
  generalize (lg_sl ([.ref o0, .ref o0b]) ++ List.replicate (3 - (lg_sl ([.ref o0, .ref o0b])).length) Slot.unset).toArray = ls at hl ⊢
  have hl : lv_has ls 3 [(0, .ref o0), (1, .ref o0b)] := hl
  generalize hQe : MQ below (xQ (fun _ : Nat × Nat × Int × (Int → Int) × Nat × Nat × Int × (Int → Int) × Nat × Nat × Int × (Int → Int) => none) (fun (u : Nat × Nat × Int × (Int → Int) × Nat × Nat × Int × (Int → Int) × Nat × Nat × Int × (Int → Int)) (dn dm : Nat) => match u with | (r1', n1', z1', F1', r2', n2', z2', F2', r3', n3', z3', F3') => (0 ≤ z1' ∧ z1' ≤ (n1' : Int) ∧ (n1' : Int) ≤ L) ∧ iB F1' ∧ (0 ≤ z2' ∧ z2' ≤ (n2' : Int) ∧ (n2' : Int) ≤ L) ∧ iB F2' ∧ (0 ≤ z3' ∧ z3' ≤ (n3' : Int) ∧ (n3' : Int) ≤ L) ∧ iB F3' ∧ (dn + psg L n1' + psg L n2' + psg L n3' ≤ psg L n1 + psg L n2 + psg L n3 ∧ dm + psj L n1' + psj L n2' + psj L n3' ≤ psj L n1 + psj L n2 + psj L n3) ∧ (z1' = z1 + z1b ∧ z2' = z1' ∧ z3' = z1') ∧ lo_X (lo_ls F1 F2 F3 z1.toNat 0) (lo_ls F1b F2b F3b (z1b).toNat 0) (lo_ls F1' F2' F3' z1'.toNat 0)) (fun u t => kx_At dC dI A ((fun u : Nat × Nat × Int × (Int → Int) × Nat × Nat × Int × (Int → Int) × Nat × Nat × Int × (Int → Int) => match u with | (r1', n1', z1', F1', r2', n2', z2', F2', r3', n3', z3', F3') => ((sU cI L o0 o1 o2 o3 r1' r2' r3' n1' n2' n3' z1' z2' z3' F1' F2' F3') ++ (sU cI Lb o0b o1b o2b o3b r1b r2b r3b n1b n2b n3b z1b z2b z3b F1b F2b F3b))) u) (xT cI cB cE) t) A) ([.ref o0, .ref o0b] : List Value).toArray s 30 19200 A = QQ
  refine lv_iconst (v := iz 0) hx hb dX3_addAllInOrder_0 (by decide) ?_
  refine lv_istore_n (lv' := [(2, .int (iz 0)), (0, .ref o0), (1, .ref o0b)]) hx hb dX3_addAllInOrder_1 rfl hl (by decide) rfl (fun ls hl => ?_)
  have lp2 : ∀ (n0 : Nat) (k : Int) (rr1 : Nat) (m1 : Nat) (y1 : Int) (G1 : Int → Int) (rr2 : Nat) (m2 : Nat) (y2 : Int) (G2 : Int → Int) (rr3 : Nat) (m3 : Nat) (y3 : Int) (G3 : Int → Int) (cv : Nat) (sv : Nat), ((0 ≤ k ∧ k ≤ z1b) ∧ (0 ≤ y1 ∧ y1 ≤ (m1 : Int) ∧ (m1 : Int) ≤ L) ∧ (0 ≤ y2 ∧ y2 ≤ (m2 : Int) ∧ (m2 : Int) ≤ L) ∧ (0 ≤ y3 ∧ y3 ≤ (m3 : Int) ∧ (m3 : Int) ≤ L) ∧ (iB G1) ∧ (iB G2) ∧ (iB G3) ∧ (cv + psg L m1 + psg L m2 + psg L m3 ≤ psg L n1 + psg L n2 + psg L n3 ∧ sv + psj L m1 + psj L m2 + psj L m3 ≤ psj L n1 + psj L n2 + psj L n3) ∧ (y1 = z1 + k ∧ y2 = y1 ∧ y3 = y1) ∧ (lo_X (lo_ls F1 F2 F3 z1.toNat 0) (lo_ls F1b F2b F3b (k).toNat 0) (lo_ls G1 G2 G3 y1.toNat 0))) → (z1b - k).toNat < n0 → ∀ (H : Heap) (locs : List Loc), va_P (dC, dI) kxCl ((sU cI L o0 o1 o2 o3 rr1 rr2 rr3 m1 m2 m3 y1 y2 y3 G1 G2 G3) ++ (sU cI Lb o0b o1b o2b o3b r1b r2b r3b n1b n2b n3b z1b z2b z3b F1b F2b F3b)) H → va_D A ((sU cI L o0 o1 o2 o3 rr1 rr2 rr3 m1 m2 m3 y1 y2 y3 G1 G2 G3) ++ (sU cI Lb o0b o1b o2b o3b r1b r2b r3b n1b n2b n3b z1b z2b z3b F1b F2b F3b)) → va_S A s.heap H locs → ∀ ls : Array Slot, lv_has ls 3 [(2, .int (iz k)), (0, .ref o0), (1, .ref o0b)] → W p l e (headSpec [.code yX3_addAllInOrder cX3_addAllInOrder 3 none] ({ frames := 4, cells := 30, slots := 19200, locals := 126 })).room s m ([.ref o0, .ref o0b] : List Value).toArray below meth c H locs cv sv QQ (F0 m 2 ls []) := by
    intro n0
    induction n0 with
    | zero => intro k rr1 m1 y1 G1 rr2 m2 y2 G2 rr3 m3 y3 G3 cv sv hinv hm0; exact absurd hm0 (Nat.not_lt_zero _)
    | succ n0 ih2 =>
      intro k rr1 m1 y1 G1 rr2 m2 y2 G2 rr3 m3 y3 G3 cv sv hinv hm0 H locs hP hD hS ls hl
      obtain ⟨hk, hv1, hv2, hv3, hw1, hw2, hw3, hcv, hyz, hXi⟩ := hinv
      have hp1 := psg_le L n1
      have hp2 := psg_le L n2
      have hp3 := psg_le L n3
      have hq1 := psj_le (L := L) (by omega) n1
      have hq2 := psj_le (L := L) (by omega) n2
      have hq3 := psj_le (L := L) (by omega) n3
      refine lv_iload_n hx hb dX3_addAllInOrder_2 rfl (lv_at hl 0 rfl) ?_
      refine lv_aload_n hx hb dX3_addAllInOrder_3 rfl (lv_at hl 2 rfl) ?_
      have hPc := hP.sub (ws' := (sU cI Lb o0b o1b o2b o3b r1b r2b r3b n1b n2b n3b z1b z2b z3b F1b F2b F3b)) [7, 8, 9, 10, 11, 12, 13] rfl
      refine xk_pure (va_runV (As := []) (rest := [.int (iz k)]) ⟨hx, hb, hml, hown, hts⟩ (x_ssize l dC dI cI cB cE Lb o0b o1b o2b o3b r1b r2b r3b n1b n2b n3b z1b z2b z3b F1b F2b F3b  H.size ) (cwV 0 hts (kx_gV kq_15_xspan_50 kq_15_xspan_51 kq_15_xspan_52 kq_15_xspan_53 kq_15_xspan_54 rfl) rfl rfl rfl (by decide +kernel) ⟨Nat.le_of_ble_eq_true rfl, Nat.le_of_ble_eq_true rfl⟩) ⟨pPre_blind, va_recv hK hPc (ci := 3) (q0 := 0) rfl rfl, pPre_give hPc hK hG⟩ rfl rfl hl.1 rfl (lv_room (Nat.le_of_ble_eq_true rfl)) dX3_addAllInOrder_4 ⟨show cv + 0 ≤ 30 from (by omega), show sv + 0 ≤ 19200 from (by omega)⟩) hS (fun z_2 locs hq_1 hS => ?_)
      refine W.eq (g2 := F0 m 7 ls [.int (iz z_2), .int (iz k)]) rfl ?_
      try dsimp only at hq_1
      have hq_1 := hq_1.symm
      subst hq_1
      refine ki_icmp_ge (tgt := 39) hx hb dX3_addAllInOrder_7 (by decide) (by omega) (by omega) (by omega) (by omega) (fun c_3 => ?_) (fun c_3 => ?_)
      · skip
        rw [← hQe]
        exact xk_vret (ov := (fun _ : Nat × Nat × Int × (Int → Int) × Nat × Nat × Int × (Int → Int) × Nat × Nat × Int × (Int → Int) => none)) (post := (fun (u : Nat × Nat × Int × (Int → Int) × Nat × Nat × Int × (Int → Int) × Nat × Nat × Int × (Int → Int)) (dn dm : Nat) => match u with | (r1', n1', z1', F1', r2', n2', z2', F2', r3', n3', z3', F3') => (0 ≤ z1' ∧ z1' ≤ (n1' : Int) ∧ (n1' : Int) ≤ L) ∧ iB F1' ∧ (0 ≤ z2' ∧ z2' ≤ (n2' : Int) ∧ (n2' : Int) ≤ L) ∧ iB F2' ∧ (0 ≤ z3' ∧ z3' ≤ (n3' : Int) ∧ (n3' : Int) ≤ L) ∧ iB F3' ∧ (dn + psg L n1' + psg L n2' + psg L n3' ≤ psg L n1 + psg L n2 + psg L n3 ∧ dm + psj L n1' + psj L n2' + psj L n3' ≤ psj L n1 + psj L n2 + psj L n3) ∧ (z1' = z1 + z1b ∧ z2' = z1' ∧ z3' = z1') ∧ lo_X (lo_ls F1 F2 F3 z1.toNat 0) (lo_ls F1b F2b F3b (z1b).toNat 0) (lo_ls F1' F2' F3' z1'.toNat 0))) (ws := (fun u : Nat × Nat × Int × (Int → Int) × Nat × Nat × Int × (Int → Int) × Nat × Nat × Int × (Int → Int) => match u with | (r1', n1', z1', F1', r2', n2', z2', F2', r3', n3', z3', F3') => ((sU cI L o0 o1 o2 o3 r1' r2' r3' n1' n2' n3' z1' z2' z3' F1' F2' F3') ++ (sU cI Lb o0b o1b o2b o3b r1b r2b r3b n1b n2b n3b z1b z2b z3b F1b F2b F3b)))) (tys := xT cI cB cE) (rr1, m1, y1, G1, rr2, m2, y2, G2, rr3, m3, y3, G3) hx hb hr hlocks rfl hP hD hK hS dX3_addAllInOrder_39 (fun dn dm hdn hdm => ⟨by omega, hw1, by omega, hw2, by omega, hw3, by omega, by omega, (by rw [show z1b = k by omega]; exact hXi)⟩) (by omega) (by omega)
      · skip
        refine lv_aload_n hx hb dX3_addAllInOrder_10 rfl (lv_at hl 1 rfl) ?_
        refine lv_aload_n hx hb dX3_addAllInOrder_11 rfl (lv_at hl 2 rfl) ?_
        refine lv_iload_n hx hb dX3_addAllInOrder_12 rfl (lv_at hl 0 rfl) ?_
        have hPc := hP.sub (ws' := (sU cI Lb o0b o1b o2b o3b r1b r2b r3b n1b n2b n3b z1b z2b z3b F1b F2b F3b)) [7, 8, 9, 10, 11, 12, 13] rfl
        refine xk_pure (va_runV (As := [.int (iz k)]) (rest := [.ref o0]) ⟨hx, hb, hml, hown, hts⟩ (x_sfrom l dC dI cI cB cE Lb o0b o1b o2b o3b r1b r2b r3b n1b n2b n3b z1b z2b z3b F1b F2b F3b k H.size hok1b hF1b hok2b hF2b hok3b hF3b (by omega) (by omega)) (cwV 1 hts (kx_gV kq_15_xspan_55 kq_15_xspan_56 kq_15_xspan_57 kq_15_xspan_53 kq_15_xspan_58 rfl) rfl rfl rfl (by decide +kernel) ⟨Nat.le_of_ble_eq_true rfl, Nat.le_of_ble_eq_true rfl⟩) ⟨pPre_blind, va_recv hK hPc (ci := 3) (q0 := 0) rfl rfl, pPre_give hPc hK hG⟩ rfl rfl hl.1 rfl (lv_room (Nat.le_of_ble_eq_true rfl)) dX3_addAllInOrder_13 ⟨show cv + 0 ≤ 30 from (by omega), show sv + 0 ≤ 19200 from (by omega)⟩) hS (fun z_5 locs hq_4 hS => ?_)
        refine W.eq (g2 := F0 m 16 ls [.int (iz z_5), .ref o0]) rfl ?_
        try dsimp only at hq_4
        have eg_6 : z_5 = F1b k := by omega
        subst eg_6
        refine W.eq (g2 := F0 m 16 ls [.int (iz (F1b k)), .ref o0]) rfl ?_
        refine lv_aload_n hx hb dX3_addAllInOrder_16 rfl (lv_at hl 2 rfl) ?_
        refine lv_iload_n hx hb dX3_addAllInOrder_17 rfl (lv_at hl 0 rfl) ?_
        have hPc := hP.sub (ws' := (sU cI Lb o0b o1b o2b o3b r1b r2b r3b n1b n2b n3b z1b z2b z3b F1b F2b F3b)) [7, 8, 9, 10, 11, 12, 13] rfl
        refine xk_pure (va_runV (As := [.int (iz k)]) (rest := [.int (iz (F1b k)), .ref o0]) ⟨hx, hb, hml, hown, hts⟩ (x_sto l dC dI cI cB cE Lb o0b o1b o2b o3b r1b r2b r3b n1b n2b n3b z1b z2b z3b F1b F2b F3b k H.size hok1b hF1b hok2b hF2b hok3b hF3b (by omega) (by omega)) (cwV 1 hts (kx_gV kq_15_xspan_63 kq_15_xspan_64 kq_15_xspan_65 kq_15_xspan_53 kq_15_xspan_66 rfl) rfl rfl rfl (by decide +kernel) ⟨Nat.le_of_ble_eq_true rfl, Nat.le_of_ble_eq_true rfl⟩) ⟨pPre_blind, va_recv hK hPc (ci := 3) (q0 := 0) rfl rfl, pPre_give hPc hK hG⟩ rfl rfl hl.1 rfl (lv_room (Nat.le_of_ble_eq_true rfl)) dX3_addAllInOrder_18 ⟨show cv + 0 ≤ 30 from (by omega), show sv + 0 ≤ 19200 from (by omega)⟩) hS (fun z_8 locs hq_7 hS => ?_)
        refine W.eq (g2 := F0 m 21 ls [.int (iz z_8), .int (iz (F1b k)), .ref o0]) rfl ?_
        try dsimp only at hq_7
        have eg_9 : z_8 = F2b k := by omega
        subst eg_9
        refine W.eq (g2 := F0 m 21 ls [.int (iz (F2b k)), .int (iz (F1b k)), .ref o0]) rfl ?_
        refine lv_aload_n hx hb dX3_addAllInOrder_21 rfl (lv_at hl 2 rfl) ?_
        refine lv_iload_n hx hb dX3_addAllInOrder_22 rfl (lv_at hl 0 rfl) ?_
        have hPc := hP.sub (ws' := (sU cI Lb o0b o1b o2b o3b r1b r2b r3b n1b n2b n3b z1b z2b z3b F1b F2b F3b)) [7, 8, 9, 10, 11, 12, 13] rfl
        refine xk_pure (va_runV (As := [.int (iz k)]) (rest := [.int (iz (F2b k)), .int (iz (F1b k)), .ref o0]) ⟨hx, hb, hml, hown, hts⟩ (x_stold2 l dC dI cI cB cE Lb o0b o1b o2b o3b r1b r2b r3b n1b n2b n3b z1b z2b z3b F1b F2b F3b k H.size hok1b hF1b hok2b hF2b hok3b hF3b (by omega) (by omega) (by omega)) (cwV 1 hts (kx_gV kq_15_xspan_67 kq_15_xspan_68 kq_15_xspan_69 kq_15_xspan_53 kq_15_xspan_70 rfl) rfl rfl rfl (by decide +kernel) ⟨Nat.le_of_ble_eq_true rfl, Nat.le_of_ble_eq_true rfl⟩) ⟨pPre_blind, va_recv hK hPc (ci := 3) (q0 := 0) rfl rfl, pPre_give hPc hK hG⟩ rfl rfl hl.1 rfl (lv_room (Nat.le_of_ble_eq_true rfl)) dX3_addAllInOrder_23 ⟨show cv + 0 ≤ 30 from (by omega), show sv + 0 ≤ 19200 from (by omega)⟩) hS (fun z_11 locs hq_10 hS => ?_)
        refine W.eq (g2 := F0 m 26 ls [.int (iz z_11), .int (iz (F2b k)), .int (iz (F1b k)), .ref o0]) rfl ?_
        try dsimp only at hq_10
        have h01 := hb01 k (by omega) (by omega)
        have eg_12 : z_11 = F3b k := by omega
        subst eg_12
        refine W.eq (g2 := F0 m 26 ls [.int (iz (F3b k)), .int (iz (F2b k)), .int (iz (F1b k)), .ref o0]) rfl ?_
        have hPc := hP.sub (ws' := (sU cI L o0 o1 o2 o3 rr1 rr2 rr3 m1 m2 m3 y1 y2 y3 G1 G2 G3)) [0, 1, 2, 3, 4, 5, 6] rfl
        have hDc := hD.sub (ws' := (sU cI L o0 o1 o2 o3 rr1 rr2 rr3 m1 m2 m3 y1 y2 y3 G1 G2 G3)) [0, 1, 2, 3, 4, 5, 6] (by decide) rfl
        have hFc := va_free (wc := (sU cI L o0 o1 o2 o3 rr1 rr2 rr3 m1 m2 m3 y1 y2 y3 G1 G2 G3)) hD hS hA [0, 1, 2, 3, 4, 5, 6] rfl
        refine xk_call (va_runV (As := [.int (iz (F1b k)), .int (iz (F2b k)), .int (iz (F3b k))]) (rest := []) ⟨hx, hb, hml, hown, hts⟩ (x_sadd l dC dI cI cB cE L o0 o1 o2 o3 rr1 rr2 rr3 m1 m2 m3 y1 y2 y3 G1 G2 G3 (F1b k) (F2b k) (F3b k) H.size (by omega) hw1 (by omega) hw2 (by omega) hw3 (by omega) (by omega) (by omega) (by omega) (by omega)) (cwV 3 hts (kx_gV kq_15_xspan_71 kq_15_xspan_72 kq_15_xspan_73 kq_15_xspan_53 kq_15_xspan_74 rfl) rfl rfl rfl (by decide +kernel) ⟨Nat.le_of_ble_eq_true rfl, Nat.le_of_ble_eq_true rfl⟩) ⟨kx_blind, va_recv hK hPc (ci := 3) (q0 := 0) rfl rfl, kx_give (ws := []) (tys := []) hPc hDc hK hG hZ hS hFc⟩ rfl rfl hl.1 rfl (lv_room (Nat.le_of_ble_eq_true rfl)) dX3_addAllInOrder_26 ⟨show cv + 3 ≤ 30 from (by omega), show sv + 4800 ≤ 19200 from (by omega)⟩) hS (fun q _ h => hFc q h) hFc (fun u dn_14 dm_15 t H locs ht hvm hq_13 hB hk1 hS => ?_)
        obtain ⟨r1_16, n1_17, z1_18, F1_19, r2_20, n2_21, z2_22, F2_23, r3_24, n3_25, z3_26, F3_27⟩ := u
        obtain ⟨hP1, hK1, hD1⟩ := hB
        rw [ht] at hP1
        obtain ⟨hP, hD⟩ := xj (wr := [(o0b, .inr (3, [.ref o1b, .ref o2b, .ref o3b])), (o1b, .inr (1, [.int (iz Lb), .ref r1b, .int (iz z1b)])), (r1b, .inl (cI, n1b, .inl (iA F1b))), (o2b, .inr (1, [.int (iz Lb), .ref r2b, .int (iz z2b)])), (r2b, .inl (cI, n2b, .inl (iA F2b))), (o3b, .inr (1, [.int (iz Lb), .ref r3b, .int (iz z3b)])), (r3b, .inl (cI, n3b, .inl (iA F3b)))]) (w1 := (sU cI L o0 o1 o2 o3 r1_16 r2_20 r3_24 n1_17 n2_21 n3_25 z1_18 z2_22 z3_26 F1_19 F2_23 F3_27)) (ws' := ((sU cI L o0 o1 o2 o3 r1_16 r2_20 r3_24 n1_17 n2_21 n3_25 z1_18 z2_22 z3_26 F1_19 F2_23 F3_27) ++ (sU cI Lb o0b o1b o2b o3b r1b r2b r3b n1b n2b n3b z1b z2b z3b F1b F2b F3b))) hP hD [0, 1, 2, 3, 4, 5, 6] [7, 8, 9, 10, 11, 12, 13] [7, 8, 9, 10, 11, 12, 13, 0, 1, 2, 3, 4, 5, 6] rfl rfl (by decide) (by decide) hk1 hFc hP1 hD1 rfl (by decide)
        refine W.eq (g2 := F0 m 29 ls []) rfl ?_
        try dsimp only at hq_13
        obtain ⟨ha1, hb1, ha2, hb2, ha3, hb3, hc, hd1, hd2, hd3⟩ := hq_13
        have hr1 : z1_18 = y1 + 1 ∧ F1_19 y1 = F1b k := by rcases hd1.1 with h9 | h9; exact absurd h9.1 (by omega); exact ⟨h9.2.1, h9.2.2⟩
        have hr2 : z2_22 = y2 + 1 ∧ F2_23 y2 = F2b k := by rcases hd2.1 with h9 | h9; exact absurd h9.1 (by omega); exact ⟨h9.2.1, h9.2.2⟩
        have hr3 : z3_26 = y3 + 1 ∧ F3_27 y3 = F3b k := by rcases hd3.1 with h9 | h9; exact absurd h9.1 (by omega); exact ⟨h9.2.1, h9.2.2⟩
        have hy12 : y2 = y1 ∧ y3 = y1 := by omega
        obtain ⟨hr1, hr1b⟩ := hr1
        obtain ⟨hr2, hr2b⟩ := hr2
        obtain ⟨hr3, hr3b⟩ := hr3
        rw [hy12.1] at hr2b
        rw [hy12.2] at hr3b
        have hj1 := hd1.2
        replace hd1 := fun (_ : Unit) => hd1
        have hj2 := hd2.2
        replace hd2 := fun (_ : Unit) => hd2
        have hj3 := hd3.2
        replace hd3 := fun (_ : Unit) => hd3
        rw [hy12.1] at hj2
        rw [hy12.2] at hj3
        refine lv_aload_n hx hb dX3_addAllInOrder_29 rfl (lv_at hl 1 rfl) ?_
        have hPc := hP.sub (ws' := (sU cI L o0 o1 o2 o3 r1_16 r2_20 r3_24 n1_17 n2_21 n3_25 z1_18 z2_22 z3_26 F1_19 F2_23 F3_27)) [0, 1, 2, 3, 4, 5, 6] rfl
        have hDc := hD.sub (ws' := (sU cI L o0 o1 o2 o3 r1_16 r2_20 r3_24 n1_17 n2_21 n3_25 z1_18 z2_22 z3_26 F1_19 F2_23 F3_27)) [0, 1, 2, 3, 4, 5, 6] (by decide) rfl
        have hFc := va_free (wc := (sU cI L o0 o1 o2 o3 r1_16 r2_20 r3_24 n1_17 n2_21 n3_25 z1_18 z2_22 z3_26 F1_19 F2_23 F3_27)) hD hS hA [0, 1, 2, 3, 4, 5, 6] rfl
        refine xk_call (va_runV (As := []) (rest := []) ⟨hx, hb, hml, hown, hts⟩ (x_ssink2 l dC dI cI cB cE L o0 o1 o2 o3 r1_16 r2_20 r3_24 n1_17 n2_21 n3_25 z1_18 z2_22 z3_26 F1_19 F2_23 F3_27  H.size (by omega) hb1 (by omega) hb2 (by omega) hb3 (by omega)) (cwV 0 hts (kx_gV kq_15_xspan_75 kq_15_xspan_76 kq_15_xspan_77 kq_15_xspan_53 kq_15_xspan_78 rfl) rfl rfl rfl (by decide +kernel) ⟨Nat.le_of_ble_eq_true rfl, Nat.le_of_ble_eq_true rfl⟩) ⟨kx_blind, va_recv hK hPc (ci := 3) (q0 := 0) rfl rfl, kx_give (ws := []) (tys := []) hPc hDc hK hG hZ hS hFc⟩ rfl rfl hl.1 rfl (lv_room (Nat.le_of_ble_eq_true rfl)) dX3_addAllInOrder_30 ⟨show (cv + dn_14) + 0 ≤ 30 from (by omega), show (sv + dm_15) + 0 ≤ 19200 from (by omega)⟩) hS (fun q _ h => hFc q h) hFc (fun u dn_29 dm_30 t H locs ht hvm hq_28 hB hk1 hS => ?_)
        obtain ⟨F1_31, F2_32, F3_33⟩ := u
        obtain ⟨hP1, hK1, hD1⟩ := hB
        rw [ht] at hP1
        obtain ⟨hP, hD⟩ := xj (wr := [(o0b, .inr (3, [.ref o1b, .ref o2b, .ref o3b])), (o1b, .inr (1, [.int (iz Lb), .ref r1b, .int (iz z1b)])), (r1b, .inl (cI, n1b, .inl (iA F1b))), (o2b, .inr (1, [.int (iz Lb), .ref r2b, .int (iz z2b)])), (r2b, .inl (cI, n2b, .inl (iA F2b))), (o3b, .inr (1, [.int (iz Lb), .ref r3b, .int (iz z3b)])), (r3b, .inl (cI, n3b, .inl (iA F3b)))]) (w1 := (sU cI L o0 o1 o2 o3 r1_16 r2_20 r3_24 n1_17 n2_21 n3_25 z1_18 z2_22 z3_26 F1_31 F2_32 F3_33)) (ws' := ((sU cI L o0 o1 o2 o3 r1_16 r2_20 r3_24 n1_17 n2_21 n3_25 z1_18 z2_22 z3_26 F1_31 F2_32 F3_33) ++ (sU cI Lb o0b o1b o2b o3b r1b r2b r3b n1b n2b n3b z1b z2b z3b F1b F2b F3b))) hP hD [0, 1, 2, 3, 4, 5, 6] [7, 8, 9, 10, 11, 12, 13] [7, 8, 9, 10, 11, 12, 13, 0, 1, 2, 3, 4, 5, 6] rfl rfl (by decide) (by decide) hk1 hFc hP1 hD1 rfl (by decide)
        refine W.eq (g2 := F0 m 33 ls []) rfl ?_
        try dsimp only at hq_28
        obtain ⟨hd, hm, hg1, hg2, hg3, k9, hk9, hs1, hs2, hs3, hsl, hsr⟩ := hq_28
        subst hd
        subst hm
        rw [show z1_18 - 1 = y1 by omega] at hs1 hs2 hs3 hsl hsr
        have hXn := lo_X_step hXi (by omega) hj1 hj2 hj3 hr1b hr2b hr3b hk9.1 (by omega) hs1 hs2 hs3 hsl hsr
        replace hsl := fun (_ : Unit) => hsl
        refine lv_iinc (v := iz (k + 1)) (lv' := [(2, .int (iz (k + 1))), (0, .ref o0), (1, .ref o0b)]) hx hb dX3_addAllInOrder_33 hl (k := 0) rfl (iz_add k 1) (by decide) rfl (fun ls hl => ?_)
        refine lv_goto (tgt := 2) hx hb dX3_addAllInOrder_36 (by decide) ?_
        exact ih2 (k + 1) r1_16 n1_17 z1_18 F1_31 r2_20 n2_21 z2_22 F2_32 r3_24 n3_25 z3_26 F3_33 ((cv + dn_14) + 0) ((sv + dm_15) + 0) ⟨by omega, by omega, by omega, by omega, hg1, hg2, hg3, by omega, by omega, (by rw [lo_ls_s (show 0 ≤ k by omega), show z1_18 = y1 + 1 by omega]; exact hXn)⟩ (by omega) _ _ hP hD hS ls (lv_sub hl [0, 1, 2] rfl)
  exact lp2 _ 0 r1 n1 z1 F1 r2 n2 z2 F2 r3 n3 z3 F3 0 0 ⟨by omega, by omega, by omega, by omega, hF1, hF2, hF3, by omega, by omega, lo_X_nil _⟩ (Nat.lt_succ_self _) _ _ hP hD hS ls (lv_sub hl [0, 1, 2] rfl)
