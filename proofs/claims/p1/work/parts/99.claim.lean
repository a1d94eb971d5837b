theorem kv_X0 : ∀ w ∈ u_ws RX0 TX0 12, w ∈ lw_tbl := by decide +kernel
theorem kv_X1 : ∀ w ∈ u_ws RX1 TX1 3, w ∈ lw_tbl := by decide +kernel
theorem kv_X2 : ∀ w ∈ u_ws RX2 TX2 3, w ∈ lw_tbl := by decide +kernel
theorem kv_X3 : ∀ w ∈ u_ws RX3 TX3 3, w ∈ lw_tbl := by decide +kernel
theorem kv_X4 : ∀ w ∈ u_ws RX4 TX4 5, w ∈ lw_tbl := by decide +kernel
theorem kv_X5 : ∀ w ∈ u_ws RX5 TX5 16, w ∈ lw_tbl := by decide +kernel
theorem kv_X6 : ∀ w ∈ u_ws RX6 TX6 44, w ∈ lw_tbl := by decide +kernel
set_option maxHeartbeats 4000000 in
set_option maxRecDepth 100000 in
/-- THE LAW, from its entry -/
theorem whole_start {p : Program} {e : Env} {s : State} {m : MethodId} {below : List Frame} {meth : Method} {c : Code} (l : Launch) (hlf : l.stackTraces = false) {b L : Nat} {xs : Nat → Int32} (hL : L ≤ 4) (C0 : lw_At p s m meth c b L xs) : W p l e room_1 s m #[Value.ref b] below meth c s.heap [] 0 0 (lw_Z below #[Value.ref b] s) (entryFrame m ([Value.ref b] : List Value).toArray 7) := by
  obtain ⟨hx, hb, hr, hml, hown, hts0, hX, hbl, hlocks, hgv⟩ := id C0
  have hown : s.vm.findClass RL = some m.cls := hown
  have hA : ∀ q : Nat, s.heap.size ≤ q → (fun q : Nat => s.heap.size ≤ q) q := fun _ h => h
  have hbA : ¬ (fun q : Nat => s.heap.size ≤ q) b := Nat.not_le.mpr hbl
  have hG : kx_G s := ⟨s, _, hts0, hgv, State.WarmedH.refl s⟩
  have hZ : kx_Z (fun q : Nat => s.heap.size ≤ q) s s.heap := law_Z hts0 hgv
  have hts := kx_hts (a := #[Value.ref b]) hG
  obtain ⟨c0, iS0, hKn0⟩ := u_known (C := RX0) (T := TX0) (N := 12) (n := 12) hts0 kv_X0 (hts0 _ kq_53)
  obtain ⟨c1, iS1, hKn1⟩ := u_known (C := RX1) (T := TX1) (N := 3) (n := 3) hts0 kv_X1 (hts0 _ kq_20)
  obtain ⟨c2, iS2, hKn2⟩ := u_known (C := RX2) (T := TX2) (N := 3) (n := 3) hts0 kv_X2 (hts0 _ kq_82)
  obtain ⟨c3, iS3, hKn3⟩ := u_known (C := RX3) (T := TX3) (N := 3) (n := 3) hts0 kv_X3 (hts0 _ kq_35)
  obtain ⟨c4, iS4, hKn4⟩ := u_known (C := RX4) (T := TX4) (N := 5) (n := 5) hts0 kv_X4 (hts0 _ kq_74)
  obtain ⟨c5, iS5, hKn5⟩ := u_known (C := RX5) (T := TX5) (N := 16) (n := 16) hts0 kv_X5 (hts0 _ kq_394)
  obtain ⟨c6, iS6, hKn6⟩ := u_known (C := RX6) (T := TX6) (N := 44) (n := 44) hts0 kv_X6 (hts0 _ kq_395)
  obtain ⟨dC, dI, hKc⟩ : ∃ (dC : Nat → ClassId) (dI : Nat → Nat → Nat), ∀ (k : Nat) (q : vw_C), kxCl[k]? = some q → u_Kn s q.1 q.2.1 q.2.2 (dC k) (dI k) := by
    refine ⟨fun k => if k = 0 then c0 else if k = 1 then c1 else if k = 2 then c2 else if k = 3 then c3 else if k = 4 then c4 else if k = 5 then c5 else c6, fun k => if k = 0 then iS0 else if k = 1 then iS1 else if k = 2 then iS2 else if k = 3 then iS3 else if k = 4 then iS4 else if k = 5 then iS5 else iS6, ?_⟩
    intro k q hq
    match k, hq with
    | 0, hq => cases hq; exact hKn0
    | 1, hq => cases hq; exact hKn1
    | 2, hq => cases hq; exact hKn2
    | 3, hq => cases hq; exact hKn3
    | 4, hq => cases hq; exact hKn4
    | 5, hq => cases hq; exact hKn5
    | 6, hq => cases hq; exact hKn6
    | k + 7, hq => simp [kxCl] at hq
  have hS : va_S (fun q : Nat => s.heap.size ≤ q) s.heap s.heap [] := va_S.rf
  have hK : va_K (dC, dI) kxCl [] s := ⟨hKc, fun k q h => by simp at h⟩
  have hP : va_P (dC, dI) kxCl [] s.heap := fun k q h => by simp at h
  have hD : va_D (fun q : Nat => s.heap.size ≤ q) [] := ⟨fun i j p q h => by simp at h, fun k q h => by simp at h⟩
  have hl := lv_entry ([.ref b]) (n := 7) (Nat.le_of_ble_eq_true rfl)
  rw [lg_entry_eq]
  generalize (lg_sl ([.ref b]) ++ List.replicate (7 - (lg_sl ([.ref b])).length) Slot.unset).toArray = ls at hl ⊢
  have hl : lv_has ls 7 [(0, .ref b)] := hl
  refine va_new (ci := 5) (fs := [.null, .null, .int 0, .int 0, .int 0, .null, .null, .int 0, .null, .null, .int 0, .null, .null, .null, .null, .null]) (C := RX5) (T := TX5) (N := 16) hx hb hts kt_X5 tyX5 tyX5_ok hown (kx_word hG kq_396 rfl) (kx_word hG kq_394 rfl) (kx_word hG kq_92 rfl) hK hP hD hS hA rfl (fun j hj => by rcases (show j = 0 ∨ j = 1 ∨ j = 2 ∨ j = 3 ∨ j = 4 ∨ j = 5 ∨ j = 6 ∨ j = 7 ∨ j = 8 ∨ j = 9 ∨ j = 10 ∨ j = 11 ∨ j = 12 ∨ j = 13 ∨ j = 14 ∨ j = 15 by omega) with rfl | rfl | rfl | rfl | rfl | rfl | rfl | rfl | rfl | rfl | rfl | rfl | rfl | rfl | rfl | rfl <;> rfl) (Nat.le_of_ble_eq_true rfl) (Nat.le_of_ble_eq_true rfl) dL_law_0 (fun q_1 H hP hD hS => ?_)
  have hP : va_P (dC, dI) kxCl [(q_1, .inr (5, [.null, .null, .int 0, .int 0, .int 0, .null, .null, .int 0, .null, .null, .int 0, .null, .null, .null, .null, .null]))] H := hP
  have hD : va_D (fun q : Nat => s.heap.size ≤ q) [(q_1, .inr (5, [.null, .null, .int 0, .int 0, .int 0, .null, .null, .int 0, .null, .null, .int 0, .null, .null, .null, .null, .null]))] := hD
  refine W.widen (k := 1) (n := 16) (by omega) (by omega) ?_
  refine lv_dup hx hb dL_law_3 rfl ?_
  have hPc := hP.sub (ws' := [(q_1, .inr (5, [.null, .null, .int 0, .int 0, .int 0, .null, .null, .int 0, .null, .null, .int 0, .null, .null, .null, .null, .null]))]) [0] rfl
  have hDc := hD.sub (ws' := [(q_1, .inr (5, [.null, .null, .int 0, .int 0, .int 0, .null, .null, .int 0, .null, .null, .int 0, .null, .null, .null, .null, .null]))]) [0] (by decide) rfl
  have hKc := hK.sub (tys' := []) [] rfl
  have hFc := va_free (wc := [(q_1, .inr (5, [.null, .null, .int 0, .int 0, .int 0, .null, .null, .int 0, .null, .null, .int 0, .null, .null, .null, .null, .null]))]) hD hS hA [0] rfl
  refine va_callv (va_runI (As := []) (rest := [.ref q_1]) ⟨hx, hb, hml, hown, hts⟩ (c_IndexSort_init l hlf dC dI q_1 H.size ) (cwI 0 hts (kx_gI kq_397 rfl) rfl rfl rfl (kx_word hG kq_92 rfl) (kx_word hG kq_398 rfl) (kx_word hG kq_399 rfl) rfl (by decide +kernel) ⟨Nat.le_of_ble_eq_true rfl, Nat.le_of_ble_eq_true rfl⟩) ⟨kx_blind, kx_give (ws := []) (tys := []) hPc hDc hKc hG hZ hS hFc⟩ rfl rfl hl.1 rfl (lv_room (Nat.le_of_ble_eq_true rfl)) dL_law_4 ⟨Nat.le_of_ble_eq_true rfl, Nat.le_of_ble_eq_true rfl⟩) hS (fun q _ h => hFc q h) hFc (fun u t H1 locs ht hvm hw_3 hB hz1 hk1 hS => ?_)
  obtain ⟨xe_4, xn_5, xso_6, xro_7, xga_8, xlo_9, xse_10, xwa_11, xst_12, xou_13, xdr_14, xr1_15, xr2_16, xr3_17, xr4_18, cE_19, cI_20⟩ := u
  obtain ⟨hP1, hK1, hD1⟩ := hB
  rw [ht] at hP1
  have hK1 := va_K.moved hvm.symm hK1
  try dsimp only at hw_3
  obtain ⟨hP, hD⟩ := va_join (wr := []) (w1 := [(q_1, .inr (5, [.ref xe_4, .ref xn_5, .int 0, .int 1, .int 1, .ref xso_6, .ref xro_7, .int 0, .ref xga_8, .ref xlo_9, .int (-1), .ref xse_10, .ref xwa_11, .ref xst_12, .ref xou_13, .ref xdr_14])), (xe_4, .inl (cE_19, 80, .inr (.inr (.inr (.inr (fun _ => none)))))), (xso_6, .inr (1, [.int 80, .ref xr1_15, .int 0])), (xro_7, .inr (1, [.int 80, .ref xr2_16, .int 0])), (xwa_11, .inr (4, [.int (-1), .int 0, .int 0, .int 0, .int 0])), (xst_12, .inr (1, [.int 80, .ref xr3_17, .int 0])), (xr3_17, .inl (cI_20, 0, .inl (fun _ => 0))), (xou_13, .inr (2, [.ref xr4_18, .int 0, .int 0]))]) hP hD [0] [] rfl rfl (by decide) (by decide) hk1 hFc hP1 hD1
  have hK := (hK.sub (tys' := []) [] rfl).app hK1
  generalize H1 = H at hP hS ⊢
  have hP : va_P (dC, dI) kxCl [(q_1, .inr (5, [.ref xe_4, .ref xn_5, .int 0, .int 1, .int 1, .ref xso_6, .ref xro_7, .int 0, .ref xga_8, .ref xlo_9, .int (-1), .ref xse_10, .ref xwa_11, .ref xst_12, .ref xou_13, .ref xdr_14])), (xe_4, .inl (cE_19, 80, .inr (.inr (.inr (.inr (fun _ => none)))))), (xso_6, .inr (1, [.int 80, .ref xr1_15, .int 0])), (xro_7, .inr (1, [.int 80, .ref xr2_16, .int 0])), (xwa_11, .inr (4, [.int (-1), .int 0, .int 0, .int 0, .int 0])), (xst_12, .inr (1, [.int 80, .ref xr3_17, .int 0])), (xr3_17, .inl (cI_20, 0, .inl (fun _ => 0))), (xou_13, .inr (2, [.ref xr4_18, .int 0, .int 0]))] H := hP
  have hD : va_D (fun q : Nat => s.heap.size ≤ q) [(q_1, .inr (5, [.ref xe_4, .ref xn_5, .int 0, .int 1, .int 1, .ref xso_6, .ref xro_7, .int 0, .ref xga_8, .ref xlo_9, .int (-1), .ref xse_10, .ref xwa_11, .ref xst_12, .ref xou_13, .ref xdr_14])), (xe_4, .inl (cE_19, 80, .inr (.inr (.inr (.inr (fun _ => none)))))), (xso_6, .inr (1, [.int 80, .ref xr1_15, .int 0])), (xro_7, .inr (1, [.int 80, .ref xr2_16, .int 0])), (xwa_11, .inr (4, [.int (-1), .int 0, .int 0, .int 0, .int 0])), (xst_12, .inr (1, [.int 80, .ref xr3_17, .int 0])), (xr3_17, .inl (cI_20, 0, .inl (fun _ => 0))), (xou_13, .inr (2, [.ref xr4_18, .int 0, .int 0]))] := hD
  have hK : va_K (dC, dI) kxCl [(cE_19, .object RX0), (cI_20, .int)] s := hK
  refine W.widen (k := 45) (n := 179) (by omega) (by omega) ?_
  refine lv_astore_n (lv' := [(1, .ref q_1), (0, .ref b)]) hx hb dL_law_7 rfl hl (by decide) rfl (fun ls hl => ?_)
  refine va_new (ci := 6) (fs := [.int 0, .int 0, .null, .null, .null, .null, .null, .null, .null, .null, .null, .null, .null, .null, .int 0, .int 0, .int 0, .null, .null, .int 0, .null, .null, .null, .null, .null, .null, .null, .null, .null, .int 0, .int 0, .int 0, .int 0, .int 0, .null, .int 0, .null, .int 0, .null, .null, .int 0, .null, .int 0, .int 0]) (C := RX6) (T := TX6) (N := 44) hx hb hts kt_X6 tyX6 tyX6_ok hown (kx_word hG kq_400 rfl) (kx_word hG kq_395 rfl) (kx_word hG kq_205 rfl) hK hP hD hS hA rfl (fun j hj => by rcases (show j = 0 ∨ j = 1 ∨ j = 2 ∨ j = 3 ∨ j = 4 ∨ j = 5 ∨ j = 6 ∨ j = 7 ∨ j = 8 ∨ j = 9 ∨ j = 10 ∨ j = 11 ∨ j = 12 ∨ j = 13 ∨ j = 14 ∨ j = 15 ∨ j = 16 ∨ j = 17 ∨ j = 18 ∨ j = 19 ∨ j = 20 ∨ j = 21 ∨ j = 22 ∨ j = 23 ∨ j = 24 ∨ j = 25 ∨ j = 26 ∨ j = 27 ∨ j = 28 ∨ j = 29 ∨ j = 30 ∨ j = 31 ∨ j = 32 ∨ j = 33 ∨ j = 34 ∨ j = 35 ∨ j = 36 ∨ j = 37 ∨ j = 38 ∨ j = 39 ∨ j = 40 ∨ j = 41 ∨ j = 42 ∨ j = 43 by omega) with rfl | rfl | rfl | rfl | rfl | rfl | rfl | rfl | rfl | rfl | rfl | rfl | rfl | rfl | rfl | rfl | rfl | rfl | rfl | rfl | rfl | rfl | rfl | rfl | rfl | rfl | rfl | rfl | rfl | rfl | rfl | rfl | rfl | rfl | rfl | rfl | rfl | rfl | rfl | rfl | rfl | rfl | rfl | rfl <;> rfl) (Nat.le_of_ble_eq_true rfl) (Nat.le_of_ble_eq_true rfl) dL_law_8 (fun q_21 H hP hD hS => ?_)
  have hP : va_P (dC, dI) kxCl [(q_1, .inr (5, [.ref xe_4, .ref xn_5, .int 0, .int 1, .int 1, .ref xso_6, .ref xro_7, .int 0, .ref xga_8, .ref xlo_9, .int (-1), .ref xse_10, .ref xwa_11, .ref xst_12, .ref xou_13, .ref xdr_14])), (xe_4, .inl (cE_19, 80, .inr (.inr (.inr (.inr (fun _ => none)))))), (xso_6, .inr (1, [.int 80, .ref xr1_15, .int 0])), (xro_7, .inr (1, [.int 80, .ref xr2_16, .int 0])), (xwa_11, .inr (4, [.int (-1), .int 0, .int 0, .int 0, .int 0])), (xst_12, .inr (1, [.int 80, .ref xr3_17, .int 0])), (xr3_17, .inl (cI_20, 0, .inl (fun _ => 0))), (xou_13, .inr (2, [.ref xr4_18, .int 0, .int 0])), (q_21, .inr (6, [.int 0, .int 0, .null, .null, .null, .null, .null, .null, .null, .null, .null, .null, .null, .null, .int 0, .int 0, .int 0, .null, .null, .int 0, .null, .null, .null, .null, .null, .null, .null, .null, .null, .int 0, .int 0, .int 0, .int 0, .int 0, .null, .int 0, .null, .int 0, .null, .null, .int 0, .null, .int 0, .int 0]))] H := hP
  have hD : va_D (fun q : Nat => s.heap.size ≤ q) [(q_1, .inr (5, [.ref xe_4, .ref xn_5, .int 0, .int 1, .int 1, .ref xso_6, .ref xro_7, .int 0, .ref xga_8, .ref xlo_9, .int (-1), .ref xse_10, .ref xwa_11, .ref xst_12, .ref xou_13, .ref xdr_14])), (xe_4, .inl (cE_19, 80, .inr (.inr (.inr (.inr (fun _ => none)))))), (xso_6, .inr (1, [.int 80, .ref xr1_15, .int 0])), (xro_7, .inr (1, [.int 80, .ref xr2_16, .int 0])), (xwa_11, .inr (4, [.int (-1), .int 0, .int 0, .int 0, .int 0])), (xst_12, .inr (1, [.int 80, .ref xr3_17, .int 0])), (xr3_17, .inl (cI_20, 0, .inl (fun _ => 0))), (xou_13, .inr (2, [.ref xr4_18, .int 0, .int 0])), (q_21, .inr (6, [.int 0, .int 0, .null, .null, .null, .null, .null, .null, .null, .null, .null, .null, .null, .null, .int 0, .int 0, .int 0, .null, .null, .int 0, .null, .null, .null, .null, .null, .null, .null, .null, .null, .int 0, .int 0, .int 0, .int 0, .int 0, .null, .int 0, .null, .int 0, .null, .null, .int 0, .null, .int 0, .int 0]))] := hD
  refine W.widen (k := 46) (n := 223) (by omega) (by omega) ?_
  refine lv_dup hx hb dL_law_11 rfl ?_
  have hPc := hP.sub (ws' := [(q_21, .inr (6, [.int 0, .int 0, .null, .null, .null, .null, .null, .null, .null, .null, .null, .null, .null, .null, .int 0, .int 0, .int 0, .null, .null, .int 0, .null, .null, .null, .null, .null, .null, .null, .null, .null, .int 0, .int 0, .int 0, .int 0, .int 0, .null, .int 0, .null, .int 0, .null, .null, .int 0, .null, .int 0, .int 0]))]) [8] rfl
  have hDc := hD.sub (ws' := [(q_21, .inr (6, [.int 0, .int 0, .null, .null, .null, .null, .null, .null, .null, .null, .null, .null, .null, .null, .int 0, .int 0, .int 0, .null, .null, .int 0, .null, .null, .null, .null, .null, .null, .null, .null, .null, .int 0, .int 0, .int 0, .int 0, .int 0, .null, .int 0, .null, .int 0, .null, .null, .int 0, .null, .int 0, .int 0]))]) [8] (by decide) rfl
  have hKc := hK.sub (tys' := []) [] rfl
  have hFc := va_free (wc := [(q_21, .inr (6, [.int 0, .int 0, .null, .null, .null, .null, .null, .null, .null, .null, .null, .null, .null, .null, .int 0, .int 0, .int 0, .null, .null, .int 0, .null, .null, .null, .null, .null, .null, .null, .null, .null, .int 0, .int 0, .int 0, .int 0, .int 0, .null, .int 0, .null, .int 0, .null, .null, .int 0, .null, .int 0, .int 0]))]) hD hS hA [8] rfl
  refine va_callv (va_runI (As := []) (rest := [.ref q_21]) ⟨hx, hb, hml, hown, hts⟩ (c_m_init l hlf dC dI q_21 H.size ) (cwI 0 hts (kx_gI kq_401 rfl) rfl rfl rfl (kx_word hG kq_205 rfl) (kx_word hG kq_402 rfl) (kx_word hG kq_403 rfl) rfl (by decide +kernel) ⟨Nat.le_of_ble_eq_true rfl, Nat.le_of_ble_eq_true rfl⟩) ⟨kx_blind, kx_give (ws := []) (tys := []) hPc hDc hKc hG hZ hS hFc⟩ rfl rfl hl.1 rfl (lv_room (Nat.le_of_ble_eq_true rfl)) dL_law_12 ⟨Nat.le_of_ble_eq_true rfl, Nat.le_of_ble_eq_true rfl⟩) hS (fun q _ h => hFc q h) hFc (fun u t H1 locs ht hvm hw_23 hB hz1 hk1 hS => ?_)
  obtain ⟨m2_24, m3_25, m4_26, m5_27, m6_28, m7_29, m8_30, m9_31, m10_32, m11_33, m12_34, m13_35, m17_36, m18_37, m20_38, m21_39, m22_40, m23_41, m24_42, m25_43, m26_44, m27_45, m28_46, m34_47, m36_48, m38_49, m39_50, m41_51, cV_52, cO_53, cS_54, cB_55⟩ := u
  obtain ⟨hP1, hK1, hD1⟩ := hB
  rw [ht] at hP1
  have hK1 := va_K.moved hvm.symm hK1
  try dsimp only at hw_23
  obtain ⟨hP, hD⟩ := va_join (wr := [(q_1, .inr (5, [.ref xe_4, .ref xn_5, .int 0, .int 1, .int 1, .ref xso_6, .ref xro_7, .int 0, .ref xga_8, .ref xlo_9, .int (-1), .ref xse_10, .ref xwa_11, .ref xst_12, .ref xou_13, .ref xdr_14])), (xe_4, .inl (cE_19, 80, .inr (.inr (.inr (.inr (fun _ => none)))))), (xso_6, .inr (1, [.int 80, .ref xr1_15, .int 0])), (xro_7, .inr (1, [.int 80, .ref xr2_16, .int 0])), (xwa_11, .inr (4, [.int (-1), .int 0, .int 0, .int 0, .int 0])), (xst_12, .inr (1, [.int 80, .ref xr3_17, .int 0])), (xr3_17, .inl (cI_20, 0, .inl (fun _ => 0))), (xou_13, .inr (2, [.ref xr4_18, .int 0, .int 0]))]) (w1 := [(q_21, .inr (6, [.int 0, .int 0, .ref m2_24, .ref m3_25, .ref m4_26, .ref m5_27, .ref m6_28, .ref m7_29, .ref m8_30, .ref m9_31, .ref m10_32, .ref m11_33, .ref m12_34, .ref m13_35, .int 1, .int 1, .int 0, .ref m17_36, .ref m18_37, .int 0, .ref m20_38, .ref m21_39, .ref m22_40, .ref m23_41, .ref m24_42, .ref m25_43, .ref m26_44, .ref m27_45, .ref m28_46, .int 0, .int 0, .int 0, .int 0, .int 0, .ref m34_47, .int 0, .ref m36_48, .int 0, .ref m38_49, .ref m39_50, .int 0, .ref m41_51, .int 0, .int 0])), (m2_24, .inl (cV_52, 80, .inl (fun _ => 0))), (m3_25, .inl (cO_53, 80, .inl (fun _ => 0))), (m36_48, .inl (cS_54, 80, .inl (fun _ => 0))), (m38_49, .inl (cB_55, 4, .inl (fun _ => 0)))]) hP hD [8] [0, 1, 2, 3, 4, 5, 6, 7] rfl rfl (by decide) (by decide) hk1 hFc hP1 hD1
  have hK := (hK.sub (tys' := [(cE_19, .object RX0), (cI_20, .int)]) [0, 1] rfl).app hK1
  generalize H1 = H at hP hS ⊢
  have hP : va_P (dC, dI) kxCl [(q_1, .inr (5, [.ref xe_4, .ref xn_5, .int 0, .int 1, .int 1, .ref xso_6, .ref xro_7, .int 0, .ref xga_8, .ref xlo_9, .int (-1), .ref xse_10, .ref xwa_11, .ref xst_12, .ref xou_13, .ref xdr_14])), (xe_4, .inl (cE_19, 80, .inr (.inr (.inr (.inr (fun _ => none)))))), (xso_6, .inr (1, [.int 80, .ref xr1_15, .int 0])), (xro_7, .inr (1, [.int 80, .ref xr2_16, .int 0])), (xwa_11, .inr (4, [.int (-1), .int 0, .int 0, .int 0, .int 0])), (xst_12, .inr (1, [.int 80, .ref xr3_17, .int 0])), (xr3_17, .inl (cI_20, 0, .inl (fun _ => 0))), (xou_13, .inr (2, [.ref xr4_18, .int 0, .int 0])), (q_21, .inr (6, [.int 0, .int 0, .ref m2_24, .ref m3_25, .ref m4_26, .ref m5_27, .ref m6_28, .ref m7_29, .ref m8_30, .ref m9_31, .ref m10_32, .ref m11_33, .ref m12_34, .ref m13_35, .int 1, .int 1, .int 0, .ref m17_36, .ref m18_37, .int 0, .ref m20_38, .ref m21_39, .ref m22_40, .ref m23_41, .ref m24_42, .ref m25_43, .ref m26_44, .ref m27_45, .ref m28_46, .int 0, .int 0, .int 0, .int 0, .int 0, .ref m34_47, .int 0, .ref m36_48, .int 0, .ref m38_49, .ref m39_50, .int 0, .ref m41_51, .int 0, .int 0])), (m2_24, .inl (cV_52, 80, .inl (fun _ => 0))), (m3_25, .inl (cO_53, 80, .inl (fun _ => 0))), (m36_48, .inl (cS_54, 80, .inl (fun _ => 0))), (m38_49, .inl (cB_55, 4, .inl (fun _ => 0)))] H := hP
  have hD : va_D (fun q : Nat => s.heap.size ≤ q) [(q_1, .inr (5, [.ref xe_4, .ref xn_5, .int 0, .int 1, .int 1, .ref xso_6, .ref xro_7, .int 0, .ref xga_8, .ref xlo_9, .int (-1), .ref xse_10, .ref xwa_11, .ref xst_12, .ref xou_13, .ref xdr_14])), (xe_4, .inl (cE_19, 80, .inr (.inr (.inr (.inr (fun _ => none)))))), (xso_6, .inr (1, [.int 80, .ref xr1_15, .int 0])), (xro_7, .inr (1, [.int 80, .ref xr2_16, .int 0])), (xwa_11, .inr (4, [.int (-1), .int 0, .int 0, .int 0, .int 0])), (xst_12, .inr (1, [.int 80, .ref xr3_17, .int 0])), (xr3_17, .inl (cI_20, 0, .inl (fun _ => 0))), (xou_13, .inr (2, [.ref xr4_18, .int 0, .int 0])), (q_21, .inr (6, [.int 0, .int 0, .ref m2_24, .ref m3_25, .ref m4_26, .ref m5_27, .ref m6_28, .ref m7_29, .ref m8_30, .ref m9_31, .ref m10_32, .ref m11_33, .ref m12_34, .ref m13_35, .int 1, .int 1, .int 0, .ref m17_36, .ref m18_37, .int 0, .ref m20_38, .ref m21_39, .ref m22_40, .ref m23_41, .ref m24_42, .ref m25_43, .ref m26_44, .ref m27_45, .ref m28_46, .int 0, .int 0, .int 0, .int 0, .int 0, .ref m34_47, .int 0, .ref m36_48, .int 0, .ref m38_49, .ref m39_50, .int 0, .ref m41_51, .int 0, .int 0])), (m2_24, .inl (cV_52, 80, .inl (fun _ => 0))), (m3_25, .inl (cO_53, 80, .inl (fun _ => 0))), (m36_48, .inl (cS_54, 80, .inl (fun _ => 0))), (m38_49, .inl (cB_55, 4, .inl (fun _ => 0)))] := hD
  have hK : va_K (dC, dI) kxCl [(cE_19, .object RX0), (cI_20, .int), (cV_52, .int), (cO_53, .int), (cS_54, .int), (cB_55, .int)] s := hK
  refine W.widen (k := 74) (n := 28237) (by omega) (by omega) ?_
  refine lv_astore_n (lv' := [(2, .ref q_21), (1, .ref q_1), (0, .ref b)]) hx hb dL_law_15 rfl hl (by decide) rfl (fun ls hl => ?_)
  refine lv_iconst (v := 1) hx hb dL_law_16 (by decide) ?_
  refine va_newa (atype := .long) (ty := .long) (N' := 1) (a0 := (1, .inr (.inl (fun _ => 0)))) hx hb (kx_word hG kq_404 rfl) rfl hK hP hD hS hA (fun _ => rfl) (by decide) (by decide) (by decide) (Nat.le_of_ble_eq_true rfl) (Nat.le_of_ble_eq_true rfl) dL_law_17 (fun q_56 cA_57 H hK hP hD hS => ?_)
  have hP : va_P (dC, dI) kxCl [(q_1, .inr (5, [.ref xe_4, .ref xn_5, .int 0, .int 1, .int 1, .ref xso_6, .ref xro_7, .int 0, .ref xga_8, .ref xlo_9, .int (-1), .ref xse_10, .ref xwa_11, .ref xst_12, .ref xou_13, .ref xdr_14])), (xe_4, .inl (cE_19, 80, .inr (.inr (.inr (.inr (fun _ => none)))))), (xso_6, .inr (1, [.int 80, .ref xr1_15, .int 0])), (xro_7, .inr (1, [.int 80, .ref xr2_16, .int 0])), (xwa_11, .inr (4, [.int (-1), .int 0, .int 0, .int 0, .int 0])), (xst_12, .inr (1, [.int 80, .ref xr3_17, .int 0])), (xr3_17, .inl (cI_20, 0, .inl (fun _ => 0))), (xou_13, .inr (2, [.ref xr4_18, .int 0, .int 0])), (q_21, .inr (6, [.int 0, .int 0, .ref m2_24, .ref m3_25, .ref m4_26, .ref m5_27, .ref m6_28, .ref m7_29, .ref m8_30, .ref m9_31, .ref m10_32, .ref m11_33, .ref m12_34, .ref m13_35, .int 1, .int 1, .int 0, .ref m17_36, .ref m18_37, .int 0, .ref m20_38, .ref m21_39, .ref m22_40, .ref m23_41, .ref m24_42, .ref m25_43, .ref m26_44, .ref m27_45, .ref m28_46, .int 0, .int 0, .int 0, .int 0, .int 0, .ref m34_47, .int 0, .ref m36_48, .int 0, .ref m38_49, .ref m39_50, .int 0, .ref m41_51, .int 0, .int 0])), (m2_24, .inl (cV_52, 80, .inl (fun _ => 0))), (m3_25, .inl (cO_53, 80, .inl (fun _ => 0))), (m36_48, .inl (cS_54, 80, .inl (fun _ => 0))), (m38_49, .inl (cB_55, 4, .inl (fun _ => 0))), (q_56, .inl (cA_57, 1, .inr (.inl (fun _ => 0))))] H := hP
  have hD : va_D (fun q : Nat => s.heap.size ≤ q) [(q_1, .inr (5, [.ref xe_4, .ref xn_5, .int 0, .int 1, .int 1, .ref xso_6, .ref xro_7, .int 0, .ref xga_8, .ref xlo_9, .int (-1), .ref xse_10, .ref xwa_11, .ref xst_12, .ref xou_13, .ref xdr_14])), (xe_4, .inl (cE_19, 80, .inr (.inr (.inr (.inr (fun _ => none)))))), (xso_6, .inr (1, [.int 80, .ref xr1_15, .int 0])), (xro_7, .inr (1, [.int 80, .ref xr2_16, .int 0])), (xwa_11, .inr (4, [.int (-1), .int 0, .int 0, .int 0, .int 0])), (xst_12, .inr (1, [.int 80, .ref xr3_17, .int 0])), (xr3_17, .inl (cI_20, 0, .inl (fun _ => 0))), (xou_13, .inr (2, [.ref xr4_18, .int 0, .int 0])), (q_21, .inr (6, [.int 0, .int 0, .ref m2_24, .ref m3_25, .ref m4_26, .ref m5_27, .ref m6_28, .ref m7_29, .ref m8_30, .ref m9_31, .ref m10_32, .ref m11_33, .ref m12_34, .ref m13_35, .int 1, .int 1, .int 0, .ref m17_36, .ref m18_37, .int 0, .ref m20_38, .ref m21_39, .ref m22_40, .ref m23_41, .ref m24_42, .ref m25_43, .ref m26_44, .ref m27_45, .ref m28_46, .int 0, .int 0, .int 0, .int 0, .int 0, .ref m34_47, .int 0, .ref m36_48, .int 0, .ref m38_49, .ref m39_50, .int 0, .ref m41_51, .int 0, .int 0])), (m2_24, .inl (cV_52, 80, .inl (fun _ => 0))), (m3_25, .inl (cO_53, 80, .inl (fun _ => 0))), (m36_48, .inl (cS_54, 80, .inl (fun _ => 0))), (m38_49, .inl (cB_55, 4, .inl (fun _ => 0))), (q_56, .inl (cA_57, 1, .inr (.inl (fun _ => 0))))] := hD
  have hK : va_K (dC, dI) kxCl [(cE_19, .object RX0), (cI_20, .int), (cV_52, .int), (cO_53, .int), (cS_54, .int), (cB_55, .int), (cA_57, .long)] s := hK
  refine W.widen (k := 75) (n := 28238) (by omega) (by omega) ?_
  refine lv_astore_n (lv' := [(3, .ref q_56), (2, .ref q_21), (1, .ref q_1), (0, .ref b)]) hx hb dL_law_19 rfl hl (by decide) rfl (fun ls hl => ?_)
  refine lv_iconst (v := 0) hx hb dL_law_20 (by decide) ?_
  refine lv_istore (lv' := [(4, .int 0), (3, .ref q_56), (2, .ref q_21), (1, .ref q_1), (0, .ref b)]) hx hb dL_law_21 hl (by decide) rfl (fun ls hl => ?_)
  refine lv_iload hx hb dL_law_23 (lv_at hl 0 rfl) ?_
  refine lv_aload_n hx hb dL_law_25 rfl (lv_at hl 4 rfl) ?_
  refine va_slen hx hb hX hbl hbA hS dL_law_26 ?_
  refine lv_iconst (v := 4) hx hb dL_law_27 (by decide) ?_
  refine lv_isub hx hb dL_law_28 ?_
  refine lv_icmp_gt (tgt := 1031) hx hb dL_law_29 (by decide) (fun c_9 => ?_) (fun c_9 => ?_)
  · refine lv_iconst (v := 1) hx hb dL_law_1031 (by decide) ?_
    refine va_forget (fun q hq => hS.2.2 q hq) ?_
    refine W.widen (k := 600006) (n := 7302080) (by decide) (by decide) ?_
    exact lw_ret hx hb hr hlocks dL_law_1032
  · have hL4 : L = 4 := by
      rcases (show L = 0 ∨ L = 1 ∨ L = 2 ∨ L = 3 ∨ L = 4 by omega) with h | h | h | h | h <;> first | exact h | (subst h; exact absurd (by decide) c_9)
    subst hL4
    refine lv_aload_n hx hb dL_law_32 rfl (lv_at hl 4 rfl) ?_
    refine lv_iload hx hb dL_law_33 (lv_at hl 0 rfl) ?_
    refine va_sld hx hb hX hbl hbA hS (show vp_in 0 4 by unfold vp_in; decide) dL_law_35 ?_
    refine lv_bipush (v := 15) hx hb dL_law_36 (by decide) ?_
    refine lv_iand hx hb dL_law_38 ?_
    obtain ⟨j, hj, ej⟩ := pk_andE (xs (0 : Int32).toNatClampNeg) (m := 15) 4 (by decide)
    rw [ej]
    rcases (show j = 0 ∨ j = 1 ∨ j = 2 ∨ j = 3 ∨ j = 4 ∨ j = 5 ∨ j = 6 ∨ j = 7 ∨ j = 8 ∨ j = 9 ∨ j = 10 ∨ j = 11 ∨ j = 12 ∨ j = 13 ∨ j = 14 ∨ j = 15 by omega) with rfl | rfl | rfl | rfl | rfl | rfl | rfl | rfl | rfl | rfl | rfl | rfl | rfl | rfl | rfl | rfl
    · refine lv_tableIn (off := 69) (tgt := 108) hx hb dL_law_39 (by decide) (by decide) (by decide) (by decide) ?_
      exact law_entry hlf C0 _ _ (hK.sub [0, 1, 2, 3, 4, 5, 6] rfl) (hP.sub [0, 1, 2, 3, 4, 5, 6, 7, 8, 9, 10, 11, 12, 13] rfl) (hD.sub [0, 1, 2, 3, 4, 5, 6, 7, 8, 9, 10, 11, 12, 13] (by decide) rfl) hS ls (lv_sub hl [0, 1, 2, 3, 4] rfl)
    · refine lv_tableIn (off := 137) (tgt := 176) hx hb dL_law_39 (by decide) (by decide) (by decide) (by decide) ?_
      exact law_sign hlf C0 _ _ (hK.sub [0, 1, 2, 3, 4, 5, 6] rfl) (hP.sub [0, 1, 2, 3, 4, 5, 6, 7, 8, 9, 10, 11, 12, 13] rfl) (hD.sub [0, 1, 2, 3, 4, 5, 6, 7, 8, 9, 10, 11, 12, 13] (by decide) rfl) hS ls (lv_sub hl [0, 1, 2, 3, 4] rfl)
    · refine lv_tableIn (off := 205) (tgt := 244) hx hb dL_law_39 (by decide) (by decide) (by decide) (by decide) ?_
      exact law_page hlf C0 _ _ (hK.sub [0, 1, 2, 3, 4, 5, 6] rfl) (hP.sub [0, 1, 2, 3, 4, 5, 6, 7, 8, 9, 10, 11, 12, 13] rfl) (hD.sub [0, 1, 2, 3, 4, 5, 6, 7, 8, 9, 10, 11, 12, 13] (by decide) rfl) hS ls (lv_sub hl [0, 1, 2, 3, 4] rfl)
    · refine lv_tableIn (off := 285) (tgt := 324) hx hb dL_law_39 (by decide) (by decide) (by decide) (by decide) ?_
      exact law_range hlf C0 _ _ (hK.sub [0, 1, 2, 3, 4, 5, 6] rfl) (hP.sub [0, 1, 2, 3, 4, 5, 6, 7, 8, 9, 10, 11, 12, 13] rfl) (hD.sub [0, 1, 2, 3, 4, 5, 6, 7, 8, 9, 10, 11, 12, 13] (by decide) rfl) hS ls (lv_sub hl [0, 1, 2, 3, 4] rfl)
    · refine lv_tableIn (off := 381) (tgt := 420) hx hb dL_law_39 (by decide) (by decide) (by decide) (by decide) ?_
      exact law_see hlf C0 _ _ (hK.sub [0, 1, 2, 3, 4, 5, 6] rfl) (hP.sub [0, 1, 2, 3, 4, 5, 6, 7, 8, 9, 10, 11, 12, 13] rfl) (hD.sub [0, 1, 2, 3, 4, 5, 6, 7, 8, 9, 10, 11, 12, 13] (by decide) rfl) hS ls (lv_sub hl [0, 1, 2, 3, 4] rfl)
    · refine lv_tableIn (off := 449) (tgt := 488) hx hb dL_law_39 (by decide) (by decide) (by decide) (by decide) ?_
      exact law_rule hlf C0 _ _ (hK.sub [0, 1, 2, 3, 4, 5, 6] rfl) (hP.sub [0, 1, 2, 3, 4, 5, 6, 7, 8, 9, 10, 11, 12, 13] rfl) (hD.sub [0, 1, 2, 3, 4, 5, 6, 7, 8, 9, 10, 11, 12, 13] (by decide) rfl) hS ls (lv_sub hl [0, 1, 2, 3, 4] rfl)
    · refine lv_tableIn (off := 533) (tgt := 572) hx hb dL_law_39 (by decide) (by decide) (by decide) (by decide) ?_
      exact law_run hlf C0 _ _ (hK.sub [0, 1, 2, 3, 4, 5, 6] rfl) (hP.sub [0, 1, 2, 3, 4, 5, 6, 7, 8, 9, 10, 11, 12, 13] rfl) (hD.sub [0, 1, 2, 3, 4, 5, 6, 7, 8, 9, 10, 11, 12, 13] (by decide) rfl) hS ls (lv_sub hl [0, 1, 2, 3, 4] rfl)
    · refine lv_tableIn (off := 546) (tgt := 585) hx hb dL_law_39 (by decide) (by decide) (by decide) (by decide) ?_
      exact law_row hlf C0 _ _ (hK.sub [0, 1, 2, 3, 4, 5, 6] rfl) (hP.sub [0, 1, 2, 3, 4, 5, 6, 7, 8, 9, 10, 11, 12, 13] rfl) (hD.sub [0, 1, 2, 3, 4, 5, 6, 7, 8, 9, 10, 11, 12, 13] (by decide) rfl) hS ls (lv_sub hl [0, 1, 2, 3, 4] rfl)
    · refine lv_tableIn (off := 614) (tgt := 653) hx hb dL_law_39 (by decide) (by decide) (by decide) (by decide) ?_
      exact law_locator hlf C0 _ _ (hK.sub [0, 1, 2, 3, 4, 5, 6] rfl) (hP.sub [0, 1, 2, 3, 4, 5, 6, 7, 8, 9, 10, 11, 12, 13] rfl) (hD.sub [0, 1, 2, 3, 4, 5, 6, 7, 8, 9, 10, 11, 12, 13] (by decide) rfl) hS ls (lv_sub hl [0, 1, 2, 3, 4] rfl)
    · refine lv_tableIn (off := 694) (tgt := 733) hx hb dL_law_39 (by decide) (by decide) (by decide) (by decide) ?_
      exact law_compare hlf C0 _ _ (hK.sub [0, 1, 2, 3, 4, 5, 6] rfl) (hP.sub [0, 1, 2, 3, 4, 5, 6, 7, 8, 9, 10, 11, 12, 13] rfl) (hD.sub [0, 1, 2, 3, 4, 5, 6, 7, 8, 9, 10, 11, 12, 13] (by decide) rfl) hS ls (lv_sub hl [0, 1, 2, 3, 4] rfl)
    · refine lv_tableIn (off := 762) (tgt := 801) hx hb dL_law_39 (by decide) (by decide) (by decide) (by decide) ?_
      exact law_told hlf C0 _ _ (hK.sub [0, 1, 2, 3, 4, 5, 6] rfl) (hP.sub [0, 1, 2, 3, 4, 5, 6, 7, 8, 9, 10, 11, 12, 13] rfl) (hD.sub [0, 1, 2, 3, 4, 5, 6, 7, 8, 9, 10, 11, 12, 13] (by decide) rfl) hS ls (lv_sub hl [0, 1, 2, 3, 4] rfl)
    · refine lv_tableIn (off := 830) (tgt := 869) hx hb dL_law_39 (by decide) (by decide) (by decide) (by decide) ?_
      exact law_style hlf C0 _ _ (hK.sub [0, 1, 2, 3, 4, 5, 6] rfl) (hP.sub [0, 1, 2, 3, 4, 5, 6, 7, 8, 9, 10, 11, 12, 13] rfl) (hD.sub [0, 1, 2, 3, 4, 5, 6, 7, 8, 9, 10, 11, 12, 13] (by decide) rfl) hS ls (lv_sub hl [0, 1, 2, 3, 4] rfl)
    · refine lv_tableIn (off := 886) (tgt := 925) hx hb dL_law_39 (by decide) (by decide) (by decide) (by decide) ?_
      exact law_print hlf C0 _ _ (hK.sub [0, 1, 2, 3, 4, 5, 6] rfl) (hP.sub [0, 1, 2, 3, 4, 5, 6, 7, 8, 9, 10, 11, 12, 13] rfl) (hD.sub [0, 1, 2, 3, 4, 5, 6, 7, 8, 9, 10, 11, 12, 13] (by decide) rfl) hS ls (lv_sub hl [0, 1, 2, 3, 4] rfl)
    · refine lv_tableIn (off := 930) (tgt := 969) hx hb dL_law_39 (by decide) (by decide) (by decide) (by decide) ?_
      exact law_at hlf C0 _ _ (hK.sub [0, 1, 2, 3, 4, 5, 6] rfl) (hP.sub [0, 1, 2, 3, 4, 5, 6, 7, 8, 9, 10, 11, 12, 13] rfl) (hD.sub [0, 1, 2, 3, 4, 5, 6, 7, 8, 9, 10, 11, 12, 13] (by decide) rfl) hS ls (lv_sub hl [0, 1, 2, 3, 4] rfl)
    · refine lv_tableOut (tgt := 1025) hx hb dL_law_39 (Or.inr (by decide)) (by decide) ?_
      exact law_end C0 (by decide) (by decide) hS ls (lv_sub hl [0, 4] rfl)
    · refine lv_tableOut (tgt := 1025) hx hb dL_law_39 (Or.inr (by decide)) (by decide) ?_
      exact law_end C0 (by decide) (by decide) hS ls (lv_sub hl [0, 4] rfl)
set_option maxHeartbeats 4000000 in
theorem lw_walk (l : Launch) (hlf : l.stackTraces = false) (b : Addr) (xs : List Int32) : MetFree l x (headSpec (Jvm.Cond.code x code maxLocals ret :: tables_1) room_1) (lw_P b xs) (fun _ _ _ _ _ => True) lw_Q := by
  refine MetFree.of_bodyS (code := code) (maxLocals := maxLocals) (ret := ret) (by decide) ?_ ?_
  · intro args s m h hn
    obtain ⟨meth, c, h1, h2, h3, h4, h5, h6, -, -⟩ := Cond.code_spec hn (atoms_spec (ws := Jvm.Cond.code x code maxLocals ret :: tables_1) h _ List.mem_cons_self)
    exact ⟨meth, c, h1, h2, h3, h4, h5, h6⟩
  · intro p e s m args below meth c s₁ B hml0 hP _
    obtain ⟨rfl, hx, hbd, hgv⟩ := hP
    obtain ⟨scr, harrAt, hlist, hof, hsmall⟩ := hx
    obtain ⟨hcb, hkn, -, -⟩ := State.arrayAt?_spec harrAt
    have hown : s.vm.findClass R_law = some m.cls := findClass_of_methodNamed B.named
    have hts0 : ∀ c ∈ (Jvm.Cond.code x code maxLocals ret :: tables_1), c.before #[Value.ref b] s = true := atoms_spec (ws := Jvm.Cond.code x code maxLocals ret :: tables_1) B.pre
    have hts : ∀ w ∈ lw_tbl, w.before #[Value.ref b] s = true := k2_hts_sels lw_privs (fun w hw => hts0 w (List.mem_cons_of_mem _ hw)) lw_privs_ok
    have hml : c.maxLocals = 7 := B.maxLocals_eq (hts0 _ List.mem_cons_self)
    have X₀ : Stand p l e room_1 s m #[Value.ref b] below meth c s₁ [] 0 0 := Stand.of_body B
    have hh0 : s₁.heap = s.heap := by rw [B.state]; rfl
    have hsz : scr.slots.size = xs.length := by rw [← Array.length_toList, hlist, List.length_map]
    have hval : ∀ j : Nat, j < xs.length → scr.slots[j]? = some (.int (xs.getD j 0)) := fun j hj => by
      rw [← Array.getElem?_toList, hlist]
      simp [hj]
    have hbl : b < s.heap.size := (Array.getElem?_eq_some_iff.mp hcb).1
    have hX : va_X b xs.length (fun j => xs.getD j 0) s s.heap := ⟨scr, hcb, hof, hkn, hsz, hval⟩
    have K : W p l e room_1 s m #[Value.ref b] below meth c s₁.heap [] 0 0 (lw_Z below #[Value.ref b] s) (entryFrame m ([Value.ref b] : List Value).toArray 7) := by
      rw [hh0]
      exact whole_start l hlf hbd ⟨B.exec, B.bytes, B.returns, hml, hown, hts, hX, hbl, B.notSynchronized, hgv⟩
    obtain ⟨t, a1, o, b1, b2, b3⟩ := K s₁ rfl X₀
    exact ⟨t, o, a1, b1, b2, b3⟩
theorem lw_pre_spec {args : Array Value} {s : State} (h : (Jvm.Cond.and given_1 narrow_1).before args s = true) (hr : rest_1_c.before args s = true) : ∃ (b : Addr) (xs : List Int32), lw_P b xs args s := by
  have hs := flat_of_before _ h
  have hq := flat_of_before _ hr
  have hc : (Cond.count 1).before args s = true := hs _ (by decide +kernel)
  have harr : (Cond.arrayOf (.arg 0) .int).before args s = true := hs _ (by decide +kernel)
  have hle : (Cond.le (.length (.arg 0)) (.int 4)).before args s = true := hs _ (by decide +kernel)
  have hlen : (Cond.isInt (.length (.arg 0))).before args s = true := hq _ (by decide +kernel)
  have hall : (Cond.all (.arg 0) (.isInt (.elem (.arg 0) (.index 0)))).before args s = true := hq _ (by decide +kernel)
  obtain ⟨b, xs, hb, hx⟩ := State.ints_of_pre rfl harr hlen hall
  have hsm : xs.length < 2 ^ 31 := hx.choose_spec.2.2.2
  have hev : (Term.length (.arg 0)).eval args s none [] s = some (.int xs.length.toInt32) := hx.length_eval hb
  have hv := Cond.le_ints hev (show (Term.int 4).eval args s none [] s = some (.int 4) from rfl)
  have hd : xs.length.toInt32 ≤ 4 := by
    simpa [Cond.before, Cond.holds, hv] using hle
  have hN : xs.length ≤ 4 := (Int32.ofNat_le_ofNat hsm (by decide)).mp (show Int32.ofNat xs.length ≤ Int32.ofNat 4 from hd)
  exact ⟨b, xs, Cond.one_arg hc (show args[0]? = some (.ref b) from hb), hx, hN, h⟩
theorem lw_comes (l : Launch) (hlf : l.stackTraces = false) : Comes l x (Jvm.Cond.code x code maxLocals ret :: tables_1) room_1 (fun tb e args s => Calls_1 tb e args s ∧ rest_1 tb e args s ∧ Pre_1 tb e args s)
    (fun _ _ args s o t => lw_Q args s o t) := by
  intro p e ha hc hk s m args below hf hfit hheap happ hpre
  obtain ⟨b, xs, hP⟩ := lw_pre_spec hpre.2.2 hpre.2.1
  obtain ⟨k, o, h1, h2, h3, hQ⟩ := lw_walk l hlf b xs p e ha hc hk s m args below hf ((Spec.applies_iff_loose hf).mp happ).1 hP trivial
  exact ⟨k, o, h1, h2, h3, hQ⟩
theorem lw_frame {s t : State} {o : Outcome} {args : Array Value} (h : Framed s o t [] 600006 7302080) :
    Framed s o t (fieldLocs frame_1_writes args s ++ arrayLocs frame_1_arrays args s ++ staticLocs frame_1_statics s) 600006 7302080 := h
theorem lw_limb (L : Cond) (hL : ∀ (args : Array Value) (s t : State), L.after args s (.returned (some (.int 1))) t = true) :
    ArmFor flags0 classFile x code maxLocals ret World_1 tables_1 room_1 Calls_1 rest_1 Pre_1
      (fun tb e a s o t => postC L tb e a s o t ∧ Framed s o t (fieldLocs frame_1_writes a s ++ arrayLocs frame_1_arrays a s ++ staticLocs frame_1_statics s) 600006 7302080) := by
  intro l hfl _ _ p e ha hc hk s m args below hf hfit hheap happ hpre
  have hlf : l.stackTraces = false := by unfold Launch.stackTraces; rw [hfl]; decide
  obtain ⟨k, o, h1, h2, h3, rfl, hF⟩ := lw_comes l hlf p e ha hc hk s m args below hf hfit hheap happ hpre
  exact ⟨k, _, h1, h2, h3, hL args s _, lw_frame hF⟩
theorem i_vc : Claimed_1_1 ∧ Claimed_1_2 := ⟨lw_limb limb_1_1 (fun args s t => by simp [limb_1_1, Cond.after, Cond.holds, Cond.value]), lw_limb limb_1_2 (fun args s t => Cond.after_iff.mpr (by
  first | (rw [show limb_1_2 = Cond.eq .result (.int 1) from rfl, Cond.eq_ints (x := 1) (y := 1) rfl rfl]; simp; done) | (simp [limb_1_2, Cond.value, Term.eval]; done)))⟩
