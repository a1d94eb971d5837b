/-! the reference: gathering -/
def mGt (n : Int) (F : Nat → Int → Int) : Prop := ∀ j, 0 ≤ j → j < n → 0 ≤ F 26 j ∧ F 26 j ≤ F 27 j ∧ F 27 j ≤ 99999
theorem mGt.put1 {F G : Nat → Int → Int} {i a b j : Int} (h : j ≠ i → 0 ≤ F 26 j ∧ F 26 j ≤ F 27 j ∧ F 27 j ≤ 99999) (h1 : G 26 = upI (F 26) i a) (h2 : G 27 = upI (F 27) i b) (hv : 0 ≤ a ∧ a ≤ b ∧ b ≤ 99999) : 0 ≤ G 26 j ∧ G 26 j ≤ G 27 j ∧ G 27 j ≤ 99999 := by
  rw [h1, h2]
  by_cases e : j = i
  · rw [e, upI_self, upI_self]; exact hv
  · rw [upI_ne _ _ e, upI_ne _ _ e]; exact h e
theorem mGt.put {n : Int} {F G : Nat → Int → Int} {i a b : Int} (h : ∀ j, 0 ≤ j → j < n → j ≠ i → 0 ≤ F 26 j ∧ F 26 j ≤ F 27 j ∧ F 27 j ≤ 99999) (h1 : G 26 = upI (F 26) i a) (h2 : G 27 = upI (F 27) i b) (hv : 0 ≤ a ∧ a ≤ b ∧ b ≤ 99999) : mGt n G :=
  fun j p q => mGt.put1 (fun e => h j p q e) h1 h2 hv
theorem mGt.fr {n : Int} {F G : Nat → Int → Int} (h : mGt n F) (h1 : G 26 = F 26) (h2 : G 27 = F 27) : mGt n G := by
  intro j p q
  rw [h1, h2]
  exact h j p q
def mFt (F : Nat → Int → Int) : Prop := ∀ j, 0 ≤ F 7 j ∧ F 7 j ≤ F 8 j ∧ F 8 j ≤ 99999
def mFd (I : Nat → Int) : Prop := 0 ≤ I 32 ∧ I 32 ≤ 200000 ∧ 0 ≤ I 33 ∧ I 33 ≤ 200000
theorem kq_08_mgather_0 : (Cond.fieldLink RX6 171 "IndexSortModel" "got" "I") ∈ lw_tbl := by decide +kernel
theorem kq_08_mgather_1 : (Cond.fieldLink RX6 75 "IndexSortModel" "gotKind" "[I") ∈ lw_tbl := by decide +kernel
theorem kq_08_mgather_2 : (Cond.fieldLink RX6 78 "IndexSortModel" "gotFrom" "[I") ∈ lw_tbl := by decide +kernel
theorem kq_08_mgather_3 : (Cond.fieldLink RX6 81 "IndexSortModel" "gotTo" "[I") ∈ lw_tbl := by decide +kernel
theorem kq_08_mgather_4 : (Cond.fieldLink RX6 84 "IndexSortModel" "gotRange" "[Z") ∈ lw_tbl := by decide +kernel
theorem kq_08_mgather_5 : (Cond.methodLink RX6 174 yX6_take) ∈ lw_tbl := by decide +kernel
theorem kq_08_mgather_6 : (Cond.instanceMethod yX6_take) ∈ lw_tbl := by decide +kernel
theorem kq_08_mgather_7 : (Cond.selects RX6 yX6_take yX6_take) ∈ lw_tbl := by decide +kernel
theorem kq_08_mgather_8 : (Cond.code yX6_take cX6_take 6 none) ∈ lw_tbl := by decide +kernel
theorem kq_08_mgather_9 : (Cond.methodLink RX6 205 yX6_hasPage) ∈ lw_tbl := by decide +kernel
theorem kq_08_mgather_10 : (Cond.instanceMethod yX6_hasPage) ∈ lw_tbl := by decide +kernel
theorem kq_08_mgather_11 : (Cond.selects RX6 yX6_hasPage yX6_hasPage) ∈ lw_tbl := by decide +kernel
theorem kq_08_mgather_12 : (Cond.code yX6_hasPage cX6_hasPage 4 (some .boolean)) ∈ lw_tbl := by decide +kernel
set_option maxHeartbeats 4000000 in
set_option maxRecDepth 100000 in
theorem k_groupOf (l : Launch) (dC : Nat → ClassId) (dI : Nat → Nat → Nat) (mo : Nat) (ma : Nat → Nat) (cs : Nat → ClassId) (I : Nat → Int) (F : Nat → Int → Int) (p0 : Int) (sz : Nat) (hB : mB I F) (hc : 0 ≤ I 1 ∧ I 1 ≤ 64) (hn : ∀ e, 0 ≤ F 5 e ∧ F 5 e ≤ 20) (hlv : mLv I F) (hsm : mSm (I 1) F) (h0 : 0 ≤ p0 ∧ p0 < I 1) : mMi l yX6_groupOf (.code yX6_groupOf cX6_groupOf 3 (some .int)) 2 47 dC dI mo ma cs I F [.ref mo, .int (iz p0)] sz (fun (r : Int) (I' : Nat → Int) (F' : Nat → Int → Int) => I = I' ∧ mB I F' ∧ mfr [] [20, 21, 22, 23, 24] I F I F' ∧ (-2147483648 ≤ r ∧ r < 2147483648)) := by
  refine Met.ofW (cc := cX6_groupOf) (maxL := 3) (ret := (some .int)) (by decide) rfl ?_
  intro p e s m args below meth c s₁ B hml hv
  obtain ⟨rfl, hsz, hP, hK, hD0, hG, hZ⟩ := hv
  have hx := B.exec
  have hb := B.bytes
  have hr := B.returns
  have hts := kx_hts (a := ([.ref mo, .int (iz p0)] : List Value).toArray) hG
  have hown : s.vm.findClass RX6 = some m.cls := findClass_of_methodNamed B.named
  have hlocks := B.notSynchronized
  subst hsz
  have hD := hD0.self (sz := s.heap.size)
  generalize hAe : va_A (mW mo ma cs I F) s.heap.size = A at hD hZ ⊢
  have hA : ∀ q : Nat, s.heap.size ≤ q → A q := fun q h => by rw [← hAe]; exact Or.inr h
  have hS : va_S A s.heap s.heap [] := va_S.rf
  have hl := lv_entry ([.ref mo, .int (iz p0)]) (n := 3) (Nat.le_of_ble_eq_true rfl)
  rw [lg_entry_eq]
  generalize (lg_sl ([.ref mo, .int (iz p0)]) ++ List.replicate (3 - (lg_sl ([.ref mo, .int (iz p0)])).length) Slot.unset).toArray = ls at hl ⊢
  have hl : lv_has ls 3 [(0, .ref mo), (1, .int (iz p0))] := hl
  refine lv_aload_n hx hb dX6_groupOf_0 rfl (lv_at hl 0 rfl) ?_
  refine lv_iload_n hx hb dX6_groupOf_1 rfl (lv_at hl 1 rfl) ?_
  refine lv_iconst (v := iz 0) hx hb dX6_groupOf_2 (by decide) ?_
  refine mk_calli (As := [.int (iz p0), .int (iz 0)]) (rest := []) ⟨hx, hb, hml, hown, hts⟩ (k_wayOf l dC dI mo ma cs I F p0 0 (I 1) s.heap.size hB (by omega) hlv hsm (by omega) (by omega)) (cwV 2 hts (kx_gV kq_06_mway_16 kq_06_mway_17 kq_06_mway_18 kq_04_msmall_6 kq_06_mway_19 rfl) rfl rfl rfl (by decide +kernel) ⟨Nat.le_of_ble_eq_true rfl, Nat.le_of_ble_eq_true rfl⟩) hP hD hK hG hZ hS hA rfl hl.1 rfl (Nat.le_of_ble_eq_true rfl) dX6_groupOf_3 ⟨Nat.le_of_ble_eq_true rfl, Nat.le_of_ble_eq_true rfl⟩ (fun z_1 I_3 F_4 H locs hq_2 hP hD hS => ?_)
  try dsimp only at hq_2
  obtain ⟨rfl, rfl, hq_2⟩ := hq_2
  refine lv_istore_n (lv' := [(2, .int (iz z_1)), (0, .ref mo), (1, .int (iz p0))]) hx hb dX6_groupOf_6 rfl hl (by decide) rfl (fun ls hl => ?_)
  refine lv_aload_n hx hb dX6_groupOf_7 rfl (lv_at hl 1 rfl) ?_
  refine lv_iconst (v := iz 0) hx hb dX6_groupOf_8 (by decide) ?_
  refine mk_callv (As := [.int (iz 0)]) (rest := []) ⟨hx, hb, hml, hown, hts⟩ (k_begin l dC dI mo ma cs I F 0 H.size hB (by omega)) (cwV 1 hts (kx_gV kq_06_mway_0 kq_06_mway_1 kq_06_mway_2 kq_04_msmall_6 kq_06_mway_3 rfl) rfl rfl rfl (by decide +kernel) ⟨Nat.le_of_ble_eq_true rfl, Nat.le_of_ble_eq_true rfl⟩) hP hD hK hG hZ hS hA rfl hl.1 rfl (Nat.le_of_ble_eq_true rfl) dX6_groupOf_9 ⟨Nat.le_of_ble_eq_true rfl, Nat.le_of_ble_eq_true rfl⟩ (fun I_7 F_8 H locs hq_6 hP hD hS => ?_)
  try dsimp only at hq_6
  obtain ⟨rfl, rfl⟩ := hq_6
  refine lv_aload_n hx hb dX6_groupOf_12 rfl (lv_at hl 1 rfl) ?_
  refine lv_iconst (v := iz 0) hx hb dX6_groupOf_13 (by decide) ?_
  refine lv_iload_n hx hb dX6_groupOf_14 rfl (lv_at hl 0 rfl) ?_
  refine mk_callv (As := [.int (iz 0), .int (iz z_1)]) (rest := []) ⟨hx, hb, hml, hown, hts⟩ (k_step l dC dI mo ma cs I (va_up (va_up F 20 (upI (F 20) 0 0)) 21 (upI (F 21) 0 (vp_nar .boolean (iz 0)).toInt)) 0 z_1 H.size (mB_f (mB_f hB 20 0 (by omega) (by omega)) 21 0 (iz_lo _) (iz_hi _)) (by omega) (by omega) hn (by have h9 := hn z_1; simp [va_up, upI]; omega)) (cwV 2 hts (kx_gV kq_06_mway_7 kq_06_mway_8 kq_06_mway_9 kq_04_msmall_6 kq_06_mway_10 rfl) rfl rfl rfl (by decide +kernel) ⟨Nat.le_of_ble_eq_true rfl, Nat.le_of_ble_eq_true rfl⟩) hP hD hK hG hZ hS hA rfl hl.1 rfl (Nat.le_of_ble_eq_true rfl) dX6_groupOf_15 ⟨Nat.le_of_ble_eq_true rfl, Nat.le_of_ble_eq_true rfl⟩ (fun I_11 F_12 H locs hq_10 hP hD hS => ?_)
  try dsimp only at hq_10
  obtain ⟨rfl, hB13, hf13, ho13, hp13, ht13, hu13⟩ := hq_10
  have hfz := mfr.tr (mfr.upF (mfr.upF mfr.rf (by decide) _) (by decide) _) hf13
  refine lv_aload_n hx hb dX6_groupOf_18 rfl (lv_at hl 1 rfl) ?_
  refine va_get (D := (dC, dI)) (ci := 6) (v := .ref (ma 22)) (C := RX6) (T := TX6) (N := 44) hx hb hts kt_X6 hown hK hP 0 rfl rfl 22 (by decide) (kx_word hG kq_05_morder_2 rfl) (fun _ h9 => h9) rfl dX6_groupOf_19 ?_
  refine lv_iconst (v := iz 0) hx hb dX6_groupOf_22 (by decide) ?_
  refine ki_iald (F := F_12 22) hx hb hK hP 17 16 rfl rfl (by omega) (by omega) (by decide) dX6_groupOf_23 ?_
  have hbd_14 := hB13.2 22 0
  refine lv_iconst (v := iz (-1)) hx hb dX6_groupOf_24 (by decide) ?_
  refine ki_icmp_ne (tgt := 32) hx hb dX6_groupOf_25 (by decide) (by omega) (by omega) (by omega) (by omega) (fun c_15 => ?_) (fun c_15 => ?_)
  · skip
    refine lv_aload_n hx hb dX6_groupOf_32 rfl (lv_at hl 1 rfl) ?_
    refine va_get (D := (dC, dI)) (ci := 6) (v := .ref (ma 22)) (C := RX6) (T := TX6) (N := 44) hx hb hts kt_X6 hown hK hP 0 rfl rfl 22 (by decide) (kx_word hG kq_05_morder_2 rfl) (fun _ h9 => h9) rfl dX6_groupOf_33 ?_
    refine lv_iconst (v := iz 0) hx hb dX6_groupOf_36 (by decide) ?_
    refine ki_iald (F := F_12 22) hx hb hK hP 17 16 rfl rfl (by omega) (by omega) (by decide) dX6_groupOf_37 ?_
    refine lv_iconst (v := iz 1) hx hb dX6_groupOf_38 (by decide) ?_
    refine ki_icmp_ne (tgt := 46) hx hb dX6_groupOf_39 (by decide) (by omega) (by omega) (by omega) (by omega) (fun c_16 => ?_) (fun c_16 => ?_)
    · skip
      refine lv_aload_n hx hb dX6_groupOf_46 rfl (lv_at hl 1 rfl) ?_
      refine va_get (D := (dC, dI)) (ci := 6) (v := .ref (ma 23)) (C := RX6) (T := TX6) (N := 44) hx hb hts kt_X6 hown hK hP 0 rfl rfl 23 (by decide) (kx_word hG kq_05_morder_3 rfl) (fun _ h9 => h9) rfl dX6_groupOf_47 ?_
      refine lv_iconst (v := iz 0) hx hb dX6_groupOf_50 (by decide) ?_
      refine ki_iald (F := F_12 23) hx hb hK hP 18 17 rfl rfl (by omega) (by omega) (by decide) dX6_groupOf_51 ?_
      have hbd_17 := hB13.2 23 0
      exact mk_ireti hx hb hr hlocks hP hD hK hS dX6_groupOf_52 (⟨rfl, hB13, hfz, by omega⟩)
    · skip
      refine lv_iconst (v := iz 1) hx hb dX6_groupOf_42 (by decide) ?_
      refine lv_goto (tgt := 52) hx hb dX6_groupOf_43 (by decide) ?_
      exact mk_ireti hx hb hr hlocks hP hD hK hS dX6_groupOf_52 (⟨rfl, hB13, hfz, by omega⟩)
  · skip
    refine lv_iconst (v := iz 0) hx hb dX6_groupOf_28 (by decide) ?_
    refine lv_goto (tgt := 52) hx hb dX6_groupOf_29 (by decide) ?_
    exact mk_ireti hx hb hr hlocks hP hD hK hS dX6_groupOf_52 (⟨rfl, hB13, hfz, by omega⟩)
set_option maxHeartbeats 4000000 in
set_option maxRecDepth 100000 in
theorem k_take (l : Launch) (dC : Nat → ClassId) (dI : Nat → Nat → Nat) (mo : Nat) (ma : Nat → Nat) (cs : Nat → ClassId) (I : Nat → Int) (F : Nat → Int → Int) (kd : Int) (fr : Int) (to : Int) (rg : Int) (sz : Nat) (hB : mB I F) (hg : 0 ≤ I 29 ∧ I 29 ≤ 1699) (hgt : mGt (I 29) F) (hft : 0 ≤ fr ∧ fr ≤ to ∧ to ≤ 99999) (hkd1 : -2147483648 ≤ kd) (hkd2 : kd < 2147483648) : mMv l yX6_take (.code yX6_take cX6_take 6 none) 0 0 dC dI mo ma cs I F [.ref mo, .int (iz kd), .int (iz fr), .int (iz to), .int (iz rg)] sz (fun (I' : Nat → Int) (F' : Nat → Int → Int) => va_up I 29 (I 29 + 1) = I' ∧ mB I' F' ∧ mfr [] [25, 26, 27, 28] I F I F' ∧ mGt (I 29 + 1) F') := by
  refine Met.ofW (cc := cX6_take) (maxL := 6) (ret := none) (by decide) rfl ?_
  intro p e s m args below meth c s₁ B hml hv
  obtain ⟨rfl, hsz, hP, hK, hD0, hG, hZ⟩ := hv
  have hx := B.exec
  have hb := B.bytes
  have hr := B.returns
  have hts := kx_hts (a := ([.ref mo, .int (iz kd), .int (iz fr), .int (iz to), .int (iz rg)] : List Value).toArray) hG
  have hown : s.vm.findClass RX6 = some m.cls := findClass_of_methodNamed B.named
  have hlocks := B.notSynchronized
  subst hsz
  have hD := hD0.self (sz := s.heap.size)
  generalize hAe : va_A (mW mo ma cs I F) s.heap.size = A at hD hZ ⊢
  have hA : ∀ q : Nat, s.heap.size ≤ q → A q := fun q h => by rw [← hAe]; exact Or.inr h
  have hS : va_S A s.heap s.heap [] := va_S.rf
  have hl := lv_entry ([.ref mo, .int (iz kd), .int (iz fr), .int (iz to), .int (iz rg)]) (n := 6) (Nat.le_of_ble_eq_true rfl)
  rw [lg_entry_eq]
  generalize (lg_sl ([.ref mo, .int (iz kd), .int (iz fr), .int (iz to), .int (iz rg)]) ++ List.replicate (6 - (lg_sl ([.ref mo, .int (iz kd), .int (iz fr), .int (iz to), .int (iz rg)])).length) Slot.unset).toArray = ls at hl ⊢
  have hl : lv_has ls 6 [(0, .ref mo), (1, .int (iz kd)), (2, .int (iz fr)), (3, .int (iz to)), (4, .int (iz rg))] := hl
  generalize hQe : MQ below (mQv dC dI mo ma cs A (fun (I' : Nat → Int) (F' : Nat → Int → Int) => va_up I 29 (I 29 + 1) = I' ∧ mB I' F' ∧ mfr [] [25, 26, 27, 28] I F I F' ∧ mGt (I 29 + 1) F')) ([.ref mo, .int (iz kd), .int (iz fr), .int (iz to), .int (iz rg)] : List Value).toArray s 0 0 A = QQ
  refine lv_aload_n hx hb dX6_take_0 rfl (lv_at hl 0 rfl) ?_
  refine va_get (D := (dC, dI)) (ci := 6) (v := .int (iz (I 29))) (C := RX6) (T := TX6) (N := 44) hx hb hts kt_X6 hown hK hP 0 rfl rfl 29 (by decide) (kx_word hG kq_08_mgather_0 rfl) (fun _ h9 => h9) rfl dX6_take_1 ?_
  have hbd_1 := hB.1 29
  refine lv_istore (lv' := [(5, .int (iz (I 29))), (0, .ref mo), (1, .int (iz kd)), (2, .int (iz fr)), (3, .int (iz to)), (4, .int (iz rg))]) hx hb dX6_take_4 hl (by decide) rfl (fun ls hl => ?_)
  have lp6 : ∀ (n : Nat) (ap : Int) (G : Nat → Int → Int), ((mB I G) ∧ (mfr [] [25, 26, 27, 28] I F I G) ∧ (0 ≤ ap ∧ ap ≤ I 29) ∧ (mGt (I 29) G) ∧ (ap < I 29 → 0 ≤ G 26 (I 29) ∧ G 26 (I 29) ≤ G 27 (I 29) ∧ G 27 (I 29) ≤ 99999)) → (ap).toNat < n → ∀ (H : Heap) (locs : List Loc), va_P (dC, dI) kxCl (mW mo ma cs I G) H → va_D A (mW mo ma cs I G) → va_S A s.heap H locs → ∀ ls : Array Slot, lv_has ls 6 [(5, .int (iz ap)), (0, .ref mo), (1, .int (iz kd)), (2, .int (iz fr)), (3, .int (iz to)), (4, .int (iz rg))] → W p l e (headSpec [.code yX6_take cX6_take 6 none] ({ frames := 0, cells := 0, slots := 0, locals := 0 })).room s m ([.ref mo, .int (iz kd), .int (iz fr), .int (iz to), .int (iz rg)] : List Value).toArray below meth c H locs 0 0 QQ (F0 m 6 ls []) := by
    intro n
    induction n with
    | zero => intro ap G hinv hm; exact absurd hm (Nat.not_lt_zero _)
    | succ n ih6 =>
      intro ap G hinv hm H locs hP hD hS ls hl
      obtain ⟨hBG, hfG, hap, hb1, hb2⟩ := hinv
      refine lv_iload hx hb dX6_take_6 (lv_at hl 0 rfl) ?_
      refine ki_if_le (tgt := 120) hx hb dX6_take_8 (by decide) (by omega) (by omega) (fun c_2 => ?_) (fun c_2 => ?_)
      · skip
        refine lv_aload_n hx hb dX6_take_120 rfl (lv_at hl 1 rfl) ?_
        refine va_get (D := (dC, dI)) (ci := 6) (v := .ref (ma 25)) (C := RX6) (T := TX6) (N := 44) hx hb hts kt_X6 hown hK hP 0 rfl rfl 25 (by decide) (kx_word hG kq_08_mgather_1 rfl) (fun _ h9 => h9) rfl dX6_take_121 ?_
        refine lv_iload hx hb dX6_take_124 (lv_at hl 0 rfl) ?_
        refine lv_iload_n hx hb dX6_take_126 rfl (lv_at hl 2 rfl) ?_
        refine ki_iast (F := G 25) hx hb hK hP hD hS 20 19 rfl rfl (by omega) (by omega) (by decide) dX6_take_127 (fun H locs hP hD hS => ?_)
        have hP : va_P (dC, dI) kxCl (mW mo ma cs I (va_up G 25 (upI (G 25) ap kd))) H := hP
        have hD : va_D A (mW mo ma cs I (va_up G 25 (upI (G 25) ap kd))) := hD
        refine lv_aload_n hx hb dX6_take_128 rfl (lv_at hl 1 rfl) ?_
        refine va_get (D := (dC, dI)) (ci := 6) (v := .ref (ma 26)) (C := RX6) (T := TX6) (N := 44) hx hb hts kt_X6 hown hK hP 0 rfl rfl 26 (by decide) (kx_word hG kq_08_mgather_2 rfl) (fun _ h9 => h9) rfl dX6_take_129 ?_
        refine lv_iload hx hb dX6_take_132 (lv_at hl 0 rfl) ?_
        refine lv_iload_n hx hb dX6_take_134 rfl (lv_at hl 3 rfl) ?_
        refine ki_iast (F := G 26) hx hb hK hP hD hS 21 20 rfl rfl (by omega) (by omega) (by decide) dX6_take_135 (fun H locs hP hD hS => ?_)
        have hP : va_P (dC, dI) kxCl (mW mo ma cs I (va_up (va_up G 25 (upI (G 25) ap kd)) 26 (upI (G 26) ap fr))) H := hP
        have hD : va_D A (mW mo ma cs I (va_up (va_up G 25 (upI (G 25) ap kd)) 26 (upI (G 26) ap fr))) := hD
        refine lv_aload_n hx hb dX6_take_136 rfl (lv_at hl 1 rfl) ?_
        refine va_get (D := (dC, dI)) (ci := 6) (v := .ref (ma 27)) (C := RX6) (T := TX6) (N := 44) hx hb hts kt_X6 hown hK hP 0 rfl rfl 27 (by decide) (kx_word hG kq_08_mgather_3 rfl) (fun _ h9 => h9) rfl dX6_take_137 ?_
        refine lv_iload hx hb dX6_take_140 (lv_at hl 0 rfl) ?_
        refine lv_iload_n hx hb dX6_take_142 rfl (lv_at hl 4 rfl) ?_
        refine ki_iast (F := G 27) hx hb hK hP hD hS 22 21 rfl rfl (by omega) (by omega) (by decide) dX6_take_143 (fun H locs hP hD hS => ?_)
        have hP : va_P (dC, dI) kxCl (mW mo ma cs I (va_up (va_up (va_up G 25 (upI (G 25) ap kd)) 26 (upI (G 26) ap fr)) 27 (upI (G 27) ap to))) H := hP
        have hD : va_D A (mW mo ma cs I (va_up (va_up (va_up G 25 (upI (G 25) ap kd)) 26 (upI (G 26) ap fr)) 27 (upI (G 27) ap to))) := hD
        refine lv_aload_n hx hb dX6_take_144 rfl (lv_at hl 1 rfl) ?_
        refine va_get (D := (dC, dI)) (ci := 6) (v := .ref (ma 28)) (C := RX6) (T := TX6) (N := 44) hx hb hts kt_X6 hown hK hP 0 rfl rfl 28 (by decide) (kx_word hG kq_08_mgather_4 rfl) (fun _ h9 => h9) rfl dX6_take_145 ?_
        refine lv_iload hx hb dX6_take_148 (lv_at hl 0 rfl) ?_
        refine lv_iload hx hb dX6_take_150 (lv_at hl 5 rfl) ?_
        refine ki_zast (F := G 28) hx hb hK hP hD hS 23 22 rfl rfl (by omega) (by omega) (by decide) dX6_take_152 (fun H locs hP hD hS => ?_)
        have hP : va_P (dC, dI) kxCl (mW mo ma cs I (va_up (va_up (va_up (va_up G 25 (upI (G 25) ap kd)) 26 (upI (G 26) ap fr)) 27 (upI (G 27) ap to)) 28 (upI (G 28) ap (vp_nar .boolean (iz rg)).toInt))) H := hP
        have hD : va_D A (mW mo ma cs I (va_up (va_up (va_up (va_up G 25 (upI (G 25) ap kd)) 26 (upI (G 26) ap fr)) 27 (upI (G 27) ap to)) 28 (upI (G 28) ap (vp_nar .boolean (iz rg)).toInt))) := hD
        refine lv_aload_n hx hb dX6_take_153 rfl (lv_at hl 1 rfl) ?_
        refine lv_dup hx hb dX6_take_154 rfl ?_
        refine va_get (D := (dC, dI)) (ci := 6) (v := .int (iz (I 29))) (C := RX6) (T := TX6) (N := 44) hx hb hts kt_X6 hown hK hP 0 rfl rfl 29 (by decide) (kx_word hG kq_08_mgather_0 rfl) (fun _ h9 => h9) rfl dX6_take_155 ?_
        have hbd_3 := hBG.1 29
        refine lv_iconst (v := iz 1) hx hb dX6_take_158 (by decide) ?_
        refine ki_iadd hx hb dX6_take_159 ?_
        refine va_put (D := (dC, dI)) (ci := 6) (v := .int (iz ((I 29) + 1))) (ty := .int) (C := RX6) (T := TX6) (N := 44) hx hb hts kt_X6 tyX6 tyX6_ok nmX6 hown hK hP hD hS 0 rfl rfl 29 (by decide) (kx_word hG kq_08_mgather_0 rfl) (fun _ h9 => h9) rfl (by decide +kernel) rfl rfl (Nat.le_of_ble_eq_true rfl) dX6_take_160 (fun H locs hP hD hS => ?_)
        have hP : va_P (dC, dI) kxCl (mW mo ma cs (va_up I 29 ((I 29) + 1)) (va_up (va_up (va_up (va_up G 25 (upI (G 25) ap kd)) 26 (upI (G 26) ap fr)) 27 (upI (G 27) ap to)) 28 (upI (G 28) ap (vp_nar .boolean (iz rg)).toInt))) H := hP
        have hD : va_D A (mW mo ma cs (va_up I 29 ((I 29) + 1)) (va_up (va_up (va_up (va_up G 25 (upI (G 25) ap kd)) 26 (upI (G 26) ap fr)) 27 (upI (G 27) ap to)) 28 (upI (G 28) ap (vp_nar .boolean (iz rg)).toInt))) := hD
        rw [← hQe]
        exact mk_ret hx hb hr hlocks hP hD hK hS dX6_take_163 (⟨rfl, (mB_f (mB_f (mB_f (mB_f (mB_i hBG 29 (by omega) (by omega)) 25 ap (by omega) (by omega)) 26 ap (by omega) (by omega)) 27 ap (by omega) (by omega)) 28 ap (iz_lo _) (iz_hi _)), (mfr.upF (mfr.upF (mfr.upF (mfr.upF hfG (by decide) _) (by decide) _) (by decide) _) (by decide) _), mGt.put (F := G) (i := ap) (a := fr) (b := to) (fun j a b c9 => if h9 : j < I 29 then hb1 j a h9 else (by rw [show j = I 29 by omega]; exact hb2 (by omega))) rfl rfl hft⟩)
      · skip
        refine lv_aload_n hx hb dX6_take_11 rfl (lv_at hl 1 rfl) ?_
        refine va_get (D := (dC, dI)) (ci := 6) (v := .ref (ma 25)) (C := RX6) (T := TX6) (N := 44) hx hb hts kt_X6 hown hK hP 0 rfl rfl 25 (by decide) (kx_word hG kq_08_mgather_1 rfl) (fun _ h9 => h9) rfl dX6_take_12 ?_
        refine lv_iload hx hb dX6_take_15 (lv_at hl 0 rfl) ?_
        refine lv_iconst (v := iz 1) hx hb dX6_take_17 (by decide) ?_
        refine ki_isub hx hb dX6_take_18 ?_
        refine ki_iald (F := G 25) hx hb hK hP 20 19 rfl rfl (by omega) (by omega) (by decide) dX6_take_19 ?_
        have hbd_4 := hBG.2 25 (ap - 1)
        refine lv_iload_n hx hb dX6_take_20 rfl (lv_at hl 2 rfl) ?_
        refine ki_icmp_gt (tgt := 50) hx hb dX6_take_21 (by decide) (by omega) (by omega) (by omega) (by omega) (fun c_5 => ?_) (fun c_5 => ?_)
        · skip
          refine lv_aload_n hx hb dX6_take_50 rfl (lv_at hl 1 rfl) ?_
          refine va_get (D := (dC, dI)) (ci := 6) (v := .ref (ma 25)) (C := RX6) (T := TX6) (N := 44) hx hb hts kt_X6 hown hK hP 0 rfl rfl 25 (by decide) (kx_word hG kq_08_mgather_1 rfl) (fun _ h9 => h9) rfl dX6_take_51 ?_
          refine lv_iload hx hb dX6_take_54 (lv_at hl 0 rfl) ?_
          refine lv_aload_n hx hb dX6_take_56 rfl (lv_at hl 1 rfl) ?_
          refine va_get (D := (dC, dI)) (ci := 6) (v := .ref (ma 25)) (C := RX6) (T := TX6) (N := 44) hx hb hts kt_X6 hown hK hP 0 rfl rfl 25 (by decide) (kx_word hG kq_08_mgather_1 rfl) (fun _ h9 => h9) rfl dX6_take_57 ?_
          refine lv_iload hx hb dX6_take_60 (lv_at hl 0 rfl) ?_
          refine lv_iconst (v := iz 1) hx hb dX6_take_62 (by decide) ?_
          refine ki_isub hx hb dX6_take_63 ?_
          refine ki_iald (F := G 25) hx hb hK hP 20 19 rfl rfl (by omega) (by omega) (by decide) dX6_take_64 ?_
          refine ki_iast (F := G 25) hx hb hK hP hD hS 20 19 rfl rfl (by omega) (by omega) (by decide) dX6_take_65 (fun H locs hP hD hS => ?_)
          have hP : va_P (dC, dI) kxCl (mW mo ma cs I (va_up G 25 (upI (G 25) ap (G 25 (ap - 1))))) H := hP
          have hD : va_D A (mW mo ma cs I (va_up G 25 (upI (G 25) ap (G 25 (ap - 1))))) := hD
          refine lv_aload_n hx hb dX6_take_66 rfl (lv_at hl 1 rfl) ?_
          refine va_get (D := (dC, dI)) (ci := 6) (v := .ref (ma 26)) (C := RX6) (T := TX6) (N := 44) hx hb hts kt_X6 hown hK hP 0 rfl rfl 26 (by decide) (kx_word hG kq_08_mgather_2 rfl) (fun _ h9 => h9) rfl dX6_take_67 ?_
          refine lv_iload hx hb dX6_take_70 (lv_at hl 0 rfl) ?_
          refine lv_aload_n hx hb dX6_take_72 rfl (lv_at hl 1 rfl) ?_
          refine va_get (D := (dC, dI)) (ci := 6) (v := .ref (ma 26)) (C := RX6) (T := TX6) (N := 44) hx hb hts kt_X6 hown hK hP 0 rfl rfl 26 (by decide) (kx_word hG kq_08_mgather_2 rfl) (fun _ h9 => h9) rfl dX6_take_73 ?_
          refine lv_iload hx hb dX6_take_76 (lv_at hl 0 rfl) ?_
          refine lv_iconst (v := iz 1) hx hb dX6_take_78 (by decide) ?_
          refine ki_isub hx hb dX6_take_79 ?_
          refine ki_iald (F := G 26) hx hb hK hP 21 20 rfl rfl (by omega) (by omega) (by decide) dX6_take_80 ?_
          have hbd_6 := hBG.2 26 (ap - 1)
          refine ki_iast (F := G 26) hx hb hK hP hD hS 21 20 rfl rfl (by omega) (by omega) (by decide) dX6_take_81 (fun H locs hP hD hS => ?_)
          have hP : va_P (dC, dI) kxCl (mW mo ma cs I (va_up (va_up G 25 (upI (G 25) ap (G 25 (ap - 1)))) 26 (upI (G 26) ap (G 26 (ap - 1))))) H := hP
          have hD : va_D A (mW mo ma cs I (va_up (va_up G 25 (upI (G 25) ap (G 25 (ap - 1)))) 26 (upI (G 26) ap (G 26 (ap - 1))))) := hD
          refine lv_aload_n hx hb dX6_take_82 rfl (lv_at hl 1 rfl) ?_
          refine va_get (D := (dC, dI)) (ci := 6) (v := .ref (ma 27)) (C := RX6) (T := TX6) (N := 44) hx hb hts kt_X6 hown hK hP 0 rfl rfl 27 (by decide) (kx_word hG kq_08_mgather_3 rfl) (fun _ h9 => h9) rfl dX6_take_83 ?_
          refine lv_iload hx hb dX6_take_86 (lv_at hl 0 rfl) ?_
          refine lv_aload_n hx hb dX6_take_88 rfl (lv_at hl 1 rfl) ?_
          refine va_get (D := (dC, dI)) (ci := 6) (v := .ref (ma 27)) (C := RX6) (T := TX6) (N := 44) hx hb hts kt_X6 hown hK hP 0 rfl rfl 27 (by decide) (kx_word hG kq_08_mgather_3 rfl) (fun _ h9 => h9) rfl dX6_take_89 ?_
          refine lv_iload hx hb dX6_take_92 (lv_at hl 0 rfl) ?_
          refine lv_iconst (v := iz 1) hx hb dX6_take_94 (by decide) ?_
          refine ki_isub hx hb dX6_take_95 ?_
          refine ki_iald (F := G 27) hx hb hK hP 22 21 rfl rfl (by omega) (by omega) (by decide) dX6_take_96 ?_
          have hbd_7 := hBG.2 27 (ap - 1)
          refine ki_iast (F := G 27) hx hb hK hP hD hS 22 21 rfl rfl (by omega) (by omega) (by decide) dX6_take_97 (fun H locs hP hD hS => ?_)
          have hP : va_P (dC, dI) kxCl (mW mo ma cs I (va_up (va_up (va_up G 25 (upI (G 25) ap (G 25 (ap - 1)))) 26 (upI (G 26) ap (G 26 (ap - 1)))) 27 (upI (G 27) ap (G 27 (ap - 1))))) H := hP
          have hD : va_D A (mW mo ma cs I (va_up (va_up (va_up G 25 (upI (G 25) ap (G 25 (ap - 1)))) 26 (upI (G 26) ap (G 26 (ap - 1)))) 27 (upI (G 27) ap (G 27 (ap - 1))))) := hD
          refine lv_aload_n hx hb dX6_take_98 rfl (lv_at hl 1 rfl) ?_
          refine va_get (D := (dC, dI)) (ci := 6) (v := .ref (ma 28)) (C := RX6) (T := TX6) (N := 44) hx hb hts kt_X6 hown hK hP 0 rfl rfl 28 (by decide) (kx_word hG kq_08_mgather_4 rfl) (fun _ h9 => h9) rfl dX6_take_99 ?_
          refine lv_iload hx hb dX6_take_102 (lv_at hl 0 rfl) ?_
          refine lv_aload_n hx hb dX6_take_104 rfl (lv_at hl 1 rfl) ?_
          refine va_get (D := (dC, dI)) (ci := 6) (v := .ref (ma 28)) (C := RX6) (T := TX6) (N := 44) hx hb hts kt_X6 hown hK hP 0 rfl rfl 28 (by decide) (kx_word hG kq_08_mgather_4 rfl) (fun _ h9 => h9) rfl dX6_take_105 ?_
          refine lv_iload hx hb dX6_take_108 (lv_at hl 0 rfl) ?_
          refine lv_iconst (v := iz 1) hx hb dX6_take_110 (by decide) ?_
          refine ki_isub hx hb dX6_take_111 ?_
          refine ki_zald (F := G 28) hx hb hK hP 23 22 rfl rfl (by omega) (by omega) (by decide) dX6_take_112 ?_
          have hbd_8 := hBG.2 28 (ap - 1)
          refine ki_zast (F := G 28) hx hb hK hP hD hS 23 22 rfl rfl (by omega) (by omega) (by decide) dX6_take_113 (fun H locs hP hD hS => ?_)
          have hP : va_P (dC, dI) kxCl (mW mo ma cs I (va_up (va_up (va_up (va_up G 25 (upI (G 25) ap (G 25 (ap - 1)))) 26 (upI (G 26) ap (G 26 (ap - 1)))) 27 (upI (G 27) ap (G 27 (ap - 1)))) 28 (upI (G 28) ap (vp_nar .boolean (iz (G 28 (ap - 1)))).toInt))) H := hP
          have hD : va_D A (mW mo ma cs I (va_up (va_up (va_up (va_up G 25 (upI (G 25) ap (G 25 (ap - 1)))) 26 (upI (G 26) ap (G 26 (ap - 1)))) 27 (upI (G 27) ap (G 27 (ap - 1)))) 28 (upI (G 28) ap (vp_nar .boolean (iz (G 28 (ap - 1)))).toInt))) := hD
          refine lv_iinc (v := iz (ap + (-1))) (lv' := [(5, .int (iz (ap + (-1)))), (0, .ref mo), (1, .int (iz kd)), (2, .int (iz fr)), (3, .int (iz to)), (4, .int (iz rg))]) hx hb dX6_take_114 hl (k := 0) rfl (iz_add ap (-1)) (by decide) rfl (fun ls hl => ?_)
          refine lv_goto (tgt := 6) hx hb dX6_take_117 (by decide) ?_
          exact ih6 (ap + (-1)) (va_up (va_up (va_up (va_up G 25 (upI (G 25) ap (G 25 (ap - 1)))) 26 (upI (G 26) ap (G 26 (ap - 1)))) 27 (upI (G 27) ap (G 27 (ap - 1)))) 28 (upI (G 28) ap (vp_nar .boolean (iz (G 28 (ap - 1)))).toInt)) ⟨(mB_f (mB_f (mB_f (mB_f hBG 25 ap (by omega) (by omega)) 26 ap (by omega) (by omega)) 27 ap (by omega) (by omega)) 28 ap (iz_lo _) (iz_hi _)), (mfr.upF (mfr.upF (mfr.upF (mfr.upF hfG (by decide) _) (by decide) _) (by decide) _) (by decide) _), by omega, mGt.put (F := G) (i := ap) (a := G 26 (ap - 1)) (b := G 27 (ap - 1)) (fun j a b _ => hb1 j a b) rfl rfl (hb1 (ap - 1) (by omega) (by omega)), fun h => mGt.put1 (F := G) (i := ap) (a := G 26 (ap - 1)) (b := G 27 (ap - 1)) (fun h9 => hb2 (by omega)) rfl rfl (hb1 (ap - 1) (by omega) (by omega))⟩ (by omega) _ _ hP hD hS ls (lv_sub hl [0, 1, 2, 3, 4, 5] rfl)
        · skip
          refine lv_aload_n hx hb dX6_take_24 rfl (lv_at hl 1 rfl) ?_
          refine va_get (D := (dC, dI)) (ci := 6) (v := .ref (ma 25)) (C := RX6) (T := TX6) (N := 44) hx hb hts kt_X6 hown hK hP 0 rfl rfl 25 (by decide) (kx_word hG kq_08_mgather_1 rfl) (fun _ h9 => h9) rfl dX6_take_25 ?_
          refine lv_iload hx hb dX6_take_28 (lv_at hl 0 rfl) ?_
          refine lv_iconst (v := iz 1) hx hb dX6_take_30 (by decide) ?_
          refine ki_isub hx hb dX6_take_31 ?_
          refine ki_iald (F := G 25) hx hb hK hP 20 19 rfl rfl (by omega) (by omega) (by decide) dX6_take_32 ?_
          refine lv_iload_n hx hb dX6_take_33 rfl (lv_at hl 2 rfl) ?_
          refine ki_icmp_ne (tgt := 120) hx hb dX6_take_34 (by decide) (by omega) (by omega) (by omega) (by omega) (fun c_9 => ?_) (fun c_9 => ?_)
          · skip
            refine lv_aload_n hx hb dX6_take_120 rfl (lv_at hl 1 rfl) ?_
            refine va_get (D := (dC, dI)) (ci := 6) (v := .ref (ma 25)) (C := RX6) (T := TX6) (N := 44) hx hb hts kt_X6 hown hK hP 0 rfl rfl 25 (by decide) (kx_word hG kq_08_mgather_1 rfl) (fun _ h9 => h9) rfl dX6_take_121 ?_
            refine lv_iload hx hb dX6_take_124 (lv_at hl 0 rfl) ?_
            refine lv_iload_n hx hb dX6_take_126 rfl (lv_at hl 2 rfl) ?_
            refine ki_iast (F := G 25) hx hb hK hP hD hS 20 19 rfl rfl (by omega) (by omega) (by decide) dX6_take_127 (fun H locs hP hD hS => ?_)
            have hP : va_P (dC, dI) kxCl (mW mo ma cs I (va_up G 25 (upI (G 25) ap kd))) H := hP
            have hD : va_D A (mW mo ma cs I (va_up G 25 (upI (G 25) ap kd))) := hD
            refine lv_aload_n hx hb dX6_take_128 rfl (lv_at hl 1 rfl) ?_
            refine va_get (D := (dC, dI)) (ci := 6) (v := .ref (ma 26)) (C := RX6) (T := TX6) (N := 44) hx hb hts kt_X6 hown hK hP 0 rfl rfl 26 (by decide) (kx_word hG kq_08_mgather_2 rfl) (fun _ h9 => h9) rfl dX6_take_129 ?_
            refine lv_iload hx hb dX6_take_132 (lv_at hl 0 rfl) ?_
            refine lv_iload_n hx hb dX6_take_134 rfl (lv_at hl 3 rfl) ?_
            refine ki_iast (F := G 26) hx hb hK hP hD hS 21 20 rfl rfl (by omega) (by omega) (by decide) dX6_take_135 (fun H locs hP hD hS => ?_)
            have hP : va_P (dC, dI) kxCl (mW mo ma cs I (va_up (va_up G 25 (upI (G 25) ap kd)) 26 (upI (G 26) ap fr))) H := hP
            have hD : va_D A (mW mo ma cs I (va_up (va_up G 25 (upI (G 25) ap kd)) 26 (upI (G 26) ap fr))) := hD
            refine lv_aload_n hx hb dX6_take_136 rfl (lv_at hl 1 rfl) ?_
            refine va_get (D := (dC, dI)) (ci := 6) (v := .ref (ma 27)) (C := RX6) (T := TX6) (N := 44) hx hb hts kt_X6 hown hK hP 0 rfl rfl 27 (by decide) (kx_word hG kq_08_mgather_3 rfl) (fun _ h9 => h9) rfl dX6_take_137 ?_
            refine lv_iload hx hb dX6_take_140 (lv_at hl 0 rfl) ?_
            refine lv_iload_n hx hb dX6_take_142 rfl (lv_at hl 4 rfl) ?_
            refine ki_iast (F := G 27) hx hb hK hP hD hS 22 21 rfl rfl (by omega) (by omega) (by decide) dX6_take_143 (fun H locs hP hD hS => ?_)
            have hP : va_P (dC, dI) kxCl (mW mo ma cs I (va_up (va_up (va_up G 25 (upI (G 25) ap kd)) 26 (upI (G 26) ap fr)) 27 (upI (G 27) ap to))) H := hP
            have hD : va_D A (mW mo ma cs I (va_up (va_up (va_up G 25 (upI (G 25) ap kd)) 26 (upI (G 26) ap fr)) 27 (upI (G 27) ap to))) := hD
            refine lv_aload_n hx hb dX6_take_144 rfl (lv_at hl 1 rfl) ?_
            refine va_get (D := (dC, dI)) (ci := 6) (v := .ref (ma 28)) (C := RX6) (T := TX6) (N := 44) hx hb hts kt_X6 hown hK hP 0 rfl rfl 28 (by decide) (kx_word hG kq_08_mgather_4 rfl) (fun _ h9 => h9) rfl dX6_take_145 ?_
            refine lv_iload hx hb dX6_take_148 (lv_at hl 0 rfl) ?_
            refine lv_iload hx hb dX6_take_150 (lv_at hl 5 rfl) ?_
            refine ki_zast (F := G 28) hx hb hK hP hD hS 23 22 rfl rfl (by omega) (by omega) (by decide) dX6_take_152 (fun H locs hP hD hS => ?_)
            have hP : va_P (dC, dI) kxCl (mW mo ma cs I (va_up (va_up (va_up (va_up G 25 (upI (G 25) ap kd)) 26 (upI (G 26) ap fr)) 27 (upI (G 27) ap to)) 28 (upI (G 28) ap (vp_nar .boolean (iz rg)).toInt))) H := hP
            have hD : va_D A (mW mo ma cs I (va_up (va_up (va_up (va_up G 25 (upI (G 25) ap kd)) 26 (upI (G 26) ap fr)) 27 (upI (G 27) ap to)) 28 (upI (G 28) ap (vp_nar .boolean (iz rg)).toInt))) := hD
            refine lv_aload_n hx hb dX6_take_153 rfl (lv_at hl 1 rfl) ?_
            refine lv_dup hx hb dX6_take_154 rfl ?_
            refine va_get (D := (dC, dI)) (ci := 6) (v := .int (iz (I 29))) (C := RX6) (T := TX6) (N := 44) hx hb hts kt_X6 hown hK hP 0 rfl rfl 29 (by decide) (kx_word hG kq_08_mgather_0 rfl) (fun _ h9 => h9) rfl dX6_take_155 ?_
            have hbd_10 := hBG.1 29
            refine lv_iconst (v := iz 1) hx hb dX6_take_158 (by decide) ?_
            refine ki_iadd hx hb dX6_take_159 ?_
            refine va_put (D := (dC, dI)) (ci := 6) (v := .int (iz ((I 29) + 1))) (ty := .int) (C := RX6) (T := TX6) (N := 44) hx hb hts kt_X6 tyX6 tyX6_ok nmX6 hown hK hP hD hS 0 rfl rfl 29 (by decide) (kx_word hG kq_08_mgather_0 rfl) (fun _ h9 => h9) rfl (by decide +kernel) rfl rfl (Nat.le_of_ble_eq_true rfl) dX6_take_160 (fun H locs hP hD hS => ?_)
            have hP : va_P (dC, dI) kxCl (mW mo ma cs (va_up I 29 ((I 29) + 1)) (va_up (va_up (va_up (va_up G 25 (upI (G 25) ap kd)) 26 (upI (G 26) ap fr)) 27 (upI (G 27) ap to)) 28 (upI (G 28) ap (vp_nar .boolean (iz rg)).toInt))) H := hP
            have hD : va_D A (mW mo ma cs (va_up I 29 ((I 29) + 1)) (va_up (va_up (va_up (va_up G 25 (upI (G 25) ap kd)) 26 (upI (G 26) ap fr)) 27 (upI (G 27) ap to)) 28 (upI (G 28) ap (vp_nar .boolean (iz rg)).toInt))) := hD
            rw [← hQe]
            exact mk_ret hx hb hr hlocks hP hD hK hS dX6_take_163 (⟨rfl, (mB_f (mB_f (mB_f (mB_f (mB_i hBG 29 (by omega) (by omega)) 25 ap (by omega) (by omega)) 26 ap (by omega) (by omega)) 27 ap (by omega) (by omega)) 28 ap (iz_lo _) (iz_hi _)), (mfr.upF (mfr.upF (mfr.upF (mfr.upF hfG (by decide) _) (by decide) _) (by decide) _) (by decide) _), mGt.put (F := G) (i := ap) (a := fr) (b := to) (fun j a b c9 => if h9 : j < I 29 then hb1 j a h9 else (by rw [show j = I 29 by omega]; exact hb2 (by omega))) rfl rfl hft⟩)
          · skip
            refine lv_aload_n hx hb dX6_take_37 rfl (lv_at hl 1 rfl) ?_
            refine va_get (D := (dC, dI)) (ci := 6) (v := .ref (ma 26)) (C := RX6) (T := TX6) (N := 44) hx hb hts kt_X6 hown hK hP 0 rfl rfl 26 (by decide) (kx_word hG kq_08_mgather_2 rfl) (fun _ h9 => h9) rfl dX6_take_38 ?_
            refine lv_iload hx hb dX6_take_41 (lv_at hl 0 rfl) ?_
            refine lv_iconst (v := iz 1) hx hb dX6_take_43 (by decide) ?_
            refine ki_isub hx hb dX6_take_44 ?_
            refine ki_iald (F := G 26) hx hb hK hP 21 20 rfl rfl (by omega) (by omega) (by decide) dX6_take_45 ?_
            have hbd_11 := hBG.2 26 (ap - 1)
            refine lv_iload_n hx hb dX6_take_46 rfl (lv_at hl 3 rfl) ?_
            refine ki_icmp_le (tgt := 120) hx hb dX6_take_47 (by decide) (by omega) (by omega) (by omega) (by omega) (fun c_12 => ?_) (fun c_12 => ?_)
            · skip
              refine lv_aload_n hx hb dX6_take_120 rfl (lv_at hl 1 rfl) ?_
              refine va_get (D := (dC, dI)) (ci := 6) (v := .ref (ma 25)) (C := RX6) (T := TX6) (N := 44) hx hb hts kt_X6 hown hK hP 0 rfl rfl 25 (by decide) (kx_word hG kq_08_mgather_1 rfl) (fun _ h9 => h9) rfl dX6_take_121 ?_
              refine lv_iload hx hb dX6_take_124 (lv_at hl 0 rfl) ?_
              refine lv_iload_n hx hb dX6_take_126 rfl (lv_at hl 2 rfl) ?_
              refine ki_iast (F := G 25) hx hb hK hP hD hS 20 19 rfl rfl (by omega) (by omega) (by decide) dX6_take_127 (fun H locs hP hD hS => ?_)
              have hP : va_P (dC, dI) kxCl (mW mo ma cs I (va_up G 25 (upI (G 25) ap kd))) H := hP
              have hD : va_D A (mW mo ma cs I (va_up G 25 (upI (G 25) ap kd))) := hD
              refine lv_aload_n hx hb dX6_take_128 rfl (lv_at hl 1 rfl) ?_
              refine va_get (D := (dC, dI)) (ci := 6) (v := .ref (ma 26)) (C := RX6) (T := TX6) (N := 44) hx hb hts kt_X6 hown hK hP 0 rfl rfl 26 (by decide) (kx_word hG kq_08_mgather_2 rfl) (fun _ h9 => h9) rfl dX6_take_129 ?_
              refine lv_iload hx hb dX6_take_132 (lv_at hl 0 rfl) ?_
              refine lv_iload_n hx hb dX6_take_134 rfl (lv_at hl 3 rfl) ?_
              refine ki_iast (F := G 26) hx hb hK hP hD hS 21 20 rfl rfl (by omega) (by omega) (by decide) dX6_take_135 (fun H locs hP hD hS => ?_)
              have hP : va_P (dC, dI) kxCl (mW mo ma cs I (va_up (va_up G 25 (upI (G 25) ap kd)) 26 (upI (G 26) ap fr))) H := hP
              have hD : va_D A (mW mo ma cs I (va_up (va_up G 25 (upI (G 25) ap kd)) 26 (upI (G 26) ap fr))) := hD
              refine lv_aload_n hx hb dX6_take_136 rfl (lv_at hl 1 rfl) ?_
              refine va_get (D := (dC, dI)) (ci := 6) (v := .ref (ma 27)) (C := RX6) (T := TX6) (N := 44) hx hb hts kt_X6 hown hK hP 0 rfl rfl 27 (by decide) (kx_word hG kq_08_mgather_3 rfl) (fun _ h9 => h9) rfl dX6_take_137 ?_
              refine lv_iload hx hb dX6_take_140 (lv_at hl 0 rfl) ?_
              refine lv_iload_n hx hb dX6_take_142 rfl (lv_at hl 4 rfl) ?_
              refine ki_iast (F := G 27) hx hb hK hP hD hS 22 21 rfl rfl (by omega) (by omega) (by decide) dX6_take_143 (fun H locs hP hD hS => ?_)
              have hP : va_P (dC, dI) kxCl (mW mo ma cs I (va_up (va_up (va_up G 25 (upI (G 25) ap kd)) 26 (upI (G 26) ap fr)) 27 (upI (G 27) ap to))) H := hP
              have hD : va_D A (mW mo ma cs I (va_up (va_up (va_up G 25 (upI (G 25) ap kd)) 26 (upI (G 26) ap fr)) 27 (upI (G 27) ap to))) := hD
              refine lv_aload_n hx hb dX6_take_144 rfl (lv_at hl 1 rfl) ?_
              refine va_get (D := (dC, dI)) (ci := 6) (v := .ref (ma 28)) (C := RX6) (T := TX6) (N := 44) hx hb hts kt_X6 hown hK hP 0 rfl rfl 28 (by decide) (kx_word hG kq_08_mgather_4 rfl) (fun _ h9 => h9) rfl dX6_take_145 ?_
              refine lv_iload hx hb dX6_take_148 (lv_at hl 0 rfl) ?_
              refine lv_iload hx hb dX6_take_150 (lv_at hl 5 rfl) ?_
              refine ki_zast (F := G 28) hx hb hK hP hD hS 23 22 rfl rfl (by omega) (by omega) (by decide) dX6_take_152 (fun H locs hP hD hS => ?_)
              have hP : va_P (dC, dI) kxCl (mW mo ma cs I (va_up (va_up (va_up (va_up G 25 (upI (G 25) ap kd)) 26 (upI (G 26) ap fr)) 27 (upI (G 27) ap to)) 28 (upI (G 28) ap (vp_nar .boolean (iz rg)).toInt))) H := hP
              have hD : va_D A (mW mo ma cs I (va_up (va_up (va_up (va_up G 25 (upI (G 25) ap kd)) 26 (upI (G 26) ap fr)) 27 (upI (G 27) ap to)) 28 (upI (G 28) ap (vp_nar .boolean (iz rg)).toInt))) := hD
              refine lv_aload_n hx hb dX6_take_153 rfl (lv_at hl 1 rfl) ?_
              refine lv_dup hx hb dX6_take_154 rfl ?_
              refine va_get (D := (dC, dI)) (ci := 6) (v := .int (iz (I 29))) (C := RX6) (T := TX6) (N := 44) hx hb hts kt_X6 hown hK hP 0 rfl rfl 29 (by decide) (kx_word hG kq_08_mgather_0 rfl) (fun _ h9 => h9) rfl dX6_take_155 ?_
              have hbd_13 := hBG.1 29
              refine lv_iconst (v := iz 1) hx hb dX6_take_158 (by decide) ?_
              refine ki_iadd hx hb dX6_take_159 ?_
              refine va_put (D := (dC, dI)) (ci := 6) (v := .int (iz ((I 29) + 1))) (ty := .int) (C := RX6) (T := TX6) (N := 44) hx hb hts kt_X6 tyX6 tyX6_ok nmX6 hown hK hP hD hS 0 rfl rfl 29 (by decide) (kx_word hG kq_08_mgather_0 rfl) (fun _ h9 => h9) rfl (by decide +kernel) rfl rfl (Nat.le_of_ble_eq_true rfl) dX6_take_160 (fun H locs hP hD hS => ?_)
              have hP : va_P (dC, dI) kxCl (mW mo ma cs (va_up I 29 ((I 29) + 1)) (va_up (va_up (va_up (va_up G 25 (upI (G 25) ap kd)) 26 (upI (G 26) ap fr)) 27 (upI (G 27) ap to)) 28 (upI (G 28) ap (vp_nar .boolean (iz rg)).toInt))) H := hP
              have hD : va_D A (mW mo ma cs (va_up I 29 ((I 29) + 1)) (va_up (va_up (va_up (va_up G 25 (upI (G 25) ap kd)) 26 (upI (G 26) ap fr)) 27 (upI (G 27) ap to)) 28 (upI (G 28) ap (vp_nar .boolean (iz rg)).toInt))) := hD
              rw [← hQe]
              exact mk_ret hx hb hr hlocks hP hD hK hS dX6_take_163 (⟨rfl, (mB_f (mB_f (mB_f (mB_f (mB_i hBG 29 (by omega) (by omega)) 25 ap (by omega) (by omega)) 26 ap (by omega) (by omega)) 27 ap (by omega) (by omega)) 28 ap (iz_lo _) (iz_hi _)), (mfr.upF (mfr.upF (mfr.upF (mfr.upF hfG (by decide) _) (by decide) _) (by decide) _) (by decide) _), mGt.put (F := G) (i := ap) (a := fr) (b := to) (fun j a b c9 => if h9 : j < I 29 then hb1 j a h9 else (by rw [show j = I 29 by omega]; exact hb2 (by omega))) rfl rfl hft⟩)
            · skip
              refine lv_aload_n hx hb dX6_take_50 rfl (lv_at hl 1 rfl) ?_
              refine va_get (D := (dC, dI)) (ci := 6) (v := .ref (ma 25)) (C := RX6) (T := TX6) (N := 44) hx hb hts kt_X6 hown hK hP 0 rfl rfl 25 (by decide) (kx_word hG kq_08_mgather_1 rfl) (fun _ h9 => h9) rfl dX6_take_51 ?_
              refine lv_iload hx hb dX6_take_54 (lv_at hl 0 rfl) ?_
              refine lv_aload_n hx hb dX6_take_56 rfl (lv_at hl 1 rfl) ?_
              refine va_get (D := (dC, dI)) (ci := 6) (v := .ref (ma 25)) (C := RX6) (T := TX6) (N := 44) hx hb hts kt_X6 hown hK hP 0 rfl rfl 25 (by decide) (kx_word hG kq_08_mgather_1 rfl) (fun _ h9 => h9) rfl dX6_take_57 ?_
              refine lv_iload hx hb dX6_take_60 (lv_at hl 0 rfl) ?_
              refine lv_iconst (v := iz 1) hx hb dX6_take_62 (by decide) ?_
              refine ki_isub hx hb dX6_take_63 ?_
              refine ki_iald (F := G 25) hx hb hK hP 20 19 rfl rfl (by omega) (by omega) (by decide) dX6_take_64 ?_
              refine ki_iast (F := G 25) hx hb hK hP hD hS 20 19 rfl rfl (by omega) (by omega) (by decide) dX6_take_65 (fun H locs hP hD hS => ?_)
              have hP : va_P (dC, dI) kxCl (mW mo ma cs I (va_up G 25 (upI (G 25) ap (G 25 (ap - 1))))) H := hP
              have hD : va_D A (mW mo ma cs I (va_up G 25 (upI (G 25) ap (G 25 (ap - 1))))) := hD
              refine lv_aload_n hx hb dX6_take_66 rfl (lv_at hl 1 rfl) ?_
              refine va_get (D := (dC, dI)) (ci := 6) (v := .ref (ma 26)) (C := RX6) (T := TX6) (N := 44) hx hb hts kt_X6 hown hK hP 0 rfl rfl 26 (by decide) (kx_word hG kq_08_mgather_2 rfl) (fun _ h9 => h9) rfl dX6_take_67 ?_
              refine lv_iload hx hb dX6_take_70 (lv_at hl 0 rfl) ?_
              refine lv_aload_n hx hb dX6_take_72 rfl (lv_at hl 1 rfl) ?_
              refine va_get (D := (dC, dI)) (ci := 6) (v := .ref (ma 26)) (C := RX6) (T := TX6) (N := 44) hx hb hts kt_X6 hown hK hP 0 rfl rfl 26 (by decide) (kx_word hG kq_08_mgather_2 rfl) (fun _ h9 => h9) rfl dX6_take_73 ?_
              refine lv_iload hx hb dX6_take_76 (lv_at hl 0 rfl) ?_
              refine lv_iconst (v := iz 1) hx hb dX6_take_78 (by decide) ?_
              refine ki_isub hx hb dX6_take_79 ?_
              refine ki_iald (F := G 26) hx hb hK hP 21 20 rfl rfl (by omega) (by omega) (by decide) dX6_take_80 ?_
              refine ki_iast (F := G 26) hx hb hK hP hD hS 21 20 rfl rfl (by omega) (by omega) (by decide) dX6_take_81 (fun H locs hP hD hS => ?_)
              have hP : va_P (dC, dI) kxCl (mW mo ma cs I (va_up (va_up G 25 (upI (G 25) ap (G 25 (ap - 1)))) 26 (upI (G 26) ap (G 26 (ap - 1))))) H := hP
              have hD : va_D A (mW mo ma cs I (va_up (va_up G 25 (upI (G 25) ap (G 25 (ap - 1)))) 26 (upI (G 26) ap (G 26 (ap - 1))))) := hD
              refine lv_aload_n hx hb dX6_take_82 rfl (lv_at hl 1 rfl) ?_
              refine va_get (D := (dC, dI)) (ci := 6) (v := .ref (ma 27)) (C := RX6) (T := TX6) (N := 44) hx hb hts kt_X6 hown hK hP 0 rfl rfl 27 (by decide) (kx_word hG kq_08_mgather_3 rfl) (fun _ h9 => h9) rfl dX6_take_83 ?_
              refine lv_iload hx hb dX6_take_86 (lv_at hl 0 rfl) ?_
              refine lv_aload_n hx hb dX6_take_88 rfl (lv_at hl 1 rfl) ?_
              refine va_get (D := (dC, dI)) (ci := 6) (v := .ref (ma 27)) (C := RX6) (T := TX6) (N := 44) hx hb hts kt_X6 hown hK hP 0 rfl rfl 27 (by decide) (kx_word hG kq_08_mgather_3 rfl) (fun _ h9 => h9) rfl dX6_take_89 ?_
              refine lv_iload hx hb dX6_take_92 (lv_at hl 0 rfl) ?_
              refine lv_iconst (v := iz 1) hx hb dX6_take_94 (by decide) ?_
              refine ki_isub hx hb dX6_take_95 ?_
              refine ki_iald (F := G 27) hx hb hK hP 22 21 rfl rfl (by omega) (by omega) (by decide) dX6_take_96 ?_
              have hbd_14 := hBG.2 27 (ap - 1)
              refine ki_iast (F := G 27) hx hb hK hP hD hS 22 21 rfl rfl (by omega) (by omega) (by decide) dX6_take_97 (fun H locs hP hD hS => ?_)
              have hP : va_P (dC, dI) kxCl (mW mo ma cs I (va_up (va_up (va_up G 25 (upI (G 25) ap (G 25 (ap - 1)))) 26 (upI (G 26) ap (G 26 (ap - 1)))) 27 (upI (G 27) ap (G 27 (ap - 1))))) H := hP
              have hD : va_D A (mW mo ma cs I (va_up (va_up (va_up G 25 (upI (G 25) ap (G 25 (ap - 1)))) 26 (upI (G 26) ap (G 26 (ap - 1)))) 27 (upI (G 27) ap (G 27 (ap - 1))))) := hD
              refine lv_aload_n hx hb dX6_take_98 rfl (lv_at hl 1 rfl) ?_
              refine va_get (D := (dC, dI)) (ci := 6) (v := .ref (ma 28)) (C := RX6) (T := TX6) (N := 44) hx hb hts kt_X6 hown hK hP 0 rfl rfl 28 (by decide) (kx_word hG kq_08_mgather_4 rfl) (fun _ h9 => h9) rfl dX6_take_99 ?_
              refine lv_iload hx hb dX6_take_102 (lv_at hl 0 rfl) ?_
              refine lv_aload_n hx hb dX6_take_104 rfl (lv_at hl 1 rfl) ?_
              refine va_get (D := (dC, dI)) (ci := 6) (v := .ref (ma 28)) (C := RX6) (T := TX6) (N := 44) hx hb hts kt_X6 hown hK hP 0 rfl rfl 28 (by decide) (kx_word hG kq_08_mgather_4 rfl) (fun _ h9 => h9) rfl dX6_take_105 ?_
              refine lv_iload hx hb dX6_take_108 (lv_at hl 0 rfl) ?_
              refine lv_iconst (v := iz 1) hx hb dX6_take_110 (by decide) ?_
              refine ki_isub hx hb dX6_take_111 ?_
              refine ki_zald (F := G 28) hx hb hK hP 23 22 rfl rfl (by omega) (by omega) (by decide) dX6_take_112 ?_
              have hbd_15 := hBG.2 28 (ap - 1)
              refine ki_zast (F := G 28) hx hb hK hP hD hS 23 22 rfl rfl (by omega) (by omega) (by decide) dX6_take_113 (fun H locs hP hD hS => ?_)
              have hP : va_P (dC, dI) kxCl (mW mo ma cs I (va_up (va_up (va_up (va_up G 25 (upI (G 25) ap (G 25 (ap - 1)))) 26 (upI (G 26) ap (G 26 (ap - 1)))) 27 (upI (G 27) ap (G 27 (ap - 1)))) 28 (upI (G 28) ap (vp_nar .boolean (iz (G 28 (ap - 1)))).toInt))) H := hP
              have hD : va_D A (mW mo ma cs I (va_up (va_up (va_up (va_up G 25 (upI (G 25) ap (G 25 (ap - 1)))) 26 (upI (G 26) ap (G 26 (ap - 1)))) 27 (upI (G 27) ap (G 27 (ap - 1)))) 28 (upI (G 28) ap (vp_nar .boolean (iz (G 28 (ap - 1)))).toInt))) := hD
              refine lv_iinc (v := iz (ap + (-1))) (lv' := [(5, .int (iz (ap + (-1)))), (0, .ref mo), (1, .int (iz kd)), (2, .int (iz fr)), (3, .int (iz to)), (4, .int (iz rg))]) hx hb dX6_take_114 hl (k := 0) rfl (iz_add ap (-1)) (by decide) rfl (fun ls hl => ?_)
              refine lv_goto (tgt := 6) hx hb dX6_take_117 (by decide) ?_
              exact ih6 (ap + (-1)) (va_up (va_up (va_up (va_up G 25 (upI (G 25) ap (G 25 (ap - 1)))) 26 (upI (G 26) ap (G 26 (ap - 1)))) 27 (upI (G 27) ap (G 27 (ap - 1)))) 28 (upI (G 28) ap (vp_nar .boolean (iz (G 28 (ap - 1)))).toInt)) ⟨(mB_f (mB_f (mB_f (mB_f hBG 25 ap (by omega) (by omega)) 26 ap (by omega) (by omega)) 27 ap (by omega) (by omega)) 28 ap (iz_lo _) (iz_hi _)), (mfr.upF (mfr.upF (mfr.upF (mfr.upF hfG (by decide) _) (by decide) _) (by decide) _) (by decide) _), by omega, mGt.put (F := G) (i := ap) (a := G 26 (ap - 1)) (b := G 27 (ap - 1)) (fun j a b _ => hb1 j a b) rfl rfl (hb1 (ap - 1) (by omega) (by omega)), fun h => mGt.put1 (F := G) (i := ap) (a := G 26 (ap - 1)) (b := G 27 (ap - 1)) (fun h9 => hb2 (by omega)) rfl rfl (hb1 (ap - 1) (by omega) (by omega))⟩ (by omega) _ _ hP hD hS ls (lv_sub hl [0, 1, 2, 3, 4, 5] rfl)
  exact lp6 _ (I 29) F ⟨hB, mfr.rf, by omega, hgt, fun h => absurd h (by omega)⟩ (Nat.lt_succ_self _) _ _ hP hD hS ls (lv_sub hl [0, 1, 2, 3, 4, 5] rfl)
set_option maxHeartbeats 4000000 in
set_option maxRecDepth 100000 in
theorem k_gather (l : Launch) (dC : Nat → ClassId) (dI : Nat → Nat → Nat) (mo : Nat) (ma : Nat → Nat) (cs : Nat → ClassId) (I : Nat → Int) (F : Nat → Int → Int) (p0 : Int) (sz : Nat) (hB : mB I F) (hc : 0 ≤ I 1 ∧ I 1 ≤ 64) (hln : ∀ e, 0 ≤ F 10 e ∧ 0 ≤ F 11 e ∧ F 11 e ≤ 99999 ∧ F 10 e + (if 0 < F 11 e then 1 else 0) ≤ 20) (hmf : mFt F) (hp01 : -2147483648 ≤ p0) (hp02 : p0 < 2147483648) : mMv l yX6_gather (.code yX6_gather cX6_gather 4 none) 1 25 dC dI mo ma cs I F [.ref mo, .int (iz p0)] sz (fun (I' : Nat → Int) (F' : Nat → Int → Int) => mB I' F' ∧ mfr [29] [25, 26, 27, 28] I F I' F' ∧ (0 ≤ I' 29 ∧ I' 29 ≤ 1600) ∧ mGt (I' 29) F') := by
  refine Met.ofW (cc := cX6_gather) (maxL := 4) (ret := none) (by decide) rfl ?_
  intro p e s m args below meth c s₁ B hml hv
  obtain ⟨rfl, hsz, hP, hK, hD0, hG, hZ⟩ := hv
  have hx := B.exec
  have hb := B.bytes
  have hr := B.returns
  have hts := kx_hts (a := ([.ref mo, .int (iz p0)] : List Value).toArray) hG
  have hown : s.vm.findClass RX6 = some m.cls := findClass_of_methodNamed B.named
  have hlocks := B.notSynchronized
  subst hsz
  have hD := hD0.self (sz := s.heap.size)
  generalize hAe : va_A (mW mo ma cs I F) s.heap.size = A at hD hZ ⊢
  have hA : ∀ q : Nat, s.heap.size ≤ q → A q := fun q h => by rw [← hAe]; exact Or.inr h
  have hS : va_S A s.heap s.heap [] := va_S.rf
  have hl := lv_entry ([.ref mo, .int (iz p0)]) (n := 4) (Nat.le_of_ble_eq_true rfl)
  rw [lg_entry_eq]
  generalize (lg_sl ([.ref mo, .int (iz p0)]) ++ List.replicate (4 - (lg_sl ([.ref mo, .int (iz p0)])).length) Slot.unset).toArray = ls at hl ⊢
  have hl : lv_has ls 4 [(0, .ref mo), (1, .int (iz p0))] := hl
  generalize hQe : MQ below (mQv dC dI mo ma cs A (fun (I' : Nat → Int) (F' : Nat → Int → Int) => mB I' F' ∧ mfr [29] [25, 26, 27, 28] I F I' F' ∧ (0 ≤ I' 29 ∧ I' 29 ≤ 1600) ∧ mGt (I' 29) F')) ([.ref mo, .int (iz p0)] : List Value).toArray s 0 0 A = QQ
  refine lv_aload_n hx hb dX6_gather_0 rfl (lv_at hl 0 rfl) ?_
  refine lv_iconst (v := iz 0) hx hb dX6_gather_1 (by decide) ?_
  refine va_put (D := (dC, dI)) (ci := 6) (v := .int (iz 0)) (ty := .int) (C := RX6) (T := TX6) (N := 44) hx hb hts kt_X6 tyX6 tyX6_ok nmX6 hown hK hP hD hS 0 rfl rfl 29 (by decide) (kx_word hG kq_08_mgather_0 rfl) (fun _ h9 => h9) rfl (by decide +kernel) rfl rfl (Nat.le_of_ble_eq_true rfl) dX6_gather_2 (fun H locs hP hD hS => ?_)
  have hP : va_P (dC, dI) kxCl (mW mo ma cs (va_up I 29 0) F) H := hP
  have hD : va_D A (mW mo ma cs (va_up I 29 0) F) := hD
  refine lv_iconst (v := iz 0) hx hb dX6_gather_5 (by decide) ?_
  refine lv_istore_n (lv' := [(2, .int (iz 0)), (0, .ref mo), (1, .int (iz p0))]) hx hb dX6_gather_6 rfl hl (by decide) rfl (fun ls hl => ?_)
  have lp7 : ∀ (n : Nat) (ev : Int) (J : Nat → Int) (G : Nat → Int → Int), ((mB J G) ∧ (mfr [29] [25, 26, 27, 28] I F J G) ∧ (0 ≤ ev ∧ ev ≤ I 1) ∧ (0 ≤ J 29 ∧ J 29 ≤ 20 * ev) ∧ (mGt (J 29) G)) → (I 1 - ev).toNat < n → ∀ (H : Heap) (locs : List Loc), va_P (dC, dI) kxCl (mW mo ma cs J G) H → va_D A (mW mo ma cs J G) → va_S A s.heap H locs → ∀ ls : Array Slot, lv_has ls 4 [(2, .int (iz ev)), (0, .ref mo), (1, .int (iz p0))] → W p l e (headSpec [.code yX6_gather cX6_gather 4 none] ({ frames := 1, cells := 0, slots := 0, locals := 25 })).room s m ([.ref mo, .int (iz p0)] : List Value).toArray below meth c H locs 0 0 QQ (F0 m 7 ls []) := by
    intro n
    induction n with
    | zero => intro ev J G hinv hm; exact absurd hm (Nat.not_lt_zero _)
    | succ n ih7 =>
      intro ev J G hinv hm H locs hP hD hS ls hl
      obtain ⟨hBJ, hfJ, hev, hgo, hgt⟩ := hinv
      have e1 := hfJ.1 1 (by decide)
      have hle := hln ev
      have p10 := congrFun (hfJ.2 10 (by decide)) ev
      have p11 := congrFun (hfJ.2 11 (by decide)) ev
      refine lv_iload_n hx hb dX6_gather_7 rfl (lv_at hl 0 rfl) ?_
      refine lv_aload_n hx hb dX6_gather_8 rfl (lv_at hl 1 rfl) ?_
      refine va_get (D := (dC, dI)) (ci := 6) (v := .int (iz (J 1))) (C := RX6) (T := TX6) (N := 44) hx hb hts kt_X6 hown hK hP 0 rfl rfl 1 (by decide) (kx_word hG kq_04_msmall_1 rfl) (fun _ h9 => h9) rfl dX6_gather_9 ?_
      have hbd_1 := hBJ.1 1
      refine ki_icmp_ge (tgt := 112) hx hb dX6_gather_12 (by decide) (by omega) (by omega) (by omega) (by omega) (fun c_2 => ?_) (fun c_2 => ?_)
      · skip
        rw [← hQe]
        exact mk_ret hx hb hr hlocks hP hD hK hS dX6_gather_112 (⟨hBJ, hfJ, by omega, hgt⟩)
      · skip
        refine lv_aload_n hx hb dX6_gather_15 rfl (lv_at hl 1 rfl) ?_
        refine va_get (D := (dC, dI)) (ci := 6) (v := .ref (ma 17)) (C := RX6) (T := TX6) (N := 44) hx hb hts kt_X6 hown hK hP 0 rfl rfl 17 (by decide) (kx_word hG kq_06_mway_15 rfl) (fun _ h9 => h9) rfl dX6_gather_16 ?_
        refine lv_iload_n hx hb dX6_gather_19 rfl (lv_at hl 0 rfl) ?_
        refine ki_iald (F := G 17) hx hb hK hP 13 12 rfl rfl (by omega) (by omega) (by decide) dX6_gather_20 ?_
        have hbd_3 := hBJ.2 17 ev
        refine lv_iload_n hx hb dX6_gather_21 rfl (lv_at hl 2 rfl) ?_
        refine ki_icmp_ne (tgt := 106) hx hb dX6_gather_22 (by decide) (by omega) (by omega) (by omega) (by omega) (fun c_4 => ?_) (fun c_4 => ?_)
        · skip
          refine lv_iinc (v := iz (ev + 1)) (lv' := [(2, .int (iz (ev + 1))), (0, .ref mo), (1, .int (iz p0))]) hx hb dX6_gather_106 hl (k := 0) rfl (iz_add ev 1) (by decide) rfl (fun ls hl => ?_)
          refine lv_goto (tgt := 7) hx hb dX6_gather_109 (by decide) ?_
          exact ih7 (ev + 1) J G ⟨hBJ, hfJ, by omega, by omega, hgt⟩ (by omega) _ _ hP hD hS ls (lv_sub hl [0, 1, 2] rfl)
        · skip
          refine lv_bipush (v := iz 20) hx hb dX6_gather_25 (by decide) ?_
          refine lv_iload_n hx hb dX6_gather_27 rfl (lv_at hl 0 rfl) ?_
          refine ki_imul hx hb dX6_gather_28 ?_
          refine lv_istore_n (lv' := [(3, .int (iz (20 * ev))), (2, .int (iz ev)), (0, .ref mo), (1, .int (iz p0))]) hx hb dX6_gather_29 rfl hl (by decide) rfl (fun ls hl => ?_)
          have lp30 : ∀ (n : Nat) (k : Int) (J1 : Nat → Int) (G1 : Nat → Int → Int), ((mB J1 G1) ∧ (mfr [29] [25, 26, 27, 28] I F J1 G1) ∧ (20 * ev ≤ k ∧ k ≤ 20 * ev + F 10 ev) ∧ (0 ≤ J1 29 ∧ J1 29 ≤ k) ∧ (mGt (J1 29) G1)) → (20 * ev + F 10 ev - k).toNat < n → ∀ (H : Heap) (locs : List Loc), va_P (dC, dI) kxCl (mW mo ma cs J1 G1) H → va_D A (mW mo ma cs J1 G1) → va_S A s.heap H locs → ∀ ls : Array Slot, lv_has ls 4 [(3, .int (iz k)), (2, .int (iz ev)), (0, .ref mo), (1, .int (iz p0))] → W p l e (headSpec [.code yX6_gather cX6_gather 4 none] ({ frames := 1, cells := 0, slots := 0, locals := 25 })).room s m ([.ref mo, .int (iz p0)] : List Value).toArray below meth c H locs 0 0 QQ (F0 m 30 ls []) := by
            intro n
            induction n with
            | zero => intro k J1 G1 hinv hm; exact absurd hm (Nat.not_lt_zero _)
            | succ n ih30 =>
              intro k J1 G1 hinv hm H locs hP hD hS ls hl
              obtain ⟨hB1, hf1, hk, hg1, hgt1⟩ := hinv
              have q10 := congrFun (hf1.2 10 (by decide)) ev
              have q11 := congrFun (hf1.2 11 (by decide)) ev
              have q7 := congrFun (hf1.2 7 (by decide)) k
              have q8 := congrFun (hf1.2 8 (by decide)) k
              have hmk := hmf k
              refine lv_iload_n hx hb dX6_gather_30 rfl (lv_at hl 0 rfl) ?_
              refine lv_bipush (v := iz 20) hx hb dX6_gather_31 (by decide) ?_
              refine lv_iload_n hx hb dX6_gather_33 rfl (lv_at hl 1 rfl) ?_
              refine ki_imul hx hb dX6_gather_34 ?_
              refine lv_aload_n hx hb dX6_gather_35 rfl (lv_at hl 2 rfl) ?_
              refine va_get (D := (dC, dI)) (ci := 6) (v := .ref (ma 10)) (C := RX6) (T := TX6) (N := 44) hx hb hts kt_X6 hown hK hP 0 rfl rfl 10 (by decide) (kx_word hG kq_04_msmall_22 rfl) (fun _ h9 => h9) rfl dX6_gather_36 ?_
              refine lv_iload_n hx hb dX6_gather_39 rfl (lv_at hl 1 rfl) ?_
              refine ki_iald (F := G1 10) hx hb hK hP 9 8 rfl rfl (by omega) (by omega) (by decide) dX6_gather_40 ?_
              have hbd_5 := hB1.2 10 ev
              refine ki_iadd hx hb dX6_gather_41 ?_
              refine ki_icmp_ge (tgt := 79) hx hb dX6_gather_42 (by decide) (by omega) (by omega) (by omega) (by omega) (fun c_6 => ?_) (fun c_6 => ?_)
              · skip
                refine lv_aload_n hx hb dX6_gather_79 rfl (lv_at hl 2 rfl) ?_
                refine va_get (D := (dC, dI)) (ci := 6) (v := .ref (ma 11)) (C := RX6) (T := TX6) (N := 44) hx hb hts kt_X6 hown hK hP 0 rfl rfl 11 (by decide) (kx_word hG kq_04_msmall_21 rfl) (fun _ h9 => h9) rfl dX6_gather_80 ?_
                refine lv_iload_n hx hb dX6_gather_83 rfl (lv_at hl 1 rfl) ?_
                refine ki_iald (F := G1 11) hx hb hK hP 10 9 rfl rfl (by omega) (by omega) (by decide) dX6_gather_84 ?_
                have hbd_7 := hB1.2 11 ev
                refine ki_if_le (tgt := 106) hx hb dX6_gather_85 (by decide) (by omega) (by omega) (fun c_8 => ?_) (fun c_8 => ?_)
                · skip
                  refine lv_iinc (v := iz (ev + 1)) (lv' := [(2, .int (iz (ev + 1))), (3, .int (iz k)), (0, .ref mo), (1, .int (iz p0))]) hx hb dX6_gather_106 hl (k := 1) rfl (iz_add ev 1) (by decide) rfl (fun ls hl => ?_)
                  refine lv_goto (tgt := 7) hx hb dX6_gather_109 (by decide) ?_
                  exact ih7 (ev + 1) J1 G1 ⟨hB1, hf1, by omega, by omega, hgt1⟩ (by omega) _ _ hP hD hS ls (lv_sub hl [0, 2, 3] rfl)
                · skip
                  refine lv_aload_n hx hb dX6_gather_88 rfl (lv_at hl 2 rfl) ?_
                  refine lv_iconst (v := iz 1) hx hb dX6_gather_89 (by decide) ?_
                  refine lv_aload_n hx hb dX6_gather_90 rfl (lv_at hl 2 rfl) ?_
                  refine va_get (D := (dC, dI)) (ci := 6) (v := .ref (ma 11)) (C := RX6) (T := TX6) (N := 44) hx hb hts kt_X6 hown hK hP 0 rfl rfl 11 (by decide) (kx_word hG kq_04_msmall_21 rfl) (fun _ h9 => h9) rfl dX6_gather_91 ?_
                  refine lv_iload_n hx hb dX6_gather_94 rfl (lv_at hl 1 rfl) ?_
                  refine ki_iald (F := G1 11) hx hb hK hP 10 9 rfl rfl (by omega) (by omega) (by decide) dX6_gather_95 ?_
                  refine lv_aload_n hx hb dX6_gather_96 rfl (lv_at hl 2 rfl) ?_
                  refine va_get (D := (dC, dI)) (ci := 6) (v := .ref (ma 11)) (C := RX6) (T := TX6) (N := 44) hx hb hts kt_X6 hown hK hP 0 rfl rfl 11 (by decide) (kx_word hG kq_04_msmall_21 rfl) (fun _ h9 => h9) rfl dX6_gather_97 ?_
                  refine lv_iload_n hx hb dX6_gather_100 rfl (lv_at hl 1 rfl) ?_
                  refine ki_iald (F := G1 11) hx hb hK hP 10 9 rfl rfl (by omega) (by omega) (by decide) dX6_gather_101 ?_
                  refine lv_iconst (v := iz 0) hx hb dX6_gather_102 (by decide) ?_
                  refine mk_callv (As := [.int (iz 1), .int (iz (G1 11 ev)), .int (iz (G1 11 ev)), .int (iz 0)]) (rest := []) ⟨hx, hb, hml, hown, hts⟩ (k_take l dC dI mo ma cs J1 G1 1 (G1 11 ev) (G1 11 ev) 0 H.size hB1 (by split at hle <;> omega) hgt1 (by omega) (by omega) (by omega)) (cwV 4 hts (kx_gV kq_08_mgather_5 kq_08_mgather_6 kq_08_mgather_7 kq_04_msmall_6 kq_08_mgather_8 rfl) rfl rfl rfl (by decide +kernel) ⟨Nat.le_of_ble_eq_true rfl, Nat.le_of_ble_eq_true rfl⟩) hP hD hK hG hZ hS hA rfl hl.1 rfl (Nat.le_of_ble_eq_true rfl) dX6_gather_103 ⟨Nat.le_of_ble_eq_true rfl, Nat.le_of_ble_eq_true rfl⟩ (fun I_11 F_12 H locs hq_10 hP hD hS => ?_)
                  try dsimp only at hq_10
                  obtain ⟨rfl, hB13, hf13, hg13⟩ := hq_10
                  refine lv_iinc (v := iz (ev + 1)) (lv' := [(2, .int (iz (ev + 1))), (3, .int (iz k)), (0, .ref mo), (1, .int (iz p0))]) hx hb dX6_gather_106 hl (k := 1) rfl (iz_add ev 1) (by decide) rfl (fun ls hl => ?_)
                  refine lv_goto (tgt := 7) hx hb dX6_gather_109 (by decide) ?_
                  exact ih7 (ev + 1) (va_up J1 29 ((J1 29) + 1)) F_12 ⟨hB13, (mfr.upI (hf1.tr (hf13.mono (by decide) (by decide))) (k := 29) (by decide) _), by omega, by rw [show (va_up J1 29 ((J1 29) + 1)) 29 = J1 29 + 1 from va_up_self _ _ _]; omega, by rw [show (va_up J1 29 ((J1 29) + 1)) 29 = J1 29 + 1 from va_up_self _ _ _]; exact hg13⟩ (by omega) _ _ hP hD hS ls (lv_sub hl [0, 2, 3] rfl)
              · skip
                refine lv_aload_n hx hb dX6_gather_45 rfl (lv_at hl 2 rfl) ?_
                refine lv_aload_n hx hb dX6_gather_46 rfl (lv_at hl 2 rfl) ?_
                refine va_get (D := (dC, dI)) (ci := 6) (v := .ref (ma 6)) (C := RX6) (T := TX6) (N := 44) hx hb hts kt_X6 hown hK hP 0 rfl rfl 6 (by decide) (kx_word hG kq_04_msmall_23 rfl) (fun _ h9 => h9) rfl dX6_gather_47 ?_
                refine lv_iload_n hx hb dX6_gather_50 rfl (lv_at hl 0 rfl) ?_
                refine ki_iald (F := G1 6) hx hb hK hP 5 4 rfl rfl (by omega) (by omega) (by decide) dX6_gather_51 ?_
                have hbd_14 := hB1.2 6 k
                refine lv_aload_n hx hb dX6_gather_52 rfl (lv_at hl 2 rfl) ?_
                refine va_get (D := (dC, dI)) (ci := 6) (v := .ref (ma 7)) (C := RX6) (T := TX6) (N := 44) hx hb hts kt_X6 hown hK hP 0 rfl rfl 7 (by decide) (kx_word hG kq_04_msmall_24 rfl) (fun _ h9 => h9) rfl dX6_gather_53 ?_
                refine lv_iload_n hx hb dX6_gather_56 rfl (lv_at hl 0 rfl) ?_
                refine ki_iald (F := G1 7) hx hb hK hP 6 5 rfl rfl (by omega) (by omega) (by decide) dX6_gather_57 ?_
                have hbd_15 := hB1.2 7 k
                refine lv_aload_n hx hb dX6_gather_58 rfl (lv_at hl 2 rfl) ?_
                refine va_get (D := (dC, dI)) (ci := 6) (v := .ref (ma 8)) (C := RX6) (T := TX6) (N := 44) hx hb hts kt_X6 hown hK hP 0 rfl rfl 8 (by decide) (kx_word hG kq_04_msmall_25 rfl) (fun _ h9 => h9) rfl dX6_gather_59 ?_
                refine lv_iload_n hx hb dX6_gather_62 rfl (lv_at hl 0 rfl) ?_
                refine ki_iald (F := G1 8) hx hb hK hP 7 6 rfl rfl (by omega) (by omega) (by decide) dX6_gather_63 ?_
                have hbd_16 := hB1.2 8 k
                refine lv_aload_n hx hb dX6_gather_64 rfl (lv_at hl 2 rfl) ?_
                refine va_get (D := (dC, dI)) (ci := 6) (v := .ref (ma 9)) (C := RX6) (T := TX6) (N := 44) hx hb hts kt_X6 hown hK hP 0 rfl rfl 9 (by decide) (kx_word hG kq_04_msmall_26 rfl) (fun _ h9 => h9) rfl dX6_gather_65 ?_
                refine lv_iload_n hx hb dX6_gather_68 rfl (lv_at hl 0 rfl) ?_
                refine ki_zald (F := G1 9) hx hb hK hP 8 7 rfl rfl (by omega) (by omega) (by decide) dX6_gather_69 ?_
                have hbd_17 := hB1.2 9 k
                refine mk_callv (As := [.int (iz (G1 6 k)), .int (iz (G1 7 k)), .int (iz (G1 8 k)), .int (iz (G1 9 k))]) (rest := []) ⟨hx, hb, hml, hown, hts⟩ (k_take l dC dI mo ma cs J1 G1 (G1 6 k) (G1 7 k) (G1 8 k) (G1 9 k) H.size hB1 (by split at hle <;> omega) hgt1 (by omega) (by omega) (by omega)) (cwV 4 hts (kx_gV kq_08_mgather_5 kq_08_mgather_6 kq_08_mgather_7 kq_04_msmall_6 kq_08_mgather_8 rfl) rfl rfl rfl (by decide +kernel) ⟨Nat.le_of_ble_eq_true rfl, Nat.le_of_ble_eq_true rfl⟩) hP hD hK hG hZ hS hA rfl hl.1 rfl (Nat.le_of_ble_eq_true rfl) dX6_gather_70 ⟨Nat.le_of_ble_eq_true rfl, Nat.le_of_ble_eq_true rfl⟩ (fun I_20 F_21 H locs hq_19 hP hD hS => ?_)
                try dsimp only at hq_19
                obtain ⟨rfl, hB22, hf22, hg22⟩ := hq_19
                refine lv_iinc (v := iz (k + 1)) (lv' := [(3, .int (iz (k + 1))), (2, .int (iz ev)), (0, .ref mo), (1, .int (iz p0))]) hx hb dX6_gather_73 hl (k := 0) rfl (iz_add k 1) (by decide) rfl (fun ls hl => ?_)
                refine lv_goto (tgt := 30) hx hb dX6_gather_76 (by decide) ?_
                exact ih30 (k + 1) (va_up J1 29 ((J1 29) + 1)) F_21 ⟨hB22, (mfr.upI (hf1.tr (hf22.mono (by decide) (by decide))) (k := 29) (by decide) _), by omega, by rw [show (va_up J1 29 ((J1 29) + 1)) 29 = J1 29 + 1 from va_up_self _ _ _]; omega, by rw [show (va_up J1 29 ((J1 29) + 1)) 29 = J1 29 + 1 from va_up_self _ _ _]; exact hg22⟩ (by omega) _ _ hP hD hS ls (lv_sub hl [0, 1, 2, 3] rfl)
          exact lp30 _ (20 * ev) J G ⟨hBJ, hfJ, by omega, by omega, hgt⟩ (Nat.lt_succ_self _) _ _ hP hD hS ls (lv_sub hl [0, 1, 2, 3] rfl)
  exact lp7 _ 0 (va_up I 29 0) F ⟨(mB_i hB 29 (by omega) (by omega)), (mfr.upI mfr.rf (by decide) _), by omega, by rw [show (va_up I 29 0) 29 = 0 from rfl]; omega, fun j a b => absurd (show j < 0 from b) (by omega)⟩ (Nat.lt_succ_self _) _ _ hP hD hS ls (lv_sub hl [0, 1, 2] rfl)
set_option maxHeartbeats 4000000 in
set_option maxRecDepth 100000 in
theorem k_hasPage (l : Launch) (dC : Nat → ClassId) (dI : Nat → Nat → Nat) (mo : Nat) (ma : Nat → Nat) (cs : Nat → ClassId) (I : Nat → Int) (F : Nat → Int → Int) (p0 : Int) (sz : Nat) (hB : mB I F) (hc : 0 ≤ I 1 ∧ I 1 ≤ 64) (hln : ∀ e, 0 ≤ F 10 e ∧ 0 ≤ F 11 e ∧ F 11 e ≤ 99999 ∧ F 10 e + (if 0 < F 11 e then 1 else 0) ≤ 20) (hp01 : -2147483648 ≤ p0) (hp02 : p0 < 2147483648) : mMi l yX6_hasPage (.code yX6_hasPage cX6_hasPage 4 (some .boolean)) 1 21 dC dI mo ma cs I F [.ref mo, .int (iz p0)] sz (fun (r : Int) (I' : Nat → Int) (F' : Nat → Int → Int) => I = I' ∧ F = F' ∧ (r = 0 ∨ r = 1)) := by
  refine Met.ofW (cc := cX6_hasPage) (maxL := 4) (ret := (some .boolean)) (by decide) rfl ?_
  intro p e s m args below meth c s₁ B hml hv
  obtain ⟨rfl, hsz, hP, hK, hD0, hG, hZ⟩ := hv
  have hx := B.exec
  have hb := B.bytes
  have hr := B.returns
  have hts := kx_hts (a := ([.ref mo, .int (iz p0)] : List Value).toArray) hG
  have hown : s.vm.findClass RX6 = some m.cls := findClass_of_methodNamed B.named
  have hlocks := B.notSynchronized
  subst hsz
  have hD := hD0.self (sz := s.heap.size)
  generalize hAe : va_A (mW mo ma cs I F) s.heap.size = A at hD hZ ⊢
  have hA : ∀ q : Nat, s.heap.size ≤ q → A q := fun q h => by rw [← hAe]; exact Or.inr h
  have hS : va_S A s.heap s.heap [] := va_S.rf
  have hl := lv_entry ([.ref mo, .int (iz p0)]) (n := 4) (Nat.le_of_ble_eq_true rfl)
  rw [lg_entry_eq]
  generalize (lg_sl ([.ref mo, .int (iz p0)]) ++ List.replicate (4 - (lg_sl ([.ref mo, .int (iz p0)])).length) Slot.unset).toArray = ls at hl ⊢
  have hl : lv_has ls 4 [(0, .ref mo), (1, .int (iz p0))] := hl
  generalize hQe : MQ below (mQi dC dI mo ma cs A (fun (r : Int) (I' : Nat → Int) (F' : Nat → Int → Int) => I = I' ∧ F = F' ∧ (r = 0 ∨ r = 1))) ([.ref mo, .int (iz p0)] : List Value).toArray s 0 0 A = QQ
  refine lv_iconst (v := iz 0) hx hb dX6_hasPage_0 (by decide) ?_
  refine lv_istore_n (lv' := [(2, .int (iz 0)), (0, .ref mo), (1, .int (iz p0))]) hx hb dX6_hasPage_1 rfl hl (by decide) rfl (fun ls hl => ?_)
  refine lv_iconst (v := iz 0) hx hb dX6_hasPage_2 (by decide) ?_
  refine lv_istore_n (lv' := [(3, .int (iz 0)), (2, .int (iz 0)), (0, .ref mo), (1, .int (iz p0))]) hx hb dX6_hasPage_3 rfl hl (by decide) rfl (fun ls hl => ?_)
  have lp4 : ∀ (n : Nat) (ha ev : Int), ((ha = 0 ∨ ha = 1) ∧ (0 ≤ ev ∧ ev ≤ I 1)) → (I 1 - ev).toNat < n → ∀ (H : Heap) (locs : List Loc), va_P (dC, dI) kxCl (mW mo ma cs I F) H → va_D A (mW mo ma cs I F) → va_S A s.heap H locs → ∀ ls : Array Slot, lv_has ls 4 [(3, .int (iz ev)), (2, .int (iz ha)), (0, .ref mo), (1, .int (iz p0))] → W p l e (headSpec [.code yX6_hasPage cX6_hasPage 4 (some .boolean)] ({ frames := 1, cells := 0, slots := 0, locals := 21 })).room s m ([.ref mo, .int (iz p0)] : List Value).toArray below meth c H locs 0 0 QQ (F0 m 4 ls []) := by
    intro n
    induction n with
    | zero => intro ha ev hinv hm; exact absurd hm (Nat.not_lt_zero _)
    | succ n ih4 =>
      intro ha ev hinv hm H locs hP hD hS ls hl
      obtain ⟨hha, hev⟩ := hinv
      refine lv_iload_n hx hb dX6_hasPage_4 rfl (lv_at hl 0 rfl) ?_
      refine lv_aload_n hx hb dX6_hasPage_5 rfl (lv_at hl 2 rfl) ?_
      refine va_get (D := (dC, dI)) (ci := 6) (v := .int (iz (I 1))) (C := RX6) (T := TX6) (N := 44) hx hb hts kt_X6 hown hK hP 0 rfl rfl 1 (by decide) (kx_word hG kq_04_msmall_1 rfl) (fun _ h9 => h9) rfl dX6_hasPage_6 ?_
      have hbd_1 := hB.1 1
      refine ki_icmp_ge (tgt := 46) hx hb dX6_hasPage_9 (by decide) (by omega) (by omega) (by omega) (by omega) (fun c_2 => ?_) (fun c_2 => ?_)
      · skip
        refine lv_iload_n hx hb dX6_hasPage_46 rfl (lv_at hl 1 rfl) ?_
        rw [← hQe]
        exact mk_iretz hx hb hr hlocks hP hD hK hS dX6_hasPage_47 (by omega) (⟨rfl, rfl, by omega⟩)
      · skip
        refine lv_iload_n hx hb dX6_hasPage_12 rfl (lv_at hl 1 rfl) ?_
        refine ki_if_ne (tgt := 34) hx hb dX6_hasPage_13 (by decide) (by omega) (by omega) (fun c_3 => ?_) (fun c_3 => ?_)
        · skip
          refine lv_iconst (v := iz 1) hx hb dX6_hasPage_34 (by decide) ?_
          refine lv_goto (tgt := 39) hx hb dX6_hasPage_35 (by decide) ?_
          refine lv_istore_n (lv' := [(2, .int (iz 1)), (3, .int (iz ev)), (0, .ref mo), (1, .int (iz p0))]) hx hb dX6_hasPage_39 rfl hl (by decide) rfl (fun ls hl => ?_)
          refine lv_iinc (v := iz (ev + 1)) (lv' := [(3, .int (iz (ev + 1))), (2, .int (iz 1)), (0, .ref mo), (1, .int (iz p0))]) hx hb dX6_hasPage_40 hl (k := 1) rfl (iz_add ev 1) (by decide) rfl (fun ls hl => ?_)
          refine lv_goto (tgt := 4) hx hb dX6_hasPage_43 (by decide) ?_
          exact ih4 1 (ev + 1) ⟨by omega, by omega⟩ (by omega) _ _ hP hD hS ls (lv_sub hl [0, 1, 2, 3] rfl)
        · skip
          refine lv_aload_n hx hb dX6_hasPage_16 rfl (lv_at hl 2 rfl) ?_
          refine va_get (D := (dC, dI)) (ci := 6) (v := .ref (ma 17)) (C := RX6) (T := TX6) (N := 44) hx hb hts kt_X6 hown hK hP 0 rfl rfl 17 (by decide) (kx_word hG kq_06_mway_15 rfl) (fun _ h9 => h9) rfl dX6_hasPage_17 ?_
          refine lv_iload_n hx hb dX6_hasPage_20 rfl (lv_at hl 0 rfl) ?_
          refine ki_iald (F := F 17) hx hb hK hP 13 12 rfl rfl (by omega) (by omega) (by decide) dX6_hasPage_21 ?_
          have hbd_4 := hB.2 17 ev
          refine lv_iload_n hx hb dX6_hasPage_22 rfl (lv_at hl 3 rfl) ?_
          refine ki_icmp_ne (tgt := 38) hx hb dX6_hasPage_23 (by decide) (by omega) (by omega) (by omega) (by omega) (fun c_5 => ?_) (fun c_5 => ?_)
          · skip
            refine lv_iconst (v := iz 0) hx hb dX6_hasPage_38 (by decide) ?_
            refine lv_istore_n (lv' := [(2, .int (iz 0)), (3, .int (iz ev)), (0, .ref mo), (1, .int (iz p0))]) hx hb dX6_hasPage_39 rfl hl (by decide) rfl (fun ls hl => ?_)
            refine lv_iinc (v := iz (ev + 1)) (lv' := [(3, .int (iz (ev + 1))), (2, .int (iz 0)), (0, .ref mo), (1, .int (iz p0))]) hx hb dX6_hasPage_40 hl (k := 1) rfl (iz_add ev 1) (by decide) rfl (fun ls hl => ?_)
            refine lv_goto (tgt := 4) hx hb dX6_hasPage_43 (by decide) ?_
            exact ih4 0 (ev + 1) ⟨by omega, by omega⟩ (by omega) _ _ hP hD hS ls (lv_sub hl [0, 1, 2, 3] rfl)
          · skip
            refine lv_aload_n hx hb dX6_hasPage_26 rfl (lv_at hl 2 rfl) ?_
            refine lv_iload_n hx hb dX6_hasPage_27 rfl (lv_at hl 0 rfl) ?_
            refine mk_calli (As := [.int (iz ev)]) (rest := []) ⟨hx, hb, hml, hown, hts⟩ (k_toldOf l dC dI mo ma cs I F ev H.size hB (by omega)) (cwV 1 hts (kx_gV kq_04_msmall_27 kq_04_msmall_28 kq_04_msmall_29 kq_04_msmall_6 kq_04_msmall_30 rfl) rfl rfl rfl (by decide +kernel) ⟨Nat.le_of_ble_eq_true rfl, Nat.le_of_ble_eq_true rfl⟩) hP hD hK hG hZ hS hA rfl hl.1 rfl (Nat.le_of_ble_eq_true rfl) dX6_hasPage_28 ⟨Nat.le_of_ble_eq_true rfl, Nat.le_of_ble_eq_true rfl⟩ (fun z_6 I_8 F_9 H locs hq_7 hP hD hS => ?_)
            try dsimp only at hq_7
            obtain ⟨rfl, rfl, hq_7⟩ := hq_7
            have h9 := hln ev
            refine ki_if_le (tgt := 38) hx hb dX6_hasPage_31 (by decide) (by omega) (by omega) (fun c_10 => ?_) (fun c_10 => ?_)
            · skip
              refine lv_iconst (v := iz 0) hx hb dX6_hasPage_38 (by decide) ?_
              refine lv_istore_n (lv' := [(2, .int (iz 0)), (3, .int (iz ev)), (0, .ref mo), (1, .int (iz p0))]) hx hb dX6_hasPage_39 rfl hl (by decide) rfl (fun ls hl => ?_)
              refine lv_iinc (v := iz (ev + 1)) (lv' := [(3, .int (iz (ev + 1))), (2, .int (iz 0)), (0, .ref mo), (1, .int (iz p0))]) hx hb dX6_hasPage_40 hl (k := 1) rfl (iz_add ev 1) (by decide) rfl (fun ls hl => ?_)
              refine lv_goto (tgt := 4) hx hb dX6_hasPage_43 (by decide) ?_
              exact ih4 0 (ev + 1) ⟨by omega, by omega⟩ (by omega) _ _ hP hD hS ls (lv_sub hl [0, 1, 2, 3] rfl)
            · skip
              refine lv_iconst (v := iz 1) hx hb dX6_hasPage_34 (by decide) ?_
              refine lv_goto (tgt := 39) hx hb dX6_hasPage_35 (by decide) ?_
              refine lv_istore_n (lv' := [(2, .int (iz 1)), (3, .int (iz ev)), (0, .ref mo), (1, .int (iz p0))]) hx hb dX6_hasPage_39 rfl hl (by decide) rfl (fun ls hl => ?_)
              refine lv_iinc (v := iz (ev + 1)) (lv' := [(3, .int (iz (ev + 1))), (2, .int (iz 1)), (0, .ref mo), (1, .int (iz p0))]) hx hb dX6_hasPage_40 hl (k := 1) rfl (iz_add ev 1) (by decide) rfl (fun ls hl => ?_)
              refine lv_goto (tgt := 4) hx hb dX6_hasPage_43 (by decide) ?_
              exact ih4 1 (ev + 1) ⟨by omega, by omega⟩ (by omega) _ _ hP hD hS ls (lv_sub hl [0, 1, 2, 3] rfl)
  exact lp4 _ 0 0 ⟨by omega, by omega⟩ (Nat.lt_succ_self _) _ _ hP hD hS ls (lv_sub hl [0, 1, 2, 3] rfl)
set_option maxHeartbeats 4000000 in
set_option maxRecDepth 100000 in
theorem k_isBare (l : Launch) (dC : Nat → ClassId) (dI : Nat → Nat → Nat) (mo : Nat) (ma : Nat → Nat) (cs : Nat → ClassId) (I : Nat → Int) (F : Nat → Int → Int) (p0 : Int) (sz : Nat) (hB : mB I F) (hc : 0 ≤ I 1 ∧ I 1 ≤ 64) (hln : ∀ e, 0 ≤ F 10 e ∧ 0 ≤ F 11 e ∧ F 11 e ≤ 99999 ∧ F 10 e + (if 0 < F 11 e then 1 else 0) ≤ 20) (hlv : mLv I F) (h0 : 0 ≤ p0 ∧ p0 < I 1) : mMi l yX6_isBare (.code yX6_isBare cX6_isBare 4 (some .boolean)) 2 44 dC dI mo ma cs I F [.ref mo, .int (iz p0)] sz (fun (r : Int) (I' : Nat → Int) (F' : Nat → Int → Int) => I = I' ∧ F = F' ∧ (r = 0 ∨ r = 1)) := by
  refine Met.ofW (cc := cX6_isBare) (maxL := 4) (ret := (some .boolean)) (by decide) rfl ?_
  intro p e s m args below meth c s₁ B hml hv
  obtain ⟨rfl, hsz, hP, hK, hD0, hG, hZ⟩ := hv
  have hx := B.exec
  have hb := B.bytes
  have hr := B.returns
  have hts := kx_hts (a := ([.ref mo, .int (iz p0)] : List Value).toArray) hG
  have hown : s.vm.findClass RX6 = some m.cls := findClass_of_methodNamed B.named
  have hlocks := B.notSynchronized
  subst hsz
  have hD := hD0.self (sz := s.heap.size)
  generalize hAe : va_A (mW mo ma cs I F) s.heap.size = A at hD hZ ⊢
  have hA : ∀ q : Nat, s.heap.size ≤ q → A q := fun q h => by rw [← hAe]; exact Or.inr h
  have hS : va_S A s.heap s.heap [] := va_S.rf
  have hl := lv_entry ([.ref mo, .int (iz p0)]) (n := 4) (Nat.le_of_ble_eq_true rfl)
  rw [lg_entry_eq]
  generalize (lg_sl ([.ref mo, .int (iz p0)]) ++ List.replicate (4 - (lg_sl ([.ref mo, .int (iz p0)])).length) Slot.unset).toArray = ls at hl ⊢
  have hl : lv_has ls 4 [(0, .ref mo), (1, .int (iz p0))] := hl
  generalize hQe : MQ below (mQi dC dI mo ma cs A (fun (r : Int) (I' : Nat → Int) (F' : Nat → Int → Int) => I = I' ∧ F = F' ∧ (r = 0 ∨ r = 1))) ([.ref mo, .int (iz p0)] : List Value).toArray s 0 0 A = QQ
  refine lv_aload_n hx hb dX6_isBare_0 rfl (lv_at hl 0 rfl) ?_
  refine va_get (D := (dC, dI)) (ci := 6) (v := .ref (ma 17)) (C := RX6) (T := TX6) (N := 44) hx hb hts kt_X6 hown hK hP 0 rfl rfl 17 (by decide) (kx_word hG kq_06_mway_15 rfl) (fun _ h9 => h9) rfl dX6_isBare_1 ?_
  refine lv_iload_n hx hb dX6_isBare_4 rfl (lv_at hl 1 rfl) ?_
  refine ki_iald (F := F 17) hx hb hK hP 13 12 rfl rfl (by omega) (by omega) (by decide) dX6_isBare_5 ?_
  have hbd_1 := hB.2 17 p0
  refine lv_iload_n hx hb dX6_isBare_6 rfl (lv_at hl 1 rfl) ?_
  refine ki_icmp_ne (tgt := 18) hx hb dX6_isBare_7 (by decide) (by omega) (by omega) (by omega) (by omega) (fun c_2 => ?_) (fun c_2 => ?_)
  · skip
    refine lv_iconst (v := iz 0) hx hb dX6_isBare_18 (by decide) ?_
    rw [← hQe]
    exact mk_iretz hx hb hr hlocks hP hD hK hS dX6_isBare_19 (by omega) (⟨rfl, rfl, by omega⟩)
  · skip
    refine lv_aload_n hx hb dX6_isBare_10 rfl (lv_at hl 0 rfl) ?_
    refine lv_iload_n hx hb dX6_isBare_11 rfl (lv_at hl 1 rfl) ?_
    refine mk_calli (As := [.int (iz p0)]) (rest := []) ⟨hx, hb, hml, hown, hts⟩ (k_hasPage l dC dI mo ma cs I F p0 s.heap.size hB (by omega) hln (by omega) (by omega)) (cwV 1 hts (kx_gV kq_08_mgather_9 kq_08_mgather_10 kq_08_mgather_11 kq_04_msmall_6 kq_08_mgather_12 rfl) rfl rfl rfl (by decide +kernel) ⟨Nat.le_of_ble_eq_true rfl, Nat.le_of_ble_eq_true rfl⟩) hP hD hK hG hZ hS hA rfl hl.1 rfl (Nat.le_of_ble_eq_true rfl) dX6_isBare_12 ⟨Nat.le_of_ble_eq_true rfl, Nat.le_of_ble_eq_true rfl⟩ (fun z_3 I_5 F_6 H locs hq_4 hP hD hS => ?_)
    try dsimp only at hq_4
    obtain ⟨rfl, rfl, hq_4⟩ := hq_4
    refine ki_if_eq (tgt := 20) hx hb dX6_isBare_15 (by decide) (by omega) (by omega) (fun c_7 => ?_) (fun c_7 => ?_)
    · skip
      refine lv_iconst (v := iz 1) hx hb dX6_isBare_20 (by decide) ?_
      refine lv_istore_n (lv' := [(2, .int (iz 1)), (0, .ref mo), (1, .int (iz p0))]) hx hb dX6_isBare_21 rfl hl (by decide) rfl (fun ls hl => ?_)
      refine lv_iconst (v := iz 0) hx hb dX6_isBare_22 (by decide) ?_
      refine lv_istore_n (lv' := [(3, .int (iz 0)), (2, .int (iz 1)), (0, .ref mo), (1, .int (iz p0))]) hx hb dX6_isBare_23 rfl hl (by decide) rfl (fun ls hl => ?_)
      have lp24 : ∀ (n : Nat) (ba k : Int), ((ba = 0 ∨ ba = 1) ∧ (0 ≤ k ∧ k ≤ I 1)) → (I 1 - k).toNat < n → ∀ (H : Heap) (locs : List Loc), va_P (dC, dI) kxCl (mW mo ma cs I F) H → va_D A (mW mo ma cs I F) → va_S A s.heap H locs → ∀ ls : Array Slot, lv_has ls 4 [(3, .int (iz k)), (2, .int (iz ba)), (0, .ref mo), (1, .int (iz p0))] → W p l e (headSpec [.code yX6_isBare cX6_isBare 4 (some .boolean)] ({ frames := 2, cells := 0, slots := 0, locals := 44 })).room s m ([.ref mo, .int (iz p0)] : List Value).toArray below meth c H locs 0 0 QQ (F0 m 24 ls []) := by
        intro n
        induction n with
        | zero => intro ba k hinv hm; exact absurd hm (Nat.not_lt_zero _)
        | succ n ih24 =>
          intro ba k hinv hm H locs hP hD hS ls hl
          obtain ⟨hba, hk⟩ := hinv
          refine lv_iload_n hx hb dX6_isBare_24 rfl (lv_at hl 0 rfl) ?_
          refine lv_aload_n hx hb dX6_isBare_25 rfl (lv_at hl 2 rfl) ?_
          refine va_get (D := (dC, dI)) (ci := 6) (v := .int (iz (I 1))) (C := RX6) (T := TX6) (N := 44) hx hb hts kt_X6 hown hK hP 0 rfl rfl 1 (by decide) (kx_word hG kq_04_msmall_1 rfl) (fun _ h9 => h9) rfl dX6_isBare_26 ?_
          have hbd_8 := hB.1 1
          refine ki_icmp_ge (tgt := 91) hx hb dX6_isBare_29 (by decide) (by omega) (by omega) (by omega) (by omega) (fun c_9 => ?_) (fun c_9 => ?_)
          · skip
            refine lv_iload_n hx hb dX6_isBare_91 rfl (lv_at hl 1 rfl) ?_
            rw [← hQe]
            exact mk_iretz hx hb hr hlocks hP hD hK hS dX6_isBare_92 (by omega) (⟨rfl, rfl, by omega⟩)
          · skip
            refine lv_iload_n hx hb dX6_isBare_32 rfl (lv_at hl 1 rfl) ?_
            refine ki_if_eq (tgt := 83) hx hb dX6_isBare_33 (by decide) (by omega) (by omega) (fun c_10 => ?_) (fun c_10 => ?_)
            · skip
              refine lv_iconst (v := iz 0) hx hb dX6_isBare_83 (by decide) ?_
              refine lv_istore_n (lv' := [(2, .int (iz 0)), (3, .int (iz k)), (0, .ref mo), (1, .int (iz p0))]) hx hb dX6_isBare_84 rfl hl (by decide) rfl (fun ls hl => ?_)
              refine lv_iinc (v := iz (k + 1)) (lv' := [(3, .int (iz (k + 1))), (2, .int (iz 0)), (0, .ref mo), (1, .int (iz p0))]) hx hb dX6_isBare_85 hl (k := 1) rfl (iz_add k 1) (by decide) rfl (fun ls hl => ?_)
              refine lv_goto (tgt := 24) hx hb dX6_isBare_88 (by decide) ?_
              exact ih24 0 (k + 1) ⟨by omega, by omega⟩ (by omega) _ _ hP hD hS ls (lv_sub hl [0, 1, 2, 3] rfl)
            · skip
              have hlk := hlv k (by omega) (by omega)
              refine lv_aload_n hx hb dX6_isBare_36 rfl (lv_at hl 2 rfl) ?_
              refine va_get (D := (dC, dI)) (ci := 6) (v := .ref (ma 17)) (C := RX6) (T := TX6) (N := 44) hx hb hts kt_X6 hown hK hP 0 rfl rfl 17 (by decide) (kx_word hG kq_06_mway_15 rfl) (fun _ h9 => h9) rfl dX6_isBare_37 ?_
              refine lv_iload_n hx hb dX6_isBare_40 rfl (lv_at hl 0 rfl) ?_
              refine ki_iald (F := F 17) hx hb hK hP 13 12 rfl rfl (by omega) (by omega) (by decide) dX6_isBare_41 ?_
              have hbd_11 := hB.2 17 k
              refine lv_iload_n hx hb dX6_isBare_42 rfl (lv_at hl 3 rfl) ?_
              refine ki_icmp_ne (tgt := 55) hx hb dX6_isBare_43 (by decide) (by omega) (by omega) (by omega) (by omega) (fun c_12 => ?_) (fun c_12 => ?_)
              · skip
                refine lv_aload_n hx hb dX6_isBare_55 rfl (lv_at hl 2 rfl) ?_
                refine va_get (D := (dC, dI)) (ci := 6) (v := .ref (ma 2)) (C := RX6) (T := TX6) (N := 44) hx hb hts kt_X6 hown hK hP 0 rfl rfl 2 (by decide) (kx_word hG kq_04_msmall_12 rfl) (fun _ h9 => h9) rfl dX6_isBare_56 ?_
                refine lv_iload_n hx hb dX6_isBare_59 rfl (lv_at hl 0 rfl) ?_
                refine ki_iald (F := F 2) hx hb hK hP 1 0 rfl rfl (by omega) (by omega) (by decide) dX6_isBare_60 ?_
                have hbd_13 := hB.2 2 k
                refine ki_if_eq (tgt := 79) hx hb dX6_isBare_61 (by decide) (by omega) (by omega) (fun c_14 => ?_) (fun c_14 => ?_)
                · skip
                  refine lv_iconst (v := iz 1) hx hb dX6_isBare_79 (by decide) ?_
                  refine lv_goto (tgt := 84) hx hb dX6_isBare_80 (by decide) ?_
                  refine lv_istore_n (lv' := [(2, .int (iz 1)), (3, .int (iz k)), (0, .ref mo), (1, .int (iz p0))]) hx hb dX6_isBare_84 rfl hl (by decide) rfl (fun ls hl => ?_)
                  refine lv_iinc (v := iz (k + 1)) (lv' := [(3, .int (iz (k + 1))), (2, .int (iz 1)), (0, .ref mo), (1, .int (iz p0))]) hx hb dX6_isBare_85 hl (k := 1) rfl (iz_add k 1) (by decide) rfl (fun ls hl => ?_)
                  refine lv_goto (tgt := 24) hx hb dX6_isBare_88 (by decide) ?_
                  exact ih24 1 (k + 1) ⟨by omega, by omega⟩ (by omega) _ _ hP hD hS ls (lv_sub hl [0, 1, 2, 3] rfl)
                · skip
                  refine lv_aload_n hx hb dX6_isBare_64 rfl (lv_at hl 2 rfl) ?_
                  refine va_get (D := (dC, dI)) (ci := 6) (v := .ref (ma 17)) (C := RX6) (T := TX6) (N := 44) hx hb hts kt_X6 hown hK hP 0 rfl rfl 17 (by decide) (kx_word hG kq_06_mway_15 rfl) (fun _ h9 => h9) rfl dX6_isBare_65 ?_
                  refine lv_aload_n hx hb dX6_isBare_68 rfl (lv_at hl 2 rfl) ?_
                  refine va_get (D := (dC, dI)) (ci := 6) (v := .ref (ma 3)) (C := RX6) (T := TX6) (N := 44) hx hb hts kt_X6 hown hK hP 0 rfl rfl 3 (by decide) (kx_word hG kq_04_msmall_13 rfl) (fun _ h9 => h9) rfl dX6_isBare_69 ?_
                  refine lv_iload_n hx hb dX6_isBare_72 rfl (lv_at hl 0 rfl) ?_
                  refine ki_iald (F := F 3) hx hb hK hP 2 1 rfl rfl (by omega) (by omega) (by decide) dX6_isBare_73 ?_
                  have hbd_15 := hB.2 3 k
                  refine ki_iald (F := F 17) hx hb hK hP 13 12 rfl rfl (by omega) (by omega) (by decide) dX6_isBare_74 ?_
                  have hbd_16 := hB.2 17 (F 3 k)
                  refine lv_iload_n hx hb dX6_isBare_75 rfl (lv_at hl 3 rfl) ?_
                  refine ki_icmp_eq (tgt := 83) hx hb dX6_isBare_76 (by decide) (by omega) (by omega) (by omega) (by omega) (fun c_17 => ?_) (fun c_17 => ?_)
                  · skip
                    refine lv_iconst (v := iz 0) hx hb dX6_isBare_83 (by decide) ?_
                    refine lv_istore_n (lv' := [(2, .int (iz 0)), (3, .int (iz k)), (0, .ref mo), (1, .int (iz p0))]) hx hb dX6_isBare_84 rfl hl (by decide) rfl (fun ls hl => ?_)
                    refine lv_iinc (v := iz (k + 1)) (lv' := [(3, .int (iz (k + 1))), (2, .int (iz 0)), (0, .ref mo), (1, .int (iz p0))]) hx hb dX6_isBare_85 hl (k := 1) rfl (iz_add k 1) (by decide) rfl (fun ls hl => ?_)
                    refine lv_goto (tgt := 24) hx hb dX6_isBare_88 (by decide) ?_
                    exact ih24 0 (k + 1) ⟨by omega, by omega⟩ (by omega) _ _ hP hD hS ls (lv_sub hl [0, 1, 2, 3] rfl)
                  · skip
                    refine lv_iconst (v := iz 1) hx hb dX6_isBare_79 (by decide) ?_
                    refine lv_goto (tgt := 84) hx hb dX6_isBare_80 (by decide) ?_
                    refine lv_istore_n (lv' := [(2, .int (iz 1)), (3, .int (iz k)), (0, .ref mo), (1, .int (iz p0))]) hx hb dX6_isBare_84 rfl hl (by decide) rfl (fun ls hl => ?_)
                    refine lv_iinc (v := iz (k + 1)) (lv' := [(3, .int (iz (k + 1))), (2, .int (iz 1)), (0, .ref mo), (1, .int (iz p0))]) hx hb dX6_isBare_85 hl (k := 1) rfl (iz_add k 1) (by decide) rfl (fun ls hl => ?_)
                    refine lv_goto (tgt := 24) hx hb dX6_isBare_88 (by decide) ?_
                    exact ih24 1 (k + 1) ⟨by omega, by omega⟩ (by omega) _ _ hP hD hS ls (lv_sub hl [0, 1, 2, 3] rfl)
              · skip
                refine lv_aload_n hx hb dX6_isBare_46 rfl (lv_at hl 2 rfl) ?_
                refine va_get (D := (dC, dI)) (ci := 6) (v := .ref (ma 13)) (C := RX6) (T := TX6) (N := 44) hx hb hts kt_X6 hown hK hP 0 rfl rfl 13 (by decide) (kx_word hG kq_04_msmall_38 rfl) (fun _ h9 => h9) rfl dX6_isBare_47 ?_
                refine lv_iload_n hx hb dX6_isBare_50 rfl (lv_at hl 0 rfl) ?_
                refine ki_iald (F := F 13) hx hb hK hP 12 11 rfl rfl (by omega) (by omega) (by decide) dX6_isBare_51 ?_
                have hbd_18 := hB.2 13 k
                refine ki_if_ne (tgt := 83) hx hb dX6_isBare_52 (by decide) (by omega) (by omega) (fun c_19 => ?_) (fun c_19 => ?_)
                · skip
                  refine lv_iconst (v := iz 0) hx hb dX6_isBare_83 (by decide) ?_
                  refine lv_istore_n (lv' := [(2, .int (iz 0)), (3, .int (iz k)), (0, .ref mo), (1, .int (iz p0))]) hx hb dX6_isBare_84 rfl hl (by decide) rfl (fun ls hl => ?_)
                  refine lv_iinc (v := iz (k + 1)) (lv' := [(3, .int (iz (k + 1))), (2, .int (iz 0)), (0, .ref mo), (1, .int (iz p0))]) hx hb dX6_isBare_85 hl (k := 1) rfl (iz_add k 1) (by decide) rfl (fun ls hl => ?_)
                  refine lv_goto (tgt := 24) hx hb dX6_isBare_88 (by decide) ?_
                  exact ih24 0 (k + 1) ⟨by omega, by omega⟩ (by omega) _ _ hP hD hS ls (lv_sub hl [0, 1, 2, 3] rfl)
                · skip
                  refine lv_aload_n hx hb dX6_isBare_55 rfl (lv_at hl 2 rfl) ?_
                  refine va_get (D := (dC, dI)) (ci := 6) (v := .ref (ma 2)) (C := RX6) (T := TX6) (N := 44) hx hb hts kt_X6 hown hK hP 0 rfl rfl 2 (by decide) (kx_word hG kq_04_msmall_12 rfl) (fun _ h9 => h9) rfl dX6_isBare_56 ?_
                  refine lv_iload_n hx hb dX6_isBare_59 rfl (lv_at hl 0 rfl) ?_
                  refine ki_iald (F := F 2) hx hb hK hP 1 0 rfl rfl (by omega) (by omega) (by decide) dX6_isBare_60 ?_
                  have hbd_20 := hB.2 2 k
                  refine ki_if_eq (tgt := 79) hx hb dX6_isBare_61 (by decide) (by omega) (by omega) (fun c_21 => ?_) (fun c_21 => ?_)
                  · skip
                    refine lv_iconst (v := iz 1) hx hb dX6_isBare_79 (by decide) ?_
                    refine lv_goto (tgt := 84) hx hb dX6_isBare_80 (by decide) ?_
                    refine lv_istore_n (lv' := [(2, .int (iz 1)), (3, .int (iz k)), (0, .ref mo), (1, .int (iz p0))]) hx hb dX6_isBare_84 rfl hl (by decide) rfl (fun ls hl => ?_)
                    refine lv_iinc (v := iz (k + 1)) (lv' := [(3, .int (iz (k + 1))), (2, .int (iz 1)), (0, .ref mo), (1, .int (iz p0))]) hx hb dX6_isBare_85 hl (k := 1) rfl (iz_add k 1) (by decide) rfl (fun ls hl => ?_)
                    refine lv_goto (tgt := 24) hx hb dX6_isBare_88 (by decide) ?_
                    exact ih24 1 (k + 1) ⟨by omega, by omega⟩ (by omega) _ _ hP hD hS ls (lv_sub hl [0, 1, 2, 3] rfl)
                  · skip
                    refine lv_aload_n hx hb dX6_isBare_64 rfl (lv_at hl 2 rfl) ?_
                    refine va_get (D := (dC, dI)) (ci := 6) (v := .ref (ma 17)) (C := RX6) (T := TX6) (N := 44) hx hb hts kt_X6 hown hK hP 0 rfl rfl 17 (by decide) (kx_word hG kq_06_mway_15 rfl) (fun _ h9 => h9) rfl dX6_isBare_65 ?_
                    refine lv_aload_n hx hb dX6_isBare_68 rfl (lv_at hl 2 rfl) ?_
                    refine va_get (D := (dC, dI)) (ci := 6) (v := .ref (ma 3)) (C := RX6) (T := TX6) (N := 44) hx hb hts kt_X6 hown hK hP 0 rfl rfl 3 (by decide) (kx_word hG kq_04_msmall_13 rfl) (fun _ h9 => h9) rfl dX6_isBare_69 ?_
                    refine lv_iload_n hx hb dX6_isBare_72 rfl (lv_at hl 0 rfl) ?_
                    refine ki_iald (F := F 3) hx hb hK hP 2 1 rfl rfl (by omega) (by omega) (by decide) dX6_isBare_73 ?_
                    have hbd_22 := hB.2 3 k
                    refine ki_iald (F := F 17) hx hb hK hP 13 12 rfl rfl (by omega) (by omega) (by decide) dX6_isBare_74 ?_
                    have hbd_23 := hB.2 17 (F 3 k)
                    refine lv_iload_n hx hb dX6_isBare_75 rfl (lv_at hl 3 rfl) ?_
                    refine ki_icmp_eq (tgt := 83) hx hb dX6_isBare_76 (by decide) (by omega) (by omega) (by omega) (by omega) (fun c_24 => ?_) (fun c_24 => ?_)
                    · skip
                      refine lv_iconst (v := iz 0) hx hb dX6_isBare_83 (by decide) ?_
                      refine lv_istore_n (lv' := [(2, .int (iz 0)), (3, .int (iz k)), (0, .ref mo), (1, .int (iz p0))]) hx hb dX6_isBare_84 rfl hl (by decide) rfl (fun ls hl => ?_)
                      refine lv_iinc (v := iz (k + 1)) (lv' := [(3, .int (iz (k + 1))), (2, .int (iz 0)), (0, .ref mo), (1, .int (iz p0))]) hx hb dX6_isBare_85 hl (k := 1) rfl (iz_add k 1) (by decide) rfl (fun ls hl => ?_)
                      refine lv_goto (tgt := 24) hx hb dX6_isBare_88 (by decide) ?_
                      exact ih24 0 (k + 1) ⟨by omega, by omega⟩ (by omega) _ _ hP hD hS ls (lv_sub hl [0, 1, 2, 3] rfl)
                    · skip
                      refine lv_iconst (v := iz 1) hx hb dX6_isBare_79 (by decide) ?_
                      refine lv_goto (tgt := 84) hx hb dX6_isBare_80 (by decide) ?_
                      refine lv_istore_n (lv' := [(2, .int (iz 1)), (3, .int (iz k)), (0, .ref mo), (1, .int (iz p0))]) hx hb dX6_isBare_84 rfl hl (by decide) rfl (fun ls hl => ?_)
                      refine lv_iinc (v := iz (k + 1)) (lv' := [(3, .int (iz (k + 1))), (2, .int (iz 1)), (0, .ref mo), (1, .int (iz p0))]) hx hb dX6_isBare_85 hl (k := 1) rfl (iz_add k 1) (by decide) rfl (fun ls hl => ?_)
                      refine lv_goto (tgt := 24) hx hb dX6_isBare_88 (by decide) ?_
                      exact ih24 1 (k + 1) ⟨by omega, by omega⟩ (by omega) _ _ hP hD hS ls (lv_sub hl [0, 1, 2, 3] rfl)
      exact lp24 _ 1 0 ⟨by omega, by omega⟩ (Nat.lt_succ_self _) _ _ hP hD hS ls (lv_sub hl [0, 1, 2, 3] rfl)
    · skip
      refine lv_iconst (v := iz 0) hx hb dX6_isBare_18 (by decide) ?_
      rw [← hQe]
      exact mk_iretz hx hb hr hlocks hP hD hK hS dX6_isBare_19 (by omega) (⟨rfl, rfl, by omega⟩)
