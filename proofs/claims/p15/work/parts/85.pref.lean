/-! the reference, exact: what is put -/

set_option maxHeartbeats 4000000 in
set_option maxRecDepth 100000 in
theorem k_put2 (l : Launch) (dC : Nat → ClassId) (dI : Nat → Nat → Nat) (mo : Nat) (ma : Nat → Nat) (cs : Nat → ClassId) (I : Nat → Int) (F : Nat → Int → Int) (p0 : Int) (sz : Nat) (hB : mB I F) (hdr : mDr I) : mMv l yX6_put (.code yX6_put cX6_put 2 none) 0 0 dC dI mo ma cs I F [.ref mo, .int (iz p0)] sz (fun (I' : Nat → Int) (F' : Nat → Int → Int) => mB I' F' ∧ mfr [42, 43] [41] I F I' F' ∧ mDr I' ∧ pt_X (F 41) (I 42) (I 43) ([pt_b p0]) (F' 41) (I' 42) (I' 43)) := by
  refine Met.ofW (cc := cX6_put) (maxL := 2) (ret := none) (by decide) rfl ?_
  intro p e s m args below meth c s₁ B hml hv
  obtain ⟨rfl, hsz, hP, hK, hD0, hG, hZ⟩ := hv
  have hx := B.exec
  have hb := B.bytes
  have hr := B.returns
  have hts := kx_hts (a := ([.ref mo, .int (iz p0)] : List Value).toArray) hG
  have hown : s.vm.findClass RX6 = some m.cls := findClass_of_methodNamed B.named
  have hlocks := B.notSynchronized
  subst hsz
  have hD := hD0.self (sz := s.heap.size)
  generalize hAe : va_A (mW mo ma cs I F) s.heap.size = A at hD hZ ⊢
  have hA : ∀ q : Nat, s.heap.size ≤ q → A q := fun q h => by rw [← hAe]; exact Or.inr h
  have hS : va_S A s.heap s.heap [] := va_S.rf
  have hl := lv_entry ([.ref mo, .int (iz p0)]) (n := 2) (Nat.le_of_ble_eq_true rfl)
  rw [lg_entry_eq]
  generalize (lg_sl ([.ref mo, .int (iz p0)]) ++ List.replicate (2 - (lg_sl ([.ref mo, .int (iz p0)])).length) Slot.unset).toArray = ls at hl ⊢
  have hl : lv_has ls 2 [(0, .ref mo), (1, .int (iz p0))] := hl
  have hX0 := pt_X_nil (F 41) (I 42) (I 43)
  have hd9 : 0 ≤ I 42 ∧ I 42 ≤ 6000 := ⟨hdr.1, hdr.2.1⟩
  refine lv_aload_n hx hb dX6_put_0 rfl (lv_at hl 0 rfl) ?_
  refine va_get (D := (dC, dI)) (ci := 6) (v := .int (iz (I 42))) (C := RX6) (T := TX6) (N := 44) hx hb hts kt_X6 hown hK hP 0 rfl rfl 42 (by decide) (kx_word hG kq_09_mput_9 rfl) (fun _ h9 => h9) rfl dX6_put_1 ?_
  have hbd_1 := hB.1 42
  refine lv_sipush (v := iz 6000) hx hb dX6_put_4 (by decide) ?_
  refine ki_icmp_ne (tgt := 16) hx hb dX6_put_7 (by decide) (by omega) (by omega) (by omega) (by omega) (fun c_2 => ?_) (fun c_2 => ?_)
  · skip
    refine lv_aload_n hx hb dX6_put_16 rfl (lv_at hl 0 rfl) ?_
    refine va_get (D := (dC, dI)) (ci := 6) (v := .ref (ma 41)) (C := RX6) (T := TX6) (N := 44) hx hb hts kt_X6 hown hK hP 0 rfl rfl 41 (by decide) (kx_word hG kq_09_mput_10 rfl) (fun _ h9 => h9) rfl dX6_put_17 ?_
    refine lv_aload_n hx hb dX6_put_20 rfl (lv_at hl 0 rfl) ?_
    refine va_get (D := (dC, dI)) (ci := 6) (v := .int (iz (I 42))) (C := RX6) (T := TX6) (N := 44) hx hb hts kt_X6 hown hK hP 0 rfl rfl 42 (by decide) (kx_word hG kq_09_mput_9 rfl) (fun _ h9 => h9) rfl dX6_put_21 ?_
    refine lv_iload_n hx hb dX6_put_24 rfl (lv_at hl 1 rfl) ?_
    refine lv_i2b hx hb dX6_put_25 rfl ?_
    refine ki_is (z := (iz p0).toInt8.toInt32.toInt) (iz_self _).symm ?_
    refine ki_bast (F := F 41) hx hb hK hP hD hS 28 27 rfl rfl (by omega) (by omega) (by decide) dX6_put_26 (fun H locs hP hD hS => ?_)
    have hP : va_P (dC, dI) kxCl (mW mo ma cs I (va_up F 41 (upI (F 41) (I 42) (vp_nar .byte (iz ((iz p0).toInt8.toInt32.toInt))).toInt))) H := hP
    have hD : va_D A (mW mo ma cs I (va_up F 41 (upI (F 41) (I 42) (vp_nar .byte (iz ((iz p0).toInt8.toInt32.toInt))).toInt))) := hD
    refine lv_aload_n hx hb dX6_put_27 rfl (lv_at hl 0 rfl) ?_
    refine lv_dup hx hb dX6_put_28 rfl ?_
    refine va_get (D := (dC, dI)) (ci := 6) (v := .int (iz (I 42))) (C := RX6) (T := TX6) (N := 44) hx hb hts kt_X6 hown hK hP 0 rfl rfl 42 (by decide) (kx_word hG kq_09_mput_9 rfl) (fun _ h9 => h9) rfl dX6_put_29 ?_
    refine lv_iconst (v := iz 1) hx hb dX6_put_32 (by decide) ?_
    refine ki_iadd hx hb dX6_put_33 ?_
    refine va_put (D := (dC, dI)) (ci := 6) (v := .int (iz ((I 42) + 1))) (ty := .int) (C := RX6) (T := TX6) (N := 44) hx hb hts kt_X6 tyX6 tyX6_ok nmX6 hown hK hP hD hS 0 rfl rfl 42 (by decide) (kx_word hG kq_09_mput_9 rfl) (fun _ h9 => h9) rfl (by decide +kernel) rfl rfl (Nat.le_of_ble_eq_true rfl) dX6_put_34 (fun H locs hP hD hS => ?_)
    have hP : va_P (dC, dI) kxCl (mW mo ma cs (va_up I 42 ((I 42) + 1)) (va_up F 41 (upI (F 41) (I 42) (vp_nar .byte (iz ((iz p0).toInt8.toInt32.toInt))).toInt))) H := hP
    have hD : va_D A (mW mo ma cs (va_up I 42 ((I 42) + 1)) (va_up F 41 (upI (F 41) (I 42) (vp_nar .byte (iz ((iz p0).toInt8.toInt32.toInt))).toInt))) := hD
    exact mk_ret hx hb hr hlocks hP hD hK hS dX6_put_37 (⟨(mB_f (mB_i hB 42 (by omega) (by omega)) 41 (I 42) (iz_lo _) (iz_hi _)), (mfr.upF (mfr.upI mfr.rf (by decide) _) (by decide) _), by simp [mDr, va_up] at hdr ⊢; omega, pt_X_in (by omega)⟩)
  · skip
    refine lv_aload_n hx hb dX6_put_10 rfl (lv_at hl 0 rfl) ?_
    refine lv_iconst (v := iz 1) hx hb dX6_put_11 (by decide) ?_
    refine va_put (D := (dC, dI)) (ci := 6) (v := .int (iz 1)) (ty := .boolean) (C := RX6) (T := TX6) (N := 44) hx hb hts kt_X6 tyX6 tyX6_ok nmX6 hown hK hP hD hS 0 rfl rfl 43 (by decide) (kx_word hG kq_09_mput_11 rfl) (fun _ h9 => h9) rfl (by decide +kernel) (mz_bool (Or.inr rfl)).1 (mz_bool (Or.inr rfl)).2 (Nat.le_of_ble_eq_true rfl) dX6_put_12 (fun H locs hP hD hS => ?_)
    have hP : va_P (dC, dI) kxCl (mW mo ma cs (va_up I 43 1) F) H := hP
    have hD : va_D A (mW mo ma cs (va_up I 43 1) F) := hD
    exact mk_ret hx hb hr hlocks hP hD hK hS dX6_put_15 (⟨(mB_i hB 43 (by omega) (by omega)), (mfr.upI mfr.rf (by decide) _), by simp [mDr, va_up] at hdr ⊢; omega, pt_X_over (by omega)⟩)
set_option maxHeartbeats 4000000 in
set_option maxRecDepth 100000 in
theorem k_putPair2 (l : Launch) (dC : Nat → ClassId) (dI : Nat → Nat → Nat) (mo : Nat) (ma : Nat → Nat) (cs : Nat → ClassId) (I : Nat → Int) (F : Nat → Int → Int) (p0 : Int) (p1 : Int) (sz : Nat) (hB : mB I F) (hdr : mDr I) : mMv l yX6_putPair (.code yX6_putPair cX6_putPair 3 none) 1 21 dC dI mo ma cs I F [.ref mo, .int (iz p0), .int (iz p1)] sz (fun (I' : Nat → Int) (F' : Nat → Int → Int) => mB I' F' ∧ mfr [42, 43] [41] I F I' F' ∧ mDr I' ∧ pt_X (F 41) (I 42) (I 43) ([pt_b p0, pt_b p1]) (F' 41) (I' 42) (I' 43)) := by
  refine Met.ofW (cc := cX6_putPair) (maxL := 3) (ret := none) (by decide) rfl ?_
  intro p e s m args below meth c s₁ B hml hv
  obtain ⟨rfl, hsz, hP, hK, hD0, hG, hZ⟩ := hv
  have hx := B.exec
  have hb := B.bytes
  have hr := B.returns
  have hts := kx_hts (a := ([.ref mo, .int (iz p0), .int (iz p1)] : List Value).toArray) hG
  have hown : s.vm.findClass RX6 = some m.cls := findClass_of_methodNamed B.named
  have hlocks := B.notSynchronized
  subst hsz
  have hD := hD0.self (sz := s.heap.size)
  generalize hAe : va_A (mW mo ma cs I F) s.heap.size = A at hD hZ ⊢
  have hA : ∀ q : Nat, s.heap.size ≤ q → A q := fun q h => by rw [← hAe]; exact Or.inr h
  have hS : va_S A s.heap s.heap [] := va_S.rf
  have hl := lv_entry ([.ref mo, .int (iz p0), .int (iz p1)]) (n := 3) (Nat.le_of_ble_eq_true rfl)
  rw [lg_entry_eq]
  generalize (lg_sl ([.ref mo, .int (iz p0), .int (iz p1)]) ++ List.replicate (3 - (lg_sl ([.ref mo, .int (iz p0), .int (iz p1)])).length) Slot.unset).toArray = ls at hl ⊢
  have hl : lv_has ls 3 [(0, .ref mo), (1, .int (iz p0)), (2, .int (iz p1))] := hl
  have hX0 := pt_X_nil (F 41) (I 42) (I 43)
  refine lv_aload_n hx hb dX6_putPair_0 rfl (lv_at hl 0 rfl) ?_
  refine lv_iload_n hx hb dX6_putPair_1 rfl (lv_at hl 1 rfl) ?_
  refine mk_callv (As := [.int (iz p0)]) (rest := []) ⟨hx, hb, hml, hown, hts⟩ (k_put2 l dC dI mo ma cs I F p0 s.heap.size hB hdr) (cwV 1 hts (kx_gV kq_09_mput_12 kq_09_mput_13 kq_09_mput_14 kq_04_msmall_6 kq_09_mput_15 rfl) rfl rfl rfl (by decide +kernel) ⟨Nat.le_of_ble_eq_true rfl, Nat.le_of_ble_eq_true rfl⟩) hP hD hK hG hZ hS hA rfl hl.1 rfl (Nat.le_of_ble_eq_true rfl) dX6_putPair_2 ⟨Nat.le_of_ble_eq_true rfl, Nat.le_of_ble_eq_true rfl⟩ (fun I_3 F_4 H locs hq_2 hP hD hS => ?_)
  try dsimp only at hq_2
  obtain ⟨hB5, hf5, hd5, hX5⟩ := hq_2
  have hY5 := pt_X_app hX0 hX5
  refine lv_aload_n hx hb dX6_putPair_5 rfl (lv_at hl 0 rfl) ?_
  refine lv_iload_n hx hb dX6_putPair_6 rfl (lv_at hl 2 rfl) ?_
  refine mk_callv (As := [.int (iz p1)]) (rest := []) ⟨hx, hb, hml, hown, hts⟩ (k_put2 l dC dI mo ma cs I_3 F_4 p1 H.size hB5 hd5) (cwV 1 hts (kx_gV kq_09_mput_12 kq_09_mput_13 kq_09_mput_14 kq_04_msmall_6 kq_09_mput_15 rfl) rfl rfl rfl (by decide +kernel) ⟨Nat.le_of_ble_eq_true rfl, Nat.le_of_ble_eq_true rfl⟩) hP hD hK hG hZ hS hA rfl hl.1 rfl (Nat.le_of_ble_eq_true rfl) dX6_putPair_7 ⟨Nat.le_of_ble_eq_true rfl, Nat.le_of_ble_eq_true rfl⟩ (fun I_8 F_9 H locs hq_7 hP hD hS => ?_)
  try dsimp only at hq_7
  obtain ⟨hB10, hf10, hd10, hX10⟩ := hq_7
  have hY10 := pt_X_app hY5 hX10
  exact mk_ret hx hb hr hlocks hP hD hK hS dX6_putPair_10 (⟨hB10, ((mfr.rf.tr (hf5.mono (by decide) (by decide))).tr (hf10.mono (by decide) (by decide))), hd10, pt_X_eq hY10 (by rfl)⟩)
set_option maxHeartbeats 4000000 in
set_option maxRecDepth 100000 in
theorem k_putSigns2 (l : Launch) (dC : Nat → ClassId) (dI : Nat → Nat → Nat) (mo : Nat) (ma : Nat → Nat) (cs : Nat → ClassId) (I : Nat → Int) (F : Nat → Int → Int) (p0 : Int) (sz : Nat) (hB : mB I F) (hdr : mDr I) (hn : ∀ e, 0 ≤ F 5 e ∧ F 5 e ≤ 20) (h0 : 0 ≤ p0 ∧ p0 < 80) : mMv l yX6_putSigns (.code yX6_putSigns cX6_putSigns 3 none) 1 21 dC dI mo ma cs I F [.ref mo, .int (iz p0)] sz (fun (I' : Nat → Int) (F' : Nat → Int → Int) => mB I' F' ∧ mfr [42, 43] [41] I F I' F' ∧ mDr I' ∧ pt_X (F 41) (I 42) (I 43) (pt_l (pt_wM F p0)) (F' 41) (I' 42) (I' 43)) := by
  refine Met.ofW (cc := cX6_putSigns) (maxL := 3) (ret := none) (by decide) rfl ?_
  intro p e s m args below meth c s₁ B hml hv
  obtain ⟨rfl, hsz, hP, hK, hD0, hG, hZ⟩ := hv
  have hx := B.exec
  have hb := B.bytes
  have hr := B.returns
  have hts := kx_hts (a := ([.ref mo, .int (iz p0)] : List Value).toArray) hG
  have hown : s.vm.findClass RX6 = some m.cls := findClass_of_methodNamed B.named
  have hlocks := B.notSynchronized
  subst hsz
  have hD := hD0.self (sz := s.heap.size)
  generalize hAe : va_A (mW mo ma cs I F) s.heap.size = A at hD hZ ⊢
  have hA : ∀ q : Nat, s.heap.size ≤ q → A q := fun q h => by rw [← hAe]; exact Or.inr h
  have hS : va_S A s.heap s.heap [] := va_S.rf
  have hl := lv_entry ([.ref mo, .int (iz p0)]) (n := 3) (Nat.le_of_ble_eq_true rfl)
  rw [lg_entry_eq]
  generalize (lg_sl ([.ref mo, .int (iz p0)]) ++ List.replicate (3 - (lg_sl ([.ref mo, .int (iz p0)])).length) Slot.unset).toArray = ls at hl ⊢
  have hl : lv_has ls 3 [(0, .ref mo), (1, .int (iz p0))] := hl
  generalize hQe : MQ below (mQv dC dI mo ma cs A (fun (I' : Nat → Int) (F' : Nat → Int → Int) => mB I' F' ∧ mfr [42, 43] [41] I F I' F' ∧ mDr I' ∧ pt_X (F 41) (I 42) (I 43) (pt_l (pt_wM F p0)) (F' 41) (I' 42) (I' 43))) ([.ref mo, .int (iz p0)] : List Value).toArray s 0 0 A = QQ
  have hX0 := pt_X_nil (F 41) (I 42) (I 43)
  have hnp := hn p0
  refine lv_iconst (v := iz 0) hx hb dX6_putSigns_0 (by decide) ?_
  refine lv_istore_n (lv' := [(2, .int (iz 0)), (0, .ref mo), (1, .int (iz p0))]) hx hb dX6_putSigns_1 rfl hl (by decide) rfl (fun ls hl => ?_)
  have lp2 : ∀ (n : Nat) (k : Int) (J : Nat → Int) (G : Nat → Int → Int), ((mB J G) ∧ (mfr [42, 43] [41] I F J G) ∧ (mDr J) ∧ (0 ≤ k ∧ k ≤ 20 ∧ k ≤ F 5 p0) ∧ (pt_X (F 41) (I 42) (I 43) (pt_l (kf_ls (kf_sg F p0) 0 k.toNat)) (G 41) (J 42) (J 43))) → (F 5 p0 - k).toNat < n → ∀ (H : Heap) (locs : List Loc), va_P (dC, dI) kxCl (mW mo ma cs J G) H → va_D A (mW mo ma cs J G) → va_S A s.heap H locs → ∀ ls : Array Slot, lv_has ls 3 [(2, .int (iz k)), (0, .ref mo), (1, .int (iz p0))] → W p l e (headSpec [.code yX6_putSigns cX6_putSigns 3 none] ({ frames := 1, cells := 0, slots := 0, locals := 21 })).room s m ([.ref mo, .int (iz p0)] : List Value).toArray below meth c H locs 0 0 QQ (F0 m 2 ls []) := by
    intro n
    induction n with
    | zero => intro k J G hinv hm; exact absurd hm (Nat.not_lt_zero _)
    | succ n ih2 =>
      intro k J G hinv hm H locs hP hD hS ls hl
      obtain ⟨hBJ, hfJ, hdJ, hk, hXJ⟩ := hinv
      have e5 := congrFun (hfJ.2 5 (by decide)) p0
      refine lv_iload_n hx hb dX6_putSigns_2 rfl (lv_at hl 0 rfl) ?_
      refine lv_aload_n hx hb dX6_putSigns_3 rfl (lv_at hl 1 rfl) ?_
      refine va_get (D := (dC, dI)) (ci := 6) (v := .ref (ma 5)) (C := RX6) (T := TX6) (N := 44) hx hb hts kt_X6 hown hK hP 0 rfl rfl 5 (by decide) (kx_word hG kq_04_msmall_15 rfl) (fun _ h9 => h9) rfl dX6_putSigns_4 ?_
      refine lv_iload_n hx hb dX6_putSigns_7 rfl (lv_at hl 2 rfl) ?_
      refine ki_iald (F := G 5) hx hb hK hP 4 3 rfl rfl (by omega) (by omega) (by decide) dX6_putSigns_8 ?_
      have hbd_1 := hBJ.2 5 p0
      refine ki_icmp_ge (tgt := 33) hx hb dX6_putSigns_9 (by decide) (by omega) (by omega) (by omega) (by omega) (fun c_2 => ?_) (fun c_2 => ?_)
      · skip
        rw [← hQe]
        exact mk_ret hx hb hr hlocks hP hD hK hS dX6_putSigns_33 (⟨hBJ, hfJ, hdJ, pt_X_eq hXJ (by unfold pt_wM; rw [show (F 5 p0).toNat = k.toNat by omega])⟩)
      · skip
        refine lv_aload_n hx hb dX6_putSigns_12 rfl (lv_at hl 1 rfl) ?_
        refine lv_aload_n hx hb dX6_putSigns_13 rfl (lv_at hl 1 rfl) ?_
        refine va_get (D := (dC, dI)) (ci := 6) (v := .ref (ma 4)) (C := RX6) (T := TX6) (N := 44) hx hb hts kt_X6 hown hK hP 0 rfl rfl 4 (by decide) (kx_word hG kq_04_msmall_16 rfl) (fun _ h9 => h9) rfl dX6_putSigns_14 ?_
        refine lv_bipush (v := iz 20) hx hb dX6_putSigns_17 (by decide) ?_
        refine lv_iload_n hx hb dX6_putSigns_19 rfl (lv_at hl 2 rfl) ?_
        refine ki_imul hx hb dX6_putSigns_20 ?_
        refine lv_iload_n hx hb dX6_putSigns_21 rfl (lv_at hl 0 rfl) ?_
        refine ki_iadd hx hb dX6_putSigns_22 ?_
        refine ki_iald (F := G 4) hx hb hK hP 3 2 rfl rfl (by omega) (by omega) (by decide) dX6_putSigns_23 ?_
        have hbd_3 := hBJ.2 4 ((20 * p0) + k)
        refine mk_callv (As := [.int (iz (G 4 ((20 * p0) + k)))]) (rest := []) ⟨hx, hb, hml, hown, hts⟩ (k_put2 l dC dI mo ma cs J G (G 4 ((20 * p0) + k)) H.size hBJ hdJ) (cwV 1 hts (kx_gV kq_09_mput_12 kq_09_mput_13 kq_09_mput_14 kq_04_msmall_6 kq_09_mput_15 rfl) rfl rfl rfl (by decide +kernel) ⟨Nat.le_of_ble_eq_true rfl, Nat.le_of_ble_eq_true rfl⟩) hP hD hK hG hZ hS hA rfl hl.1 rfl (Nat.le_of_ble_eq_true rfl) dX6_putSigns_24 ⟨Nat.le_of_ble_eq_true rfl, Nat.le_of_ble_eq_true rfl⟩ (fun I_6 F_7 H locs hq_5 hP hD hS => ?_)
        try dsimp only at hq_5
        obtain ⟨hB8, hf8, hd8, hX8⟩ := hq_5
        have hY8 := pt_X_app hXJ hX8
        refine lv_iinc (v := iz (k + 1)) (lv' := [(2, .int (iz (k + 1))), (0, .ref mo), (1, .int (iz p0))]) hx hb dX6_putSigns_27 hl (k := 0) rfl (iz_add k 1) (by decide) rfl (fun ls hl => ?_)
        refine lv_goto (tgt := 2) hx hb dX6_putSigns_30 (by decide) ?_
        exact ih2 (k + 1) I_6 F_7 ⟨hB8, (hfJ.tr (hf8.mono (by decide) (by decide))), hd8, by omega, (pt_X_eq hY8 (by rw [kf_ls_sn (F := kf_sg F p0) (show 0 ≤ k by omega) (fun _ _ _ => rfl) rfl, pt_l_app]; show _ ++ [pt_b (F 4 (20 * p0 + k))] = _; rw [← congrFun (hfJ.2 4 (by decide)) (20 * p0 + k)]))⟩ (by omega) _ _ hP hD hS ls (lv_sub hl [0, 1, 2] rfl)
  exact lp2 _ 0 I F ⟨hB, mfr.rf, hdr, by omega, hX0⟩ (Nat.lt_succ_self _) _ _ hP hD hS ls (lv_sub hl [0, 1, 2] rfl)
set_option maxHeartbeats 4000000 in
set_option maxRecDepth 100000 in
theorem k_putNumber2 (l : Launch) (dC : Nat → ClassId) (dI : Nat → Nat → Nat) (mo : Nat) (ma : Nat → Nat) (cs : Nat → ClassId) (I : Nat → Int) (F : Nat → Int → Int) (p0 : Int) (sz : Nat) (hB : mB I F) (hdr : mDr I) (h0 : 1 ≤ p0 ∧ p0 ≤ 99999) : mMv l yX6_putNumber (.code yX6_putNumber cX6_putNumber 3 none) 1 21 dC dI mo ma cs I F [.ref mo, .int (iz p0)] sz (fun (I' : Nat → Int) (F' : Nat → Int → Int) => mB I' F' ∧ mfr [42, 43] [41] I F I' F' ∧ mDr I' ∧ pt_X (F 41) (I 42) (I 43) (pt_l (pt_nu p0)) (F' 41) (I' 42) (I' 43)) := by
  refine Met.ofW (cc := cX6_putNumber) (maxL := 3) (ret := none) (by decide) rfl ?_
  intro p e s m args below meth c s₁ B hml hv
  obtain ⟨rfl, hsz, hP, hK, hD0, hG, hZ⟩ := hv
  have hx := B.exec
  have hb := B.bytes
  have hr := B.returns
  have hts := kx_hts (a := ([.ref mo, .int (iz p0)] : List Value).toArray) hG
  have hown : s.vm.findClass RX6 = some m.cls := findClass_of_methodNamed B.named
  have hlocks := B.notSynchronized
  subst hsz
  have hD := hD0.self (sz := s.heap.size)
  generalize hAe : va_A (mW mo ma cs I F) s.heap.size = A at hD hZ ⊢
  have hA : ∀ q : Nat, s.heap.size ≤ q → A q := fun q h => by rw [← hAe]; exact Or.inr h
  have hS : va_S A s.heap s.heap [] := va_S.rf
  have hl := lv_entry ([.ref mo, .int (iz p0)]) (n := 3) (Nat.le_of_ble_eq_true rfl)
  rw [lg_entry_eq]
  generalize (lg_sl ([.ref mo, .int (iz p0)]) ++ List.replicate (3 - (lg_sl ([.ref mo, .int (iz p0)])).length) Slot.unset).toArray = ls at hl ⊢
  have hl : lv_has ls 3 [(0, .ref mo), (1, .int (iz p0))] := hl
  have hX0 := pt_X_nil (F 41) (I 42) (I 43)
  refine lv_iconst (v := iz 1) hx hb dX6_putNumber_0 (by decide) ?_
  refine lv_istore_n (lv' := [(2, .int (iz 1)), (0, .ref mo), (1, .int (iz p0))]) hx hb dX6_putNumber_1 rfl hl (by decide) rfl (fun ls hl => ?_)
  refine lv_iload_n hx hb dX6_putNumber_2 rfl (lv_at hl 2 rfl) ?_
  refine lv_iload_n hx hb dX6_putNumber_3 rfl (lv_at hl 0 rfl) ?_
  refine ki_idiv hx hb dX6_putNumber_4 (by omega) (by omega) (by omega) (by omega) ?_
  refine lv_bipush (v := iz 9) hx hb dX6_putNumber_5 (by decide) ?_
  refine ki_icmp_le (tgt := 18) hx hb dX6_putNumber_7 (by decide) (by omega) (by omega) (by omega) (by omega) (fun c_1 => ?_) (fun c_1 => ?_)
  · skip
    refine lv_iload_n hx hb dX6_putNumber_18 rfl (lv_at hl 0 rfl) ?_
    refine ki_if_le (tgt := 43) hx hb dX6_putNumber_19 (by decide) (by omega) (by omega) (fun c_2 => ?_) (fun c_2 => ?_)
    · omega
    · skip
      refine lv_aload_n hx hb dX6_putNumber_22 rfl (lv_at hl 1 rfl) ?_
      refine lv_bipush (v := iz 48) hx hb dX6_putNumber_23 (by decide) ?_
      refine lv_iload_n hx hb dX6_putNumber_25 rfl (lv_at hl 2 rfl) ?_
      refine lv_iload_n hx hb dX6_putNumber_26 rfl (lv_at hl 0 rfl) ?_
      refine ki_idiv hx hb dX6_putNumber_27 (by omega) (by omega) (by omega) (by omega) ?_
      refine lv_bipush (v := iz 10) hx hb dX6_putNumber_28 (by decide) ?_
      refine ki_irem hx hb dX6_putNumber_30 (by omega) (by omega) (by omega) (by omega) ?_
      refine ki_iadd hx hb dX6_putNumber_31 ?_
      refine mk_callv (As := [.int (iz (48 + ((p0 / 1) % 10)))]) (rest := []) ⟨hx, hb, hml, hown, hts⟩ (k_put2 l dC dI mo ma cs I F (48 + ((p0 / 1) % 10)) s.heap.size hB hdr) (cwV 1 hts (kx_gV kq_09_mput_12 kq_09_mput_13 kq_09_mput_14 kq_04_msmall_6 kq_09_mput_15 rfl) rfl rfl rfl (by decide +kernel) ⟨Nat.le_of_ble_eq_true rfl, Nat.le_of_ble_eq_true rfl⟩) hP hD hK hG hZ hS hA rfl hl.1 rfl (Nat.le_of_ble_eq_true rfl) dX6_putNumber_32 ⟨Nat.le_of_ble_eq_true rfl, Nat.le_of_ble_eq_true rfl⟩ (fun I_5 F_6 H locs hq_4 hP hD hS => ?_)
      try dsimp only at hq_4
      obtain ⟨hB7, hf7, hd7, hX7⟩ := hq_4
      have hY7 := pt_X_app hX0 hX7
      refine lv_iload_n hx hb dX6_putNumber_35 rfl (lv_at hl 0 rfl) ?_
      refine lv_bipush (v := iz 10) hx hb dX6_putNumber_36 (by decide) ?_
      refine ki_idiv hx hb dX6_putNumber_38 (by omega) (by omega) (by omega) (by omega) ?_
      refine ki_is (show iz (1 / 10) = iz 0 from rfl) ?_
      refine lv_istore_n (lv' := [(2, .int (iz 0)), (0, .ref mo), (1, .int (iz p0))]) hx hb dX6_putNumber_39 rfl hl (by decide) rfl (fun ls hl => ?_)
      refine lv_goto (tgt := 18) hx hb dX6_putNumber_40 (by decide) ?_
      refine lv_iload_n hx hb dX6_putNumber_18 rfl (lv_at hl 0 rfl) ?_
      refine ki_if_le (tgt := 43) hx hb dX6_putNumber_19 (by decide) (by omega) (by omega) (fun c_8 => ?_) (fun c_8 => ?_)
      · skip
        exact mk_ret hx hb hr hlocks hP hD hK hS dX6_putNumber_43 (⟨hB7, (mfr.rf.tr (hf7.mono (by decide) (by decide))), hd7, pt_X_eq hY7 (by unfold pt_nu pt_l; (first | rw [if_pos (show 10000 ≤ p0 by omega)] | rw [if_neg (show ¬ 10000 ≤ p0 by omega)]); (first | rw [if_pos (show 1000 ≤ p0 by omega)] | rw [if_neg (show ¬ 1000 ≤ p0 by omega)]); (first | rw [if_pos (show 100 ≤ p0 by omega)] | rw [if_neg (show ¬ 100 ≤ p0 by omega)]); (first | rw [if_pos (show 10 ≤ p0 by omega)] | rw [if_neg (show ¬ 10 ≤ p0 by omega)]); (first | rw [if_pos (show 1 ≤ p0 by omega)] | rw [if_neg (show ¬ 1 ≤ p0 by omega)]); rfl)⟩)
      · omega
  · skip
    refine lv_bipush (v := iz 10) hx hb dX6_putNumber_10 (by decide) ?_
    refine lv_iload_n hx hb dX6_putNumber_12 rfl (lv_at hl 0 rfl) ?_
    refine ki_imul hx hb dX6_putNumber_13 ?_
    refine ki_is (show iz (10 * 1) = iz 10 from rfl) ?_
    refine lv_istore_n (lv' := [(2, .int (iz 10)), (0, .ref mo), (1, .int (iz p0))]) hx hb dX6_putNumber_14 rfl hl (by decide) rfl (fun ls hl => ?_)
    refine lv_goto (tgt := 2) hx hb dX6_putNumber_15 (by decide) ?_
    refine lv_iload_n hx hb dX6_putNumber_2 rfl (lv_at hl 2 rfl) ?_
    refine lv_iload_n hx hb dX6_putNumber_3 rfl (lv_at hl 0 rfl) ?_
    refine ki_idiv hx hb dX6_putNumber_4 (by omega) (by omega) (by omega) (by omega) ?_
    refine lv_bipush (v := iz 9) hx hb dX6_putNumber_5 (by decide) ?_
    refine ki_icmp_le (tgt := 18) hx hb dX6_putNumber_7 (by decide) (by omega) (by omega) (by omega) (by omega) (fun c_9 => ?_) (fun c_9 => ?_)
    · skip
      refine lv_iload_n hx hb dX6_putNumber_18 rfl (lv_at hl 0 rfl) ?_
      refine ki_if_le (tgt := 43) hx hb dX6_putNumber_19 (by decide) (by omega) (by omega) (fun c_10 => ?_) (fun c_10 => ?_)
      · omega
      · skip
        refine lv_aload_n hx hb dX6_putNumber_22 rfl (lv_at hl 1 rfl) ?_
        refine lv_bipush (v := iz 48) hx hb dX6_putNumber_23 (by decide) ?_
        refine lv_iload_n hx hb dX6_putNumber_25 rfl (lv_at hl 2 rfl) ?_
        refine lv_iload_n hx hb dX6_putNumber_26 rfl (lv_at hl 0 rfl) ?_
        refine ki_idiv hx hb dX6_putNumber_27 (by omega) (by omega) (by omega) (by omega) ?_
        refine lv_bipush (v := iz 10) hx hb dX6_putNumber_28 (by decide) ?_
        refine ki_irem hx hb dX6_putNumber_30 (by omega) (by omega) (by omega) (by omega) ?_
        refine ki_iadd hx hb dX6_putNumber_31 ?_
        refine mk_callv (As := [.int (iz (48 + ((p0 / 10) % 10)))]) (rest := []) ⟨hx, hb, hml, hown, hts⟩ (k_put2 l dC dI mo ma cs I F (48 + ((p0 / 10) % 10)) s.heap.size hB hdr) (cwV 1 hts (kx_gV kq_09_mput_12 kq_09_mput_13 kq_09_mput_14 kq_04_msmall_6 kq_09_mput_15 rfl) rfl rfl rfl (by decide +kernel) ⟨Nat.le_of_ble_eq_true rfl, Nat.le_of_ble_eq_true rfl⟩) hP hD hK hG hZ hS hA rfl hl.1 rfl (Nat.le_of_ble_eq_true rfl) dX6_putNumber_32 ⟨Nat.le_of_ble_eq_true rfl, Nat.le_of_ble_eq_true rfl⟩ (fun I_13 F_14 H locs hq_12 hP hD hS => ?_)
        try dsimp only at hq_12
        obtain ⟨hB15, hf15, hd15, hX15⟩ := hq_12
        have hY15 := pt_X_app hX0 hX15
        refine lv_iload_n hx hb dX6_putNumber_35 rfl (lv_at hl 0 rfl) ?_
        refine lv_bipush (v := iz 10) hx hb dX6_putNumber_36 (by decide) ?_
        refine ki_idiv hx hb dX6_putNumber_38 (by omega) (by omega) (by omega) (by omega) ?_
        refine ki_is (show iz (10 / 10) = iz 1 from rfl) ?_
        refine lv_istore_n (lv' := [(2, .int (iz 1)), (0, .ref mo), (1, .int (iz p0))]) hx hb dX6_putNumber_39 rfl hl (by decide) rfl (fun ls hl => ?_)
        refine lv_goto (tgt := 18) hx hb dX6_putNumber_40 (by decide) ?_
        refine lv_iload_n hx hb dX6_putNumber_18 rfl (lv_at hl 0 rfl) ?_
        refine ki_if_le (tgt := 43) hx hb dX6_putNumber_19 (by decide) (by omega) (by omega) (fun c_16 => ?_) (fun c_16 => ?_)
        · omega
        · skip
          refine lv_aload_n hx hb dX6_putNumber_22 rfl (lv_at hl 1 rfl) ?_
          refine lv_bipush (v := iz 48) hx hb dX6_putNumber_23 (by decide) ?_
          refine lv_iload_n hx hb dX6_putNumber_25 rfl (lv_at hl 2 rfl) ?_
          refine lv_iload_n hx hb dX6_putNumber_26 rfl (lv_at hl 0 rfl) ?_
          refine ki_idiv hx hb dX6_putNumber_27 (by omega) (by omega) (by omega) (by omega) ?_
          refine lv_bipush (v := iz 10) hx hb dX6_putNumber_28 (by decide) ?_
          refine ki_irem hx hb dX6_putNumber_30 (by omega) (by omega) (by omega) (by omega) ?_
          refine ki_iadd hx hb dX6_putNumber_31 ?_
          refine mk_callv (As := [.int (iz (48 + ((p0 / 1) % 10)))]) (rest := []) ⟨hx, hb, hml, hown, hts⟩ (k_put2 l dC dI mo ma cs I_13 F_14 (48 + ((p0 / 1) % 10)) H.size hB15 hd15) (cwV 1 hts (kx_gV kq_09_mput_12 kq_09_mput_13 kq_09_mput_14 kq_04_msmall_6 kq_09_mput_15 rfl) rfl rfl rfl (by decide +kernel) ⟨Nat.le_of_ble_eq_true rfl, Nat.le_of_ble_eq_true rfl⟩) hP hD hK hG hZ hS hA rfl hl.1 rfl (Nat.le_of_ble_eq_true rfl) dX6_putNumber_32 ⟨Nat.le_of_ble_eq_true rfl, Nat.le_of_ble_eq_true rfl⟩ (fun I_19 F_20 H locs hq_18 hP hD hS => ?_)
          try dsimp only at hq_18
          obtain ⟨hB21, hf21, hd21, hX21⟩ := hq_18
          have hY21 := pt_X_app hY15 hX21
          refine lv_iload_n hx hb dX6_putNumber_35 rfl (lv_at hl 0 rfl) ?_
          refine lv_bipush (v := iz 10) hx hb dX6_putNumber_36 (by decide) ?_
          refine ki_idiv hx hb dX6_putNumber_38 (by omega) (by omega) (by omega) (by omega) ?_
          refine ki_is (show iz (1 / 10) = iz 0 from rfl) ?_
          refine lv_istore_n (lv' := [(2, .int (iz 0)), (0, .ref mo), (1, .int (iz p0))]) hx hb dX6_putNumber_39 rfl hl (by decide) rfl (fun ls hl => ?_)
          refine lv_goto (tgt := 18) hx hb dX6_putNumber_40 (by decide) ?_
          refine lv_iload_n hx hb dX6_putNumber_18 rfl (lv_at hl 0 rfl) ?_
          refine ki_if_le (tgt := 43) hx hb dX6_putNumber_19 (by decide) (by omega) (by omega) (fun c_22 => ?_) (fun c_22 => ?_)
          · skip
            exact mk_ret hx hb hr hlocks hP hD hK hS dX6_putNumber_43 (⟨hB21, ((mfr.rf.tr (hf15.mono (by decide) (by decide))).tr (hf21.mono (by decide) (by decide))), hd21, pt_X_eq hY21 (by unfold pt_nu pt_l; (first | rw [if_pos (show 10000 ≤ p0 by omega)] | rw [if_neg (show ¬ 10000 ≤ p0 by omega)]); (first | rw [if_pos (show 1000 ≤ p0 by omega)] | rw [if_neg (show ¬ 1000 ≤ p0 by omega)]); (first | rw [if_pos (show 100 ≤ p0 by omega)] | rw [if_neg (show ¬ 100 ≤ p0 by omega)]); (first | rw [if_pos (show 10 ≤ p0 by omega)] | rw [if_neg (show ¬ 10 ≤ p0 by omega)]); (first | rw [if_pos (show 1 ≤ p0 by omega)] | rw [if_neg (show ¬ 1 ≤ p0 by omega)]); rfl)⟩)
          · omega
    · skip
      refine lv_bipush (v := iz 10) hx hb dX6_putNumber_10 (by decide) ?_
      refine lv_iload_n hx hb dX6_putNumber_12 rfl (lv_at hl 0 rfl) ?_
      refine ki_imul hx hb dX6_putNumber_13 ?_
      refine ki_is (show iz (10 * 10) = iz 100 from rfl) ?_
      refine lv_istore_n (lv' := [(2, .int (iz 100)), (0, .ref mo), (1, .int (iz p0))]) hx hb dX6_putNumber_14 rfl hl (by decide) rfl (fun ls hl => ?_)
      refine lv_goto (tgt := 2) hx hb dX6_putNumber_15 (by decide) ?_
      refine lv_iload_n hx hb dX6_putNumber_2 rfl (lv_at hl 2 rfl) ?_
      refine lv_iload_n hx hb dX6_putNumber_3 rfl (lv_at hl 0 rfl) ?_
      refine ki_idiv hx hb dX6_putNumber_4 (by omega) (by omega) (by omega) (by omega) ?_
      refine lv_bipush (v := iz 9) hx hb dX6_putNumber_5 (by decide) ?_
      refine ki_icmp_le (tgt := 18) hx hb dX6_putNumber_7 (by decide) (by omega) (by omega) (by omega) (by omega) (fun c_23 => ?_) (fun c_23 => ?_)
      · skip
        refine lv_iload_n hx hb dX6_putNumber_18 rfl (lv_at hl 0 rfl) ?_
        refine ki_if_le (tgt := 43) hx hb dX6_putNumber_19 (by decide) (by omega) (by omega) (fun c_24 => ?_) (fun c_24 => ?_)
        · omega
        · skip
          refine lv_aload_n hx hb dX6_putNumber_22 rfl (lv_at hl 1 rfl) ?_
          refine lv_bipush (v := iz 48) hx hb dX6_putNumber_23 (by decide) ?_
          refine lv_iload_n hx hb dX6_putNumber_25 rfl (lv_at hl 2 rfl) ?_
          refine lv_iload_n hx hb dX6_putNumber_26 rfl (lv_at hl 0 rfl) ?_
          refine ki_idiv hx hb dX6_putNumber_27 (by omega) (by omega) (by omega) (by omega) ?_
          refine lv_bipush (v := iz 10) hx hb dX6_putNumber_28 (by decide) ?_
          refine ki_irem hx hb dX6_putNumber_30 (by omega) (by omega) (by omega) (by omega) ?_
          refine ki_iadd hx hb dX6_putNumber_31 ?_
          refine mk_callv (As := [.int (iz (48 + ((p0 / 100) % 10)))]) (rest := []) ⟨hx, hb, hml, hown, hts⟩ (k_put2 l dC dI mo ma cs I F (48 + ((p0 / 100) % 10)) s.heap.size hB hdr) (cwV 1 hts (kx_gV kq_09_mput_12 kq_09_mput_13 kq_09_mput_14 kq_04_msmall_6 kq_09_mput_15 rfl) rfl rfl rfl (by decide +kernel) ⟨Nat.le_of_ble_eq_true rfl, Nat.le_of_ble_eq_true rfl⟩) hP hD hK hG hZ hS hA rfl hl.1 rfl (Nat.le_of_ble_eq_true rfl) dX6_putNumber_32 ⟨Nat.le_of_ble_eq_true rfl, Nat.le_of_ble_eq_true rfl⟩ (fun I_27 F_28 H locs hq_26 hP hD hS => ?_)
          try dsimp only at hq_26
          obtain ⟨hB29, hf29, hd29, hX29⟩ := hq_26
          have hY29 := pt_X_app hX0 hX29
          refine lv_iload_n hx hb dX6_putNumber_35 rfl (lv_at hl 0 rfl) ?_
          refine lv_bipush (v := iz 10) hx hb dX6_putNumber_36 (by decide) ?_
          refine ki_idiv hx hb dX6_putNumber_38 (by omega) (by omega) (by omega) (by omega) ?_
          refine ki_is (show iz (100 / 10) = iz 10 from rfl) ?_
          refine lv_istore_n (lv' := [(2, .int (iz 10)), (0, .ref mo), (1, .int (iz p0))]) hx hb dX6_putNumber_39 rfl hl (by decide) rfl (fun ls hl => ?_)
          refine lv_goto (tgt := 18) hx hb dX6_putNumber_40 (by decide) ?_
          refine lv_iload_n hx hb dX6_putNumber_18 rfl (lv_at hl 0 rfl) ?_
          refine ki_if_le (tgt := 43) hx hb dX6_putNumber_19 (by decide) (by omega) (by omega) (fun c_30 => ?_) (fun c_30 => ?_)
          · omega
          · skip
            refine lv_aload_n hx hb dX6_putNumber_22 rfl (lv_at hl 1 rfl) ?_
            refine lv_bipush (v := iz 48) hx hb dX6_putNumber_23 (by decide) ?_
            refine lv_iload_n hx hb dX6_putNumber_25 rfl (lv_at hl 2 rfl) ?_
            refine lv_iload_n hx hb dX6_putNumber_26 rfl (lv_at hl 0 rfl) ?_
            refine ki_idiv hx hb dX6_putNumber_27 (by omega) (by omega) (by omega) (by omega) ?_
            refine lv_bipush (v := iz 10) hx hb dX6_putNumber_28 (by decide) ?_
            refine ki_irem hx hb dX6_putNumber_30 (by omega) (by omega) (by omega) (by omega) ?_
            refine ki_iadd hx hb dX6_putNumber_31 ?_
            refine mk_callv (As := [.int (iz (48 + ((p0 / 10) % 10)))]) (rest := []) ⟨hx, hb, hml, hown, hts⟩ (k_put2 l dC dI mo ma cs I_27 F_28 (48 + ((p0 / 10) % 10)) H.size hB29 hd29) (cwV 1 hts (kx_gV kq_09_mput_12 kq_09_mput_13 kq_09_mput_14 kq_04_msmall_6 kq_09_mput_15 rfl) rfl rfl rfl (by decide +kernel) ⟨Nat.le_of_ble_eq_true rfl, Nat.le_of_ble_eq_true rfl⟩) hP hD hK hG hZ hS hA rfl hl.1 rfl (Nat.le_of_ble_eq_true rfl) dX6_putNumber_32 ⟨Nat.le_of_ble_eq_true rfl, Nat.le_of_ble_eq_true rfl⟩ (fun I_33 F_34 H locs hq_32 hP hD hS => ?_)
            try dsimp only at hq_32
            obtain ⟨hB35, hf35, hd35, hX35⟩ := hq_32
            have hY35 := pt_X_app hY29 hX35
            refine lv_iload_n hx hb dX6_putNumber_35 rfl (lv_at hl 0 rfl) ?_
            refine lv_bipush (v := iz 10) hx hb dX6_putNumber_36 (by decide) ?_
            refine ki_idiv hx hb dX6_putNumber_38 (by omega) (by omega) (by omega) (by omega) ?_
            refine ki_is (show iz (10 / 10) = iz 1 from rfl) ?_
            refine lv_istore_n (lv' := [(2, .int (iz 1)), (0, .ref mo), (1, .int (iz p0))]) hx hb dX6_putNumber_39 rfl hl (by decide) rfl (fun ls hl => ?_)
            refine lv_goto (tgt := 18) hx hb dX6_putNumber_40 (by decide) ?_
            refine lv_iload_n hx hb dX6_putNumber_18 rfl (lv_at hl 0 rfl) ?_
            refine ki_if_le (tgt := 43) hx hb dX6_putNumber_19 (by decide) (by omega) (by omega) (fun c_36 => ?_) (fun c_36 => ?_)
            · omega
            · skip
              refine lv_aload_n hx hb dX6_putNumber_22 rfl (lv_at hl 1 rfl) ?_
              refine lv_bipush (v := iz 48) hx hb dX6_putNumber_23 (by decide) ?_
              refine lv_iload_n hx hb dX6_putNumber_25 rfl (lv_at hl 2 rfl) ?_
              refine lv_iload_n hx hb dX6_putNumber_26 rfl (lv_at hl 0 rfl) ?_
              refine ki_idiv hx hb dX6_putNumber_27 (by omega) (by omega) (by omega) (by omega) ?_
              refine lv_bipush (v := iz 10) hx hb dX6_putNumber_28 (by decide) ?_
              refine ki_irem hx hb dX6_putNumber_30 (by omega) (by omega) (by omega) (by omega) ?_
              refine ki_iadd hx hb dX6_putNumber_31 ?_
              refine mk_callv (As := [.int (iz (48 + ((p0 / 1) % 10)))]) (rest := []) ⟨hx, hb, hml, hown, hts⟩ (k_put2 l dC dI mo ma cs I_33 F_34 (48 + ((p0 / 1) % 10)) H.size hB35 hd35) (cwV 1 hts (kx_gV kq_09_mput_12 kq_09_mput_13 kq_09_mput_14 kq_04_msmall_6 kq_09_mput_15 rfl) rfl rfl rfl (by decide +kernel) ⟨Nat.le_of_ble_eq_true rfl, Nat.le_of_ble_eq_true rfl⟩) hP hD hK hG hZ hS hA rfl hl.1 rfl (Nat.le_of_ble_eq_true rfl) dX6_putNumber_32 ⟨Nat.le_of_ble_eq_true rfl, Nat.le_of_ble_eq_true rfl⟩ (fun I_39 F_40 H locs hq_38 hP hD hS => ?_)
              try dsimp only at hq_38
              obtain ⟨hB41, hf41, hd41, hX41⟩ := hq_38
              have hY41 := pt_X_app hY35 hX41
              refine lv_iload_n hx hb dX6_putNumber_35 rfl (lv_at hl 0 rfl) ?_
              refine lv_bipush (v := iz 10) hx hb dX6_putNumber_36 (by decide) ?_
              refine ki_idiv hx hb dX6_putNumber_38 (by omega) (by omega) (by omega) (by omega) ?_
              refine ki_is (show iz (1 / 10) = iz 0 from rfl) ?_
              refine lv_istore_n (lv' := [(2, .int (iz 0)), (0, .ref mo), (1, .int (iz p0))]) hx hb dX6_putNumber_39 rfl hl (by decide) rfl (fun ls hl => ?_)
              refine lv_goto (tgt := 18) hx hb dX6_putNumber_40 (by decide) ?_
              refine lv_iload_n hx hb dX6_putNumber_18 rfl (lv_at hl 0 rfl) ?_
              refine ki_if_le (tgt := 43) hx hb dX6_putNumber_19 (by decide) (by omega) (by omega) (fun c_42 => ?_) (fun c_42 => ?_)
              · skip
                exact mk_ret hx hb hr hlocks hP hD hK hS dX6_putNumber_43 (⟨hB41, (((mfr.rf.tr (hf29.mono (by decide) (by decide))).tr (hf35.mono (by decide) (by decide))).tr (hf41.mono (by decide) (by decide))), hd41, pt_X_eq hY41 (by unfold pt_nu pt_l; (first | rw [if_pos (show 10000 ≤ p0 by omega)] | rw [if_neg (show ¬ 10000 ≤ p0 by omega)]); (first | rw [if_pos (show 1000 ≤ p0 by omega)] | rw [if_neg (show ¬ 1000 ≤ p0 by omega)]); (first | rw [if_pos (show 100 ≤ p0 by omega)] | rw [if_neg (show ¬ 100 ≤ p0 by omega)]); (first | rw [if_pos (show 10 ≤ p0 by omega)] | rw [if_neg (show ¬ 10 ≤ p0 by omega)]); (first | rw [if_pos (show 1 ≤ p0 by omega)] | rw [if_neg (show ¬ 1 ≤ p0 by omega)]); rfl)⟩)
              · omega
      · skip
        refine lv_bipush (v := iz 10) hx hb dX6_putNumber_10 (by decide) ?_
        refine lv_iload_n hx hb dX6_putNumber_12 rfl (lv_at hl 0 rfl) ?_
        refine ki_imul hx hb dX6_putNumber_13 ?_
        refine ki_is (show iz (10 * 100) = iz 1000 from rfl) ?_
        refine lv_istore_n (lv' := [(2, .int (iz 1000)), (0, .ref mo), (1, .int (iz p0))]) hx hb dX6_putNumber_14 rfl hl (by decide) rfl (fun ls hl => ?_)
        refine lv_goto (tgt := 2) hx hb dX6_putNumber_15 (by decide) ?_
        refine lv_iload_n hx hb dX6_putNumber_2 rfl (lv_at hl 2 rfl) ?_
        refine lv_iload_n hx hb dX6_putNumber_3 rfl (lv_at hl 0 rfl) ?_
        refine ki_idiv hx hb dX6_putNumber_4 (by omega) (by omega) (by omega) (by omega) ?_
        refine lv_bipush (v := iz 9) hx hb dX6_putNumber_5 (by decide) ?_
        refine ki_icmp_le (tgt := 18) hx hb dX6_putNumber_7 (by decide) (by omega) (by omega) (by omega) (by omega) (fun c_43 => ?_) (fun c_43 => ?_)
        · skip
          refine lv_iload_n hx hb dX6_putNumber_18 rfl (lv_at hl 0 rfl) ?_
          refine ki_if_le (tgt := 43) hx hb dX6_putNumber_19 (by decide) (by omega) (by omega) (fun c_44 => ?_) (fun c_44 => ?_)
          · omega
          · skip
            refine lv_aload_n hx hb dX6_putNumber_22 rfl (lv_at hl 1 rfl) ?_
            refine lv_bipush (v := iz 48) hx hb dX6_putNumber_23 (by decide) ?_
            refine lv_iload_n hx hb dX6_putNumber_25 rfl (lv_at hl 2 rfl) ?_
            refine lv_iload_n hx hb dX6_putNumber_26 rfl (lv_at hl 0 rfl) ?_
            refine ki_idiv hx hb dX6_putNumber_27 (by omega) (by omega) (by omega) (by omega) ?_
            refine lv_bipush (v := iz 10) hx hb dX6_putNumber_28 (by decide) ?_
            refine ki_irem hx hb dX6_putNumber_30 (by omega) (by omega) (by omega) (by omega) ?_
            refine ki_iadd hx hb dX6_putNumber_31 ?_
            refine mk_callv (As := [.int (iz (48 + ((p0 / 1000) % 10)))]) (rest := []) ⟨hx, hb, hml, hown, hts⟩ (k_put2 l dC dI mo ma cs I F (48 + ((p0 / 1000) % 10)) s.heap.size hB hdr) (cwV 1 hts (kx_gV kq_09_mput_12 kq_09_mput_13 kq_09_mput_14 kq_04_msmall_6 kq_09_mput_15 rfl) rfl rfl rfl (by decide +kernel) ⟨Nat.le_of_ble_eq_true rfl, Nat.le_of_ble_eq_true rfl⟩) hP hD hK hG hZ hS hA rfl hl.1 rfl (Nat.le_of_ble_eq_true rfl) dX6_putNumber_32 ⟨Nat.le_of_ble_eq_true rfl, Nat.le_of_ble_eq_true rfl⟩ (fun I_47 F_48 H locs hq_46 hP hD hS => ?_)
            try dsimp only at hq_46
            obtain ⟨hB49, hf49, hd49, hX49⟩ := hq_46
            have hY49 := pt_X_app hX0 hX49
            refine lv_iload_n hx hb dX6_putNumber_35 rfl (lv_at hl 0 rfl) ?_
            refine lv_bipush (v := iz 10) hx hb dX6_putNumber_36 (by decide) ?_
            refine ki_idiv hx hb dX6_putNumber_38 (by omega) (by omega) (by omega) (by omega) ?_
            refine ki_is (show iz (1000 / 10) = iz 100 from rfl) ?_
            refine lv_istore_n (lv' := [(2, .int (iz 100)), (0, .ref mo), (1, .int (iz p0))]) hx hb dX6_putNumber_39 rfl hl (by decide) rfl (fun ls hl => ?_)
            refine lv_goto (tgt := 18) hx hb dX6_putNumber_40 (by decide) ?_
            refine lv_iload_n hx hb dX6_putNumber_18 rfl (lv_at hl 0 rfl) ?_
            refine ki_if_le (tgt := 43) hx hb dX6_putNumber_19 (by decide) (by omega) (by omega) (fun c_50 => ?_) (fun c_50 => ?_)
            · omega
            · skip
              refine lv_aload_n hx hb dX6_putNumber_22 rfl (lv_at hl 1 rfl) ?_
              refine lv_bipush (v := iz 48) hx hb dX6_putNumber_23 (by decide) ?_
              refine lv_iload_n hx hb dX6_putNumber_25 rfl (lv_at hl 2 rfl) ?_
              refine lv_iload_n hx hb dX6_putNumber_26 rfl (lv_at hl 0 rfl) ?_
              refine ki_idiv hx hb dX6_putNumber_27 (by omega) (by omega) (by omega) (by omega) ?_
              refine lv_bipush (v := iz 10) hx hb dX6_putNumber_28 (by decide) ?_
              refine ki_irem hx hb dX6_putNumber_30 (by omega) (by omega) (by omega) (by omega) ?_
              refine ki_iadd hx hb dX6_putNumber_31 ?_
              refine mk_callv (As := [.int (iz (48 + ((p0 / 100) % 10)))]) (rest := []) ⟨hx, hb, hml, hown, hts⟩ (k_put2 l dC dI mo ma cs I_47 F_48 (48 + ((p0 / 100) % 10)) H.size hB49 hd49) (cwV 1 hts (kx_gV kq_09_mput_12 kq_09_mput_13 kq_09_mput_14 kq_04_msmall_6 kq_09_mput_15 rfl) rfl rfl rfl (by decide +kernel) ⟨Nat.le_of_ble_eq_true rfl, Nat.le_of_ble_eq_true rfl⟩) hP hD hK hG hZ hS hA rfl hl.1 rfl (Nat.le_of_ble_eq_true rfl) dX6_putNumber_32 ⟨Nat.le_of_ble_eq_true rfl, Nat.le_of_ble_eq_true rfl⟩ (fun I_53 F_54 H locs hq_52 hP hD hS => ?_)
              try dsimp only at hq_52
              obtain ⟨hB55, hf55, hd55, hX55⟩ := hq_52
              have hY55 := pt_X_app hY49 hX55
              refine lv_iload_n hx hb dX6_putNumber_35 rfl (lv_at hl 0 rfl) ?_
              refine lv_bipush (v := iz 10) hx hb dX6_putNumber_36 (by decide) ?_
              refine ki_idiv hx hb dX6_putNumber_38 (by omega) (by omega) (by omega) (by omega) ?_
              refine ki_is (show iz (100 / 10) = iz 10 from rfl) ?_
              refine lv_istore_n (lv' := [(2, .int (iz 10)), (0, .ref mo), (1, .int (iz p0))]) hx hb dX6_putNumber_39 rfl hl (by decide) rfl (fun ls hl => ?_)
              refine lv_goto (tgt := 18) hx hb dX6_putNumber_40 (by decide) ?_
              refine lv_iload_n hx hb dX6_putNumber_18 rfl (lv_at hl 0 rfl) ?_
              refine ki_if_le (tgt := 43) hx hb dX6_putNumber_19 (by decide) (by omega) (by omega) (fun c_56 => ?_) (fun c_56 => ?_)
              · omega
              · skip
                refine lv_aload_n hx hb dX6_putNumber_22 rfl (lv_at hl 1 rfl) ?_
                refine lv_bipush (v := iz 48) hx hb dX6_putNumber_23 (by decide) ?_
                refine lv_iload_n hx hb dX6_putNumber_25 rfl (lv_at hl 2 rfl) ?_
                refine lv_iload_n hx hb dX6_putNumber_26 rfl (lv_at hl 0 rfl) ?_
                refine ki_idiv hx hb dX6_putNumber_27 (by omega) (by omega) (by omega) (by omega) ?_
                refine lv_bipush (v := iz 10) hx hb dX6_putNumber_28 (by decide) ?_
                refine ki_irem hx hb dX6_putNumber_30 (by omega) (by omega) (by omega) (by omega) ?_
                refine ki_iadd hx hb dX6_putNumber_31 ?_
                refine mk_callv (As := [.int (iz (48 + ((p0 / 10) % 10)))]) (rest := []) ⟨hx, hb, hml, hown, hts⟩ (k_put2 l dC dI mo ma cs I_53 F_54 (48 + ((p0 / 10) % 10)) H.size hB55 hd55) (cwV 1 hts (kx_gV kq_09_mput_12 kq_09_mput_13 kq_09_mput_14 kq_04_msmall_6 kq_09_mput_15 rfl) rfl rfl rfl (by decide +kernel) ⟨Nat.le_of_ble_eq_true rfl, Nat.le_of_ble_eq_true rfl⟩) hP hD hK hG hZ hS hA rfl hl.1 rfl (Nat.le_of_ble_eq_true rfl) dX6_putNumber_32 ⟨Nat.le_of_ble_eq_true rfl, Nat.le_of_ble_eq_true rfl⟩ (fun I_59 F_60 H locs hq_58 hP hD hS => ?_)
                try dsimp only at hq_58
                obtain ⟨hB61, hf61, hd61, hX61⟩ := hq_58
                have hY61 := pt_X_app hY55 hX61
                refine lv_iload_n hx hb dX6_putNumber_35 rfl (lv_at hl 0 rfl) ?_
                refine lv_bipush (v := iz 10) hx hb dX6_putNumber_36 (by decide) ?_
                refine ki_idiv hx hb dX6_putNumber_38 (by omega) (by omega) (by omega) (by omega) ?_
                refine ki_is (show iz (10 / 10) = iz 1 from rfl) ?_
                refine lv_istore_n (lv' := [(2, .int (iz 1)), (0, .ref mo), (1, .int (iz p0))]) hx hb dX6_putNumber_39 rfl hl (by decide) rfl (fun ls hl => ?_)
                refine lv_goto (tgt := 18) hx hb dX6_putNumber_40 (by decide) ?_
                refine lv_iload_n hx hb dX6_putNumber_18 rfl (lv_at hl 0 rfl) ?_
                refine ki_if_le (tgt := 43) hx hb dX6_putNumber_19 (by decide) (by omega) (by omega) (fun c_62 => ?_) (fun c_62 => ?_)
                · omega
                · skip
                  refine lv_aload_n hx hb dX6_putNumber_22 rfl (lv_at hl 1 rfl) ?_
                  refine lv_bipush (v := iz 48) hx hb dX6_putNumber_23 (by decide) ?_
                  refine lv_iload_n hx hb dX6_putNumber_25 rfl (lv_at hl 2 rfl) ?_
                  refine lv_iload_n hx hb dX6_putNumber_26 rfl (lv_at hl 0 rfl) ?_
                  refine ki_idiv hx hb dX6_putNumber_27 (by omega) (by omega) (by omega) (by omega) ?_
                  refine lv_bipush (v := iz 10) hx hb dX6_putNumber_28 (by decide) ?_
                  refine ki_irem hx hb dX6_putNumber_30 (by omega) (by omega) (by omega) (by omega) ?_
                  refine ki_iadd hx hb dX6_putNumber_31 ?_
                  refine mk_callv (As := [.int (iz (48 + ((p0 / 1) % 10)))]) (rest := []) ⟨hx, hb, hml, hown, hts⟩ (k_put2 l dC dI mo ma cs I_59 F_60 (48 + ((p0 / 1) % 10)) H.size hB61 hd61) (cwV 1 hts (kx_gV kq_09_mput_12 kq_09_mput_13 kq_09_mput_14 kq_04_msmall_6 kq_09_mput_15 rfl) rfl rfl rfl (by decide +kernel) ⟨Nat.le_of_ble_eq_true rfl, Nat.le_of_ble_eq_true rfl⟩) hP hD hK hG hZ hS hA rfl hl.1 rfl (Nat.le_of_ble_eq_true rfl) dX6_putNumber_32 ⟨Nat.le_of_ble_eq_true rfl, Nat.le_of_ble_eq_true rfl⟩ (fun I_65 F_66 H locs hq_64 hP hD hS => ?_)
                  try dsimp only at hq_64
                  obtain ⟨hB67, hf67, hd67, hX67⟩ := hq_64
                  have hY67 := pt_X_app hY61 hX67
                  refine lv_iload_n hx hb dX6_putNumber_35 rfl (lv_at hl 0 rfl) ?_
                  refine lv_bipush (v := iz 10) hx hb dX6_putNumber_36 (by decide) ?_
                  refine ki_idiv hx hb dX6_putNumber_38 (by omega) (by omega) (by omega) (by omega) ?_
                  refine ki_is (show iz (1 / 10) = iz 0 from rfl) ?_
                  refine lv_istore_n (lv' := [(2, .int (iz 0)), (0, .ref mo), (1, .int (iz p0))]) hx hb dX6_putNumber_39 rfl hl (by decide) rfl (fun ls hl => ?_)
                  refine lv_goto (tgt := 18) hx hb dX6_putNumber_40 (by decide) ?_
                  refine lv_iload_n hx hb dX6_putNumber_18 rfl (lv_at hl 0 rfl) ?_
                  refine ki_if_le (tgt := 43) hx hb dX6_putNumber_19 (by decide) (by omega) (by omega) (fun c_68 => ?_) (fun c_68 => ?_)
                  · skip
                    exact mk_ret hx hb hr hlocks hP hD hK hS dX6_putNumber_43 (⟨hB67, ((((mfr.rf.tr (hf49.mono (by decide) (by decide))).tr (hf55.mono (by decide) (by decide))).tr (hf61.mono (by decide) (by decide))).tr (hf67.mono (by decide) (by decide))), hd67, pt_X_eq hY67 (by unfold pt_nu pt_l; (first | rw [if_pos (show 10000 ≤ p0 by omega)] | rw [if_neg (show ¬ 10000 ≤ p0 by omega)]); (first | rw [if_pos (show 1000 ≤ p0 by omega)] | rw [if_neg (show ¬ 1000 ≤ p0 by omega)]); (first | rw [if_pos (show 100 ≤ p0 by omega)] | rw [if_neg (show ¬ 100 ≤ p0 by omega)]); (first | rw [if_pos (show 10 ≤ p0 by omega)] | rw [if_neg (show ¬ 10 ≤ p0 by omega)]); (first | rw [if_pos (show 1 ≤ p0 by omega)] | rw [if_neg (show ¬ 1 ≤ p0 by omega)]); rfl)⟩)
                  · omega
        · skip
          refine lv_bipush (v := iz 10) hx hb dX6_putNumber_10 (by decide) ?_
          refine lv_iload_n hx hb dX6_putNumber_12 rfl (lv_at hl 0 rfl) ?_
          refine ki_imul hx hb dX6_putNumber_13 ?_
          refine ki_is (show iz (10 * 1000) = iz 10000 from rfl) ?_
          refine lv_istore_n (lv' := [(2, .int (iz 10000)), (0, .ref mo), (1, .int (iz p0))]) hx hb dX6_putNumber_14 rfl hl (by decide) rfl (fun ls hl => ?_)
          refine lv_goto (tgt := 2) hx hb dX6_putNumber_15 (by decide) ?_
          refine lv_iload_n hx hb dX6_putNumber_2 rfl (lv_at hl 2 rfl) ?_
          refine lv_iload_n hx hb dX6_putNumber_3 rfl (lv_at hl 0 rfl) ?_
          refine ki_idiv hx hb dX6_putNumber_4 (by omega) (by omega) (by omega) (by omega) ?_
          refine lv_bipush (v := iz 9) hx hb dX6_putNumber_5 (by decide) ?_
          refine ki_icmp_le (tgt := 18) hx hb dX6_putNumber_7 (by decide) (by omega) (by omega) (by omega) (by omega) (fun c_69 => ?_) (fun c_69 => ?_)
          · skip
            refine lv_iload_n hx hb dX6_putNumber_18 rfl (lv_at hl 0 rfl) ?_
            refine ki_if_le (tgt := 43) hx hb dX6_putNumber_19 (by decide) (by omega) (by omega) (fun c_70 => ?_) (fun c_70 => ?_)
            · omega
            · skip
              refine lv_aload_n hx hb dX6_putNumber_22 rfl (lv_at hl 1 rfl) ?_
              refine lv_bipush (v := iz 48) hx hb dX6_putNumber_23 (by decide) ?_
              refine lv_iload_n hx hb dX6_putNumber_25 rfl (lv_at hl 2 rfl) ?_
              refine lv_iload_n hx hb dX6_putNumber_26 rfl (lv_at hl 0 rfl) ?_
              refine ki_idiv hx hb dX6_putNumber_27 (by omega) (by omega) (by omega) (by omega) ?_
              refine lv_bipush (v := iz 10) hx hb dX6_putNumber_28 (by decide) ?_
              refine ki_irem hx hb dX6_putNumber_30 (by omega) (by omega) (by omega) (by omega) ?_
              refine ki_iadd hx hb dX6_putNumber_31 ?_
              refine mk_callv (As := [.int (iz (48 + ((p0 / 10000) % 10)))]) (rest := []) ⟨hx, hb, hml, hown, hts⟩ (k_put2 l dC dI mo ma cs I F (48 + ((p0 / 10000) % 10)) s.heap.size hB hdr) (cwV 1 hts (kx_gV kq_09_mput_12 kq_09_mput_13 kq_09_mput_14 kq_04_msmall_6 kq_09_mput_15 rfl) rfl rfl rfl (by decide +kernel) ⟨Nat.le_of_ble_eq_true rfl, Nat.le_of_ble_eq_true rfl⟩) hP hD hK hG hZ hS hA rfl hl.1 rfl (Nat.le_of_ble_eq_true rfl) dX6_putNumber_32 ⟨Nat.le_of_ble_eq_true rfl, Nat.le_of_ble_eq_true rfl⟩ (fun I_73 F_74 H locs hq_72 hP hD hS => ?_)
              try dsimp only at hq_72
              obtain ⟨hB75, hf75, hd75, hX75⟩ := hq_72
              have hY75 := pt_X_app hX0 hX75
              refine lv_iload_n hx hb dX6_putNumber_35 rfl (lv_at hl 0 rfl) ?_
              refine lv_bipush (v := iz 10) hx hb dX6_putNumber_36 (by decide) ?_
              refine ki_idiv hx hb dX6_putNumber_38 (by omega) (by omega) (by omega) (by omega) ?_
              refine ki_is (show iz (10000 / 10) = iz 1000 from rfl) ?_
              refine lv_istore_n (lv' := [(2, .int (iz 1000)), (0, .ref mo), (1, .int (iz p0))]) hx hb dX6_putNumber_39 rfl hl (by decide) rfl (fun ls hl => ?_)
              refine lv_goto (tgt := 18) hx hb dX6_putNumber_40 (by decide) ?_
              refine lv_iload_n hx hb dX6_putNumber_18 rfl (lv_at hl 0 rfl) ?_
              refine ki_if_le (tgt := 43) hx hb dX6_putNumber_19 (by decide) (by omega) (by omega) (fun c_76 => ?_) (fun c_76 => ?_)
              · omega
              · skip
                refine lv_aload_n hx hb dX6_putNumber_22 rfl (lv_at hl 1 rfl) ?_
                refine lv_bipush (v := iz 48) hx hb dX6_putNumber_23 (by decide) ?_
                refine lv_iload_n hx hb dX6_putNumber_25 rfl (lv_at hl 2 rfl) ?_
                refine lv_iload_n hx hb dX6_putNumber_26 rfl (lv_at hl 0 rfl) ?_
                refine ki_idiv hx hb dX6_putNumber_27 (by omega) (by omega) (by omega) (by omega) ?_
                refine lv_bipush (v := iz 10) hx hb dX6_putNumber_28 (by decide) ?_
                refine ki_irem hx hb dX6_putNumber_30 (by omega) (by omega) (by omega) (by omega) ?_
                refine ki_iadd hx hb dX6_putNumber_31 ?_
                refine mk_callv (As := [.int (iz (48 + ((p0 / 1000) % 10)))]) (rest := []) ⟨hx, hb, hml, hown, hts⟩ (k_put2 l dC dI mo ma cs I_73 F_74 (48 + ((p0 / 1000) % 10)) H.size hB75 hd75) (cwV 1 hts (kx_gV kq_09_mput_12 kq_09_mput_13 kq_09_mput_14 kq_04_msmall_6 kq_09_mput_15 rfl) rfl rfl rfl (by decide +kernel) ⟨Nat.le_of_ble_eq_true rfl, Nat.le_of_ble_eq_true rfl⟩) hP hD hK hG hZ hS hA rfl hl.1 rfl (Nat.le_of_ble_eq_true rfl) dX6_putNumber_32 ⟨Nat.le_of_ble_eq_true rfl, Nat.le_of_ble_eq_true rfl⟩ (fun I_79 F_80 H locs hq_78 hP hD hS => ?_)
                try dsimp only at hq_78
                obtain ⟨hB81, hf81, hd81, hX81⟩ := hq_78
                have hY81 := pt_X_app hY75 hX81
                refine lv_iload_n hx hb dX6_putNumber_35 rfl (lv_at hl 0 rfl) ?_
                refine lv_bipush (v := iz 10) hx hb dX6_putNumber_36 (by decide) ?_
                refine ki_idiv hx hb dX6_putNumber_38 (by omega) (by omega) (by omega) (by omega) ?_
                refine ki_is (show iz (1000 / 10) = iz 100 from rfl) ?_
                refine lv_istore_n (lv' := [(2, .int (iz 100)), (0, .ref mo), (1, .int (iz p0))]) hx hb dX6_putNumber_39 rfl hl (by decide) rfl (fun ls hl => ?_)
                refine lv_goto (tgt := 18) hx hb dX6_putNumber_40 (by decide) ?_
                refine lv_iload_n hx hb dX6_putNumber_18 rfl (lv_at hl 0 rfl) ?_
                refine ki_if_le (tgt := 43) hx hb dX6_putNumber_19 (by decide) (by omega) (by omega) (fun c_82 => ?_) (fun c_82 => ?_)
                · omega
                · skip
                  refine lv_aload_n hx hb dX6_putNumber_22 rfl (lv_at hl 1 rfl) ?_
                  refine lv_bipush (v := iz 48) hx hb dX6_putNumber_23 (by decide) ?_
                  refine lv_iload_n hx hb dX6_putNumber_25 rfl (lv_at hl 2 rfl) ?_
                  refine lv_iload_n hx hb dX6_putNumber_26 rfl (lv_at hl 0 rfl) ?_
                  refine ki_idiv hx hb dX6_putNumber_27 (by omega) (by omega) (by omega) (by omega) ?_
                  refine lv_bipush (v := iz 10) hx hb dX6_putNumber_28 (by decide) ?_
                  refine ki_irem hx hb dX6_putNumber_30 (by omega) (by omega) (by omega) (by omega) ?_
                  refine ki_iadd hx hb dX6_putNumber_31 ?_
                  refine mk_callv (As := [.int (iz (48 + ((p0 / 100) % 10)))]) (rest := []) ⟨hx, hb, hml, hown, hts⟩ (k_put2 l dC dI mo ma cs I_79 F_80 (48 + ((p0 / 100) % 10)) H.size hB81 hd81) (cwV 1 hts (kx_gV kq_09_mput_12 kq_09_mput_13 kq_09_mput_14 kq_04_msmall_6 kq_09_mput_15 rfl) rfl rfl rfl (by decide +kernel) ⟨Nat.le_of_ble_eq_true rfl, Nat.le_of_ble_eq_true rfl⟩) hP hD hK hG hZ hS hA rfl hl.1 rfl (Nat.le_of_ble_eq_true rfl) dX6_putNumber_32 ⟨Nat.le_of_ble_eq_true rfl, Nat.le_of_ble_eq_true rfl⟩ (fun I_85 F_86 H locs hq_84 hP hD hS => ?_)
                  try dsimp only at hq_84
                  obtain ⟨hB87, hf87, hd87, hX87⟩ := hq_84
                  have hY87 := pt_X_app hY81 hX87
                  refine lv_iload_n hx hb dX6_putNumber_35 rfl (lv_at hl 0 rfl) ?_
                  refine lv_bipush (v := iz 10) hx hb dX6_putNumber_36 (by decide) ?_
                  refine ki_idiv hx hb dX6_putNumber_38 (by omega) (by omega) (by omega) (by omega) ?_
                  refine ki_is (show iz (100 / 10) = iz 10 from rfl) ?_
                  refine lv_istore_n (lv' := [(2, .int (iz 10)), (0, .ref mo), (1, .int (iz p0))]) hx hb dX6_putNumber_39 rfl hl (by decide) rfl (fun ls hl => ?_)
                  refine lv_goto (tgt := 18) hx hb dX6_putNumber_40 (by decide) ?_
                  refine lv_iload_n hx hb dX6_putNumber_18 rfl (lv_at hl 0 rfl) ?_
                  refine ki_if_le (tgt := 43) hx hb dX6_putNumber_19 (by decide) (by omega) (by omega) (fun c_88 => ?_) (fun c_88 => ?_)
                  · omega
                  · skip
                    refine lv_aload_n hx hb dX6_putNumber_22 rfl (lv_at hl 1 rfl) ?_
                    refine lv_bipush (v := iz 48) hx hb dX6_putNumber_23 (by decide) ?_
                    refine lv_iload_n hx hb dX6_putNumber_25 rfl (lv_at hl 2 rfl) ?_
                    refine lv_iload_n hx hb dX6_putNumber_26 rfl (lv_at hl 0 rfl) ?_
                    refine ki_idiv hx hb dX6_putNumber_27 (by omega) (by omega) (by omega) (by omega) ?_
                    refine lv_bipush (v := iz 10) hx hb dX6_putNumber_28 (by decide) ?_
                    refine ki_irem hx hb dX6_putNumber_30 (by omega) (by omega) (by omega) (by omega) ?_
                    refine ki_iadd hx hb dX6_putNumber_31 ?_
                    refine mk_callv (As := [.int (iz (48 + ((p0 / 10) % 10)))]) (rest := []) ⟨hx, hb, hml, hown, hts⟩ (k_put2 l dC dI mo ma cs I_85 F_86 (48 + ((p0 / 10) % 10)) H.size hB87 hd87) (cwV 1 hts (kx_gV kq_09_mput_12 kq_09_mput_13 kq_09_mput_14 kq_04_msmall_6 kq_09_mput_15 rfl) rfl rfl rfl (by decide +kernel) ⟨Nat.le_of_ble_eq_true rfl, Nat.le_of_ble_eq_true rfl⟩) hP hD hK hG hZ hS hA rfl hl.1 rfl (Nat.le_of_ble_eq_true rfl) dX6_putNumber_32 ⟨Nat.le_of_ble_eq_true rfl, Nat.le_of_ble_eq_true rfl⟩ (fun I_91 F_92 H locs hq_90 hP hD hS => ?_)
                    try dsimp only at hq_90
                    obtain ⟨hB93, hf93, hd93, hX93⟩ := hq_90
                    have hY93 := pt_X_app hY87 hX93
                    refine lv_iload_n hx hb dX6_putNumber_35 rfl (lv_at hl 0 rfl) ?_
                    refine lv_bipush (v := iz 10) hx hb dX6_putNumber_36 (by decide) ?_
                    refine ki_idiv hx hb dX6_putNumber_38 (by omega) (by omega) (by omega) (by omega) ?_
                    refine ki_is (show iz (10 / 10) = iz 1 from rfl) ?_
                    refine lv_istore_n (lv' := [(2, .int (iz 1)), (0, .ref mo), (1, .int (iz p0))]) hx hb dX6_putNumber_39 rfl hl (by decide) rfl (fun ls hl => ?_)
                    refine lv_goto (tgt := 18) hx hb dX6_putNumber_40 (by decide) ?_
                    refine lv_iload_n hx hb dX6_putNumber_18 rfl (lv_at hl 0 rfl) ?_
                    refine ki_if_le (tgt := 43) hx hb dX6_putNumber_19 (by decide) (by omega) (by omega) (fun c_94 => ?_) (fun c_94 => ?_)
                    · omega
                    · skip
                      refine lv_aload_n hx hb dX6_putNumber_22 rfl (lv_at hl 1 rfl) ?_
                      refine lv_bipush (v := iz 48) hx hb dX6_putNumber_23 (by decide) ?_
                      refine lv_iload_n hx hb dX6_putNumber_25 rfl (lv_at hl 2 rfl) ?_
                      refine lv_iload_n hx hb dX6_putNumber_26 rfl (lv_at hl 0 rfl) ?_
                      refine ki_idiv hx hb dX6_putNumber_27 (by omega) (by omega) (by omega) (by omega) ?_
                      refine lv_bipush (v := iz 10) hx hb dX6_putNumber_28 (by decide) ?_
                      refine ki_irem hx hb dX6_putNumber_30 (by omega) (by omega) (by omega) (by omega) ?_
                      refine ki_iadd hx hb dX6_putNumber_31 ?_
                      refine mk_callv (As := [.int (iz (48 + ((p0 / 1) % 10)))]) (rest := []) ⟨hx, hb, hml, hown, hts⟩ (k_put2 l dC dI mo ma cs I_91 F_92 (48 + ((p0 / 1) % 10)) H.size hB93 hd93) (cwV 1 hts (kx_gV kq_09_mput_12 kq_09_mput_13 kq_09_mput_14 kq_04_msmall_6 kq_09_mput_15 rfl) rfl rfl rfl (by decide +kernel) ⟨Nat.le_of_ble_eq_true rfl, Nat.le_of_ble_eq_true rfl⟩) hP hD hK hG hZ hS hA rfl hl.1 rfl (Nat.le_of_ble_eq_true rfl) dX6_putNumber_32 ⟨Nat.le_of_ble_eq_true rfl, Nat.le_of_ble_eq_true rfl⟩ (fun I_97 F_98 H locs hq_96 hP hD hS => ?_)
                      try dsimp only at hq_96
                      obtain ⟨hB99, hf99, hd99, hX99⟩ := hq_96
                      have hY99 := pt_X_app hY93 hX99
                      refine lv_iload_n hx hb dX6_putNumber_35 rfl (lv_at hl 0 rfl) ?_
                      refine lv_bipush (v := iz 10) hx hb dX6_putNumber_36 (by decide) ?_
                      refine ki_idiv hx hb dX6_putNumber_38 (by omega) (by omega) (by omega) (by omega) ?_
                      refine ki_is (show iz (1 / 10) = iz 0 from rfl) ?_
                      refine lv_istore_n (lv' := [(2, .int (iz 0)), (0, .ref mo), (1, .int (iz p0))]) hx hb dX6_putNumber_39 rfl hl (by decide) rfl (fun ls hl => ?_)
                      refine lv_goto (tgt := 18) hx hb dX6_putNumber_40 (by decide) ?_
                      refine lv_iload_n hx hb dX6_putNumber_18 rfl (lv_at hl 0 rfl) ?_
                      refine ki_if_le (tgt := 43) hx hb dX6_putNumber_19 (by decide) (by omega) (by omega) (fun c_100 => ?_) (fun c_100 => ?_)
                      · skip
                        exact mk_ret hx hb hr hlocks hP hD hK hS dX6_putNumber_43 (⟨hB99, (((((mfr.rf.tr (hf75.mono (by decide) (by decide))).tr (hf81.mono (by decide) (by decide))).tr (hf87.mono (by decide) (by decide))).tr (hf93.mono (by decide) (by decide))).tr (hf99.mono (by decide) (by decide))), hd99, pt_X_eq hY99 (by unfold pt_nu pt_l; (first | rw [if_pos (show 10000 ≤ p0 by omega)] | rw [if_neg (show ¬ 10000 ≤ p0 by omega)]); (first | rw [if_pos (show 1000 ≤ p0 by omega)] | rw [if_neg (show ¬ 1000 ≤ p0 by omega)]); (first | rw [if_pos (show 100 ≤ p0 by omega)] | rw [if_neg (show ¬ 100 ≤ p0 by omega)]); (first | rw [if_pos (show 10 ≤ p0 by omega)] | rw [if_neg (show ¬ 10 ≤ p0 by omega)]); (first | rw [if_pos (show 1 ≤ p0 by omega)] | rw [if_neg (show ¬ 1 ≤ p0 by omega)]); rfl)⟩)
                      · omega
          · omega
set_option maxHeartbeats 4000000 in
set_option maxRecDepth 100000 in
theorem k_putSmallRoman2 (l : Launch) (dC : Nat → ClassId) (dI : Nat → Nat → Nat) (mo : Nat) (ma : Nat → Nat) (cs : Nat → ClassId) (I : Nat → Int) (F : Nat → Int → Int) (p0 : Int) (sz : Nat) (hB : mB I F) (hdr : mDr I) (h0 : 0 ≤ p0 ∧ p0 < 4000) : mMv l yX6_putSmallRoman (.code yX6_putSmallRoman cX6_putSmallRoman 3 none) 2 43 dC dI mo ma cs I F [.ref mo, .int (iz p0)] sz (fun (I' : Nat → Int) (F' : Nat → Int → Int) => mB I' F' ∧ mfr [42, 43] [41] I F I' F' ∧ mDr I' ∧ pt_X (F 41) (I 42) (I 43) (pt_l (pt_ro p0)) (F' 41) (I' 42) (I' 43)) := by
  refine Met.ofW (cc := cX6_putSmallRoman) (maxL := 3) (ret := none) (by decide) rfl ?_
  intro p e s m args below meth c s₁ B hml hv
  obtain ⟨rfl, hsz, hP, hK, hD0, hG, hZ⟩ := hv
  have hx := B.exec
  have hb := B.bytes
  have hr := B.returns
  have hts := kx_hts (a := ([.ref mo, .int (iz p0)] : List Value).toArray) hG
  have hown : s.vm.findClass RX6 = some m.cls := findClass_of_methodNamed B.named
  have hlocks := B.notSynchronized
  subst hsz
  have hD := hD0.self (sz := s.heap.size)
  generalize hAe : va_A (mW mo ma cs I F) s.heap.size = A at hD hZ ⊢
  have hA : ∀ q : Nat, s.heap.size ≤ q → A q := fun q h => by rw [← hAe]; exact Or.inr h
  have hS : va_S A s.heap s.heap [] := va_S.rf
  have hl := lv_entry ([.ref mo, .int (iz p0)]) (n := 3) (Nat.le_of_ble_eq_true rfl)
  rw [lg_entry_eq]
  generalize (lg_sl ([.ref mo, .int (iz p0)]) ++ List.replicate (3 - (lg_sl ([.ref mo, .int (iz p0)])).length) Slot.unset).toArray = ls at hl ⊢
  have hl : lv_has ls 3 [(0, .ref mo), (1, .int (iz p0))] := hl
  generalize hQe : MQ below (mQv dC dI mo ma cs A (fun (I' : Nat → Int) (F' : Nat → Int → Int) => mB I' F' ∧ mfr [42, 43] [41] I F I' F' ∧ mDr I' ∧ pt_X (F 41) (I 42) (I 43) (pt_l (pt_ro p0)) (F' 41) (I' 42) (I' 43))) ([.ref mo, .int (iz p0)] : List Value).toArray s 0 0 A = QQ
  have hX0 := pt_X_nil (F 41) (I 42) (I 43)
  refine lv_iload_n hx hb dX6_putSmallRoman_0 rfl (lv_at hl 1 rfl) ?_
  refine lv_istore_n (lv' := [(2, .int (iz p0)), (0, .ref mo), (1, .int (iz p0))]) hx hb dX6_putSmallRoman_1 rfl hl (by decide) rfl (fun ls hl => ?_)
  have lp2 : ∀ (n : Nat) (lf : Int) (J : Nat → Int) (G : Nat → Int → Int), ((mB J G) ∧ (mfr [42, 43] [41] I F J G) ∧ (mDr J) ∧ (0 ≤ lf ∧ lf < 4000) ∧ (∃ Y9, pt_X (F 41) (I 42) (I 43) (pt_l Y9) (G 41) (J 42) (J 43) ∧ pt_ro p0 = Y9 ++ pt_gr lf.toNat lf)) → (lf).toNat < n → ∀ (H : Heap) (locs : List Loc), va_P (dC, dI) kxCl (mW mo ma cs J G) H → va_D A (mW mo ma cs J G) → va_S A s.heap H locs → ∀ ls : Array Slot, lv_has ls 3 [(2, .int (iz lf)), (0, .ref mo), (1, .int (iz p0))] → W p l e (headSpec [.code yX6_putSmallRoman cX6_putSmallRoman 3 none] ({ frames := 2, cells := 0, slots := 0, locals := 43 })).room s m ([.ref mo, .int (iz p0)] : List Value).toArray below meth c H locs 0 0 QQ (F0 m 2 ls []) := by
    intro n
    induction n with
    | zero => intro lf J G hinv hm; exact absurd hm (Nat.not_lt_zero _)
    | succ n ih2 =>
      intro lf J G hinv hm H locs hP hD hS ls hl
      obtain ⟨hBJ, hfJ, hdJ, hlf, hXJ⟩ := hinv
      obtain ⟨Y9, hX9, hY9⟩ := hXJ
      refine lv_iload_n hx hb dX6_putSmallRoman_2 rfl (lv_at hl 0 rfl) ?_
      refine ki_if_le (tgt := 270) hx hb dX6_putSmallRoman_3 (by decide) (by omega) (by omega) (fun c_1 => ?_) (fun c_1 => ?_)
      · skip
        rw [← hQe]
        exact mk_ret hx hb hr hlocks hP hD hK hS dX6_putSmallRoman_270 (⟨hBJ, hfJ, hdJ, pt_X_eq hX9 (by rw [hY9, pt_gr_0 _ (by omega), List.append_nil])⟩)
      · skip
        refine lv_iload_n hx hb dX6_putSmallRoman_6 rfl (lv_at hl 0 rfl) ?_
        refine lv_sipush (v := iz 1000) hx hb dX6_putSmallRoman_7 (by decide) ?_
        refine ki_icmp_lt (tgt := 28) hx hb dX6_putSmallRoman_10 (by decide) (by omega) (by omega) (by omega) (by omega) (fun c_2 => ?_) (fun c_2 => ?_)
        · skip
          refine lv_iload_n hx hb dX6_putSmallRoman_28 rfl (lv_at hl 0 rfl) ?_
          refine lv_sipush (v := iz 900) hx hb dX6_putSmallRoman_29 (by decide) ?_
          refine ki_icmp_lt (tgt := 52) hx hb dX6_putSmallRoman_32 (by decide) (by omega) (by omega) (by omega) (by omega) (fun c_3 => ?_) (fun c_3 => ?_)
          · skip
            refine lv_iload_n hx hb dX6_putSmallRoman_52 rfl (lv_at hl 0 rfl) ?_
            refine lv_sipush (v := iz 500) hx hb dX6_putSmallRoman_53 (by decide) ?_
            refine ki_icmp_lt (tgt := 74) hx hb dX6_putSmallRoman_56 (by decide) (by omega) (by omega) (by omega) (by omega) (fun c_4 => ?_) (fun c_4 => ?_)
            · skip
              refine lv_iload_n hx hb dX6_putSmallRoman_74 rfl (lv_at hl 0 rfl) ?_
              refine lv_sipush (v := iz 400) hx hb dX6_putSmallRoman_75 (by decide) ?_
              refine ki_icmp_lt (tgt := 98) hx hb dX6_putSmallRoman_78 (by decide) (by omega) (by omega) (by omega) (by omega) (fun c_5 => ?_) (fun c_5 => ?_)
              · skip
                refine lv_iload_n hx hb dX6_putSmallRoman_98 rfl (lv_at hl 0 rfl) ?_
                refine lv_bipush (v := iz 100) hx hb dX6_putSmallRoman_99 (by decide) ?_
                refine ki_icmp_lt (tgt := 118) hx hb dX6_putSmallRoman_101 (by decide) (by omega) (by omega) (by omega) (by omega) (fun c_6 => ?_) (fun c_6 => ?_)
                · skip
                  refine lv_iload_n hx hb dX6_putSmallRoman_118 rfl (lv_at hl 0 rfl) ?_
                  refine lv_bipush (v := iz 90) hx hb dX6_putSmallRoman_119 (by decide) ?_
                  refine ki_icmp_lt (tgt := 140) hx hb dX6_putSmallRoman_121 (by decide) (by omega) (by omega) (by omega) (by omega) (fun c_7 => ?_) (fun c_7 => ?_)
                  · skip
                    refine lv_iload_n hx hb dX6_putSmallRoman_140 rfl (lv_at hl 0 rfl) ?_
                    refine lv_bipush (v := iz 50) hx hb dX6_putSmallRoman_141 (by decide) ?_
                    refine ki_icmp_lt (tgt := 160) hx hb dX6_putSmallRoman_143 (by decide) (by omega) (by omega) (by omega) (by omega) (fun c_8 => ?_) (fun c_8 => ?_)
                    · skip
                      refine lv_iload_n hx hb dX6_putSmallRoman_160 rfl (lv_at hl 0 rfl) ?_
                      refine lv_bipush (v := iz 40) hx hb dX6_putSmallRoman_161 (by decide) ?_
                      refine ki_icmp_lt (tgt := 182) hx hb dX6_putSmallRoman_163 (by decide) (by omega) (by omega) (by omega) (by omega) (fun c_9 => ?_) (fun c_9 => ?_)
                      · skip
                        refine lv_iload_n hx hb dX6_putSmallRoman_182 rfl (lv_at hl 0 rfl) ?_
                        refine lv_bipush (v := iz 10) hx hb dX6_putSmallRoman_183 (by decide) ?_
                        refine ki_icmp_lt (tgt := 202) hx hb dX6_putSmallRoman_185 (by decide) (by omega) (by omega) (by omega) (by omega) (fun c_10 => ?_) (fun c_10 => ?_)
                        · skip
                          refine lv_iload_n hx hb dX6_putSmallRoman_202 rfl (lv_at hl 0 rfl) ?_
                          refine lv_bipush (v := iz 9) hx hb dX6_putSmallRoman_203 (by decide) ?_
                          refine ki_icmp_ne (tgt := 221) hx hb dX6_putSmallRoman_205 (by decide) (by omega) (by omega) (by omega) (by omega) (fun c_11 => ?_) (fun c_11 => ?_)
                          · skip
                            refine lv_iload_n hx hb dX6_putSmallRoman_221 rfl (lv_at hl 0 rfl) ?_
                            refine lv_iconst (v := iz 5) hx hb dX6_putSmallRoman_222 (by decide) ?_
                            refine ki_icmp_lt (tgt := 239) hx hb dX6_putSmallRoman_223 (by decide) (by omega) (by omega) (by omega) (by omega) (fun c_12 => ?_) (fun c_12 => ?_)
                            · skip
                              refine lv_iload_n hx hb dX6_putSmallRoman_239 rfl (lv_at hl 0 rfl) ?_
                              refine lv_iconst (v := iz 4) hx hb dX6_putSmallRoman_240 (by decide) ?_
                              refine ki_icmp_ne (tgt := 257) hx hb dX6_putSmallRoman_241 (by decide) (by omega) (by omega) (by omega) (by omega) (fun c_13 => ?_) (fun c_13 => ?_)
                              · skip
                                refine lv_aload_n hx hb dX6_putSmallRoman_257 rfl (lv_at hl 1 rfl) ?_
                                refine lv_bipush (v := iz 105) hx hb dX6_putSmallRoman_258 (by decide) ?_
                                refine mk_callv (As := [.int (iz 105)]) (rest := []) ⟨hx, hb, hml, hown, hts⟩ (k_put2 l dC dI mo ma cs J G 105 H.size hBJ hdJ) (cwV 1 hts (kx_gV kq_09_mput_12 kq_09_mput_13 kq_09_mput_14 kq_04_msmall_6 kq_09_mput_15 rfl) rfl rfl rfl (by decide +kernel) ⟨Nat.le_of_ble_eq_true rfl, Nat.le_of_ble_eq_true rfl⟩) hP hD hK hG hZ hS hA rfl hl.1 rfl (Nat.le_of_ble_eq_true rfl) dX6_putSmallRoman_260 ⟨Nat.le_of_ble_eq_true rfl, Nat.le_of_ble_eq_true rfl⟩ (fun I_16 F_17 H locs hq_15 hP hD hS => ?_)
                                try dsimp only at hq_15
                                obtain ⟨hB18, hf18, hd18, hX18⟩ := hq_15
                                have hY18 := pt_X_app hX9 hX18
                                refine lv_iload_n hx hb dX6_putSmallRoman_263 rfl (lv_at hl 0 rfl) ?_
                                refine lv_iconst (v := iz 1) hx hb dX6_putSmallRoman_264 (by decide) ?_
                                refine ki_isub hx hb dX6_putSmallRoman_265 ?_
                                refine lv_istore_n (lv' := [(2, .int (iz (lf - 1))), (0, .ref mo), (1, .int (iz p0))]) hx hb dX6_putSmallRoman_266 rfl hl (by decide) rfl (fun ls hl => ?_)
                                refine lv_goto (tgt := 2) hx hb dX6_putSmallRoman_267 (by decide) ?_
                                exact ih2 (lf - 1) I_16 F_17 ⟨hB18, (hfJ.tr (hf18.mono (by decide) (by decide))), hd18, by omega, ⟨Y9 ++ [105], pt_X_eq hY18 (by rw [pt_l_app]; rfl), (by rw [hY9, pt_gr_st (show 0 < lf by omega)]; (repeat (first | rw [if_pos (by omega)] | rw [if_neg (by omega)])); rw [List.append_assoc]; rfl)⟩⟩ (by omega) _ _ hP hD hS ls (lv_sub hl [0, 1, 2] rfl)
                              · skip
                                refine lv_aload_n hx hb dX6_putSmallRoman_244 rfl (lv_at hl 1 rfl) ?_
                                refine lv_bipush (v := iz 105) hx hb dX6_putSmallRoman_245 (by decide) ?_
                                refine lv_bipush (v := iz 118) hx hb dX6_putSmallRoman_247 (by decide) ?_
                                refine mk_callv (As := [.int (iz 105), .int (iz 118)]) (rest := []) ⟨hx, hb, hml, hown, hts⟩ (k_putPair2 l dC dI mo ma cs J G 105 118 H.size hBJ hdJ) (cwV 2 hts (kx_gV kq_09_mput_16 kq_09_mput_17 kq_09_mput_18 kq_04_msmall_6 kq_09_mput_19 rfl) rfl rfl rfl (by decide +kernel) ⟨Nat.le_of_ble_eq_true rfl, Nat.le_of_ble_eq_true rfl⟩) hP hD hK hG hZ hS hA rfl hl.1 rfl (Nat.le_of_ble_eq_true rfl) dX6_putSmallRoman_249 ⟨Nat.le_of_ble_eq_true rfl, Nat.le_of_ble_eq_true rfl⟩ (fun I_21 F_22 H locs hq_20 hP hD hS => ?_)
                                try dsimp only at hq_20
                                obtain ⟨hB23, hf23, hd23, hX23⟩ := hq_20
                                have hY23 := pt_X_app hX9 hX23
                                refine lv_iconst (v := iz 0) hx hb dX6_putSmallRoman_252 (by decide) ?_
                                refine lv_istore_n (lv' := [(2, .int (iz 0)), (0, .ref mo), (1, .int (iz p0))]) hx hb dX6_putSmallRoman_253 rfl hl (by decide) rfl (fun ls hl => ?_)
                                refine lv_goto (tgt := 2) hx hb dX6_putSmallRoman_254 (by decide) ?_
                                exact ih2 0 I_21 F_22 ⟨hB23, (hfJ.tr (hf23.mono (by decide) (by decide))), hd23, by omega, ⟨Y9 ++ [105, 118], pt_X_eq hY23 (by rw [pt_l_app]; rfl), (by rw [hY9, pt_gr_st (show 0 < lf by omega)]; (repeat (first | rw [if_pos (by omega)] | rw [if_neg (by omega)])); rw [List.append_assoc]; rfl)⟩⟩ (by omega) _ _ hP hD hS ls (lv_sub hl [0, 1, 2] rfl)
                            · skip
                              refine lv_aload_n hx hb dX6_putSmallRoman_226 rfl (lv_at hl 1 rfl) ?_
                              refine lv_bipush (v := iz 118) hx hb dX6_putSmallRoman_227 (by decide) ?_
                              refine mk_callv (As := [.int (iz 118)]) (rest := []) ⟨hx, hb, hml, hown, hts⟩ (k_put2 l dC dI mo ma cs J G 118 H.size hBJ hdJ) (cwV 1 hts (kx_gV kq_09_mput_12 kq_09_mput_13 kq_09_mput_14 kq_04_msmall_6 kq_09_mput_15 rfl) rfl rfl rfl (by decide +kernel) ⟨Nat.le_of_ble_eq_true rfl, Nat.le_of_ble_eq_true rfl⟩) hP hD hK hG hZ hS hA rfl hl.1 rfl (Nat.le_of_ble_eq_true rfl) dX6_putSmallRoman_229 ⟨Nat.le_of_ble_eq_true rfl, Nat.le_of_ble_eq_true rfl⟩ (fun I_26 F_27 H locs hq_25 hP hD hS => ?_)
                              try dsimp only at hq_25
                              obtain ⟨hB28, hf28, hd28, hX28⟩ := hq_25
                              have hY28 := pt_X_app hX9 hX28
                              refine lv_iload_n hx hb dX6_putSmallRoman_232 rfl (lv_at hl 0 rfl) ?_
                              refine lv_iconst (v := iz 5) hx hb dX6_putSmallRoman_233 (by decide) ?_
                              refine ki_isub hx hb dX6_putSmallRoman_234 ?_
                              refine lv_istore_n (lv' := [(2, .int (iz (lf - 5))), (0, .ref mo), (1, .int (iz p0))]) hx hb dX6_putSmallRoman_235 rfl hl (by decide) rfl (fun ls hl => ?_)
                              refine lv_goto (tgt := 2) hx hb dX6_putSmallRoman_236 (by decide) ?_
                              exact ih2 (lf - 5) I_26 F_27 ⟨hB28, (hfJ.tr (hf28.mono (by decide) (by decide))), hd28, by omega, ⟨Y9 ++ [118], pt_X_eq hY28 (by rw [pt_l_app]; rfl), (by rw [hY9, pt_gr_st (show 0 < lf by omega)]; (repeat (first | rw [if_pos (by omega)] | rw [if_neg (by omega)])); rw [List.append_assoc]; rfl)⟩⟩ (by omega) _ _ hP hD hS ls (lv_sub hl [0, 1, 2] rfl)
                          · skip
                            refine lv_aload_n hx hb dX6_putSmallRoman_208 rfl (lv_at hl 1 rfl) ?_
                            refine lv_bipush (v := iz 105) hx hb dX6_putSmallRoman_209 (by decide) ?_
                            refine lv_bipush (v := iz 120) hx hb dX6_putSmallRoman_211 (by decide) ?_
                            refine mk_callv (As := [.int (iz 105), .int (iz 120)]) (rest := []) ⟨hx, hb, hml, hown, hts⟩ (k_putPair2 l dC dI mo ma cs J G 105 120 H.size hBJ hdJ) (cwV 2 hts (kx_gV kq_09_mput_16 kq_09_mput_17 kq_09_mput_18 kq_04_msmall_6 kq_09_mput_19 rfl) rfl rfl rfl (by decide +kernel) ⟨Nat.le_of_ble_eq_true rfl, Nat.le_of_ble_eq_true rfl⟩) hP hD hK hG hZ hS hA rfl hl.1 rfl (Nat.le_of_ble_eq_true rfl) dX6_putSmallRoman_213 ⟨Nat.le_of_ble_eq_true rfl, Nat.le_of_ble_eq_true rfl⟩ (fun I_31 F_32 H locs hq_30 hP hD hS => ?_)
                            try dsimp only at hq_30
                            obtain ⟨hB33, hf33, hd33, hX33⟩ := hq_30
                            have hY33 := pt_X_app hX9 hX33
                            refine lv_iconst (v := iz 0) hx hb dX6_putSmallRoman_216 (by decide) ?_
                            refine lv_istore_n (lv' := [(2, .int (iz 0)), (0, .ref mo), (1, .int (iz p0))]) hx hb dX6_putSmallRoman_217 rfl hl (by decide) rfl (fun ls hl => ?_)
                            refine lv_goto (tgt := 2) hx hb dX6_putSmallRoman_218 (by decide) ?_
                            exact ih2 0 I_31 F_32 ⟨hB33, (hfJ.tr (hf33.mono (by decide) (by decide))), hd33, by omega, ⟨Y9 ++ [105, 120], pt_X_eq hY33 (by rw [pt_l_app]; rfl), (by rw [hY9, pt_gr_st (show 0 < lf by omega)]; (repeat (first | rw [if_pos (by omega)] | rw [if_neg (by omega)])); rw [List.append_assoc]; rfl)⟩⟩ (by omega) _ _ hP hD hS ls (lv_sub hl [0, 1, 2] rfl)
                        · skip
                          refine lv_aload_n hx hb dX6_putSmallRoman_188 rfl (lv_at hl 1 rfl) ?_
                          refine lv_bipush (v := iz 120) hx hb dX6_putSmallRoman_189 (by decide) ?_
                          refine mk_callv (As := [.int (iz 120)]) (rest := []) ⟨hx, hb, hml, hown, hts⟩ (k_put2 l dC dI mo ma cs J G 120 H.size hBJ hdJ) (cwV 1 hts (kx_gV kq_09_mput_12 kq_09_mput_13 kq_09_mput_14 kq_04_msmall_6 kq_09_mput_15 rfl) rfl rfl rfl (by decide +kernel) ⟨Nat.le_of_ble_eq_true rfl, Nat.le_of_ble_eq_true rfl⟩) hP hD hK hG hZ hS hA rfl hl.1 rfl (Nat.le_of_ble_eq_true rfl) dX6_putSmallRoman_191 ⟨Nat.le_of_ble_eq_true rfl, Nat.le_of_ble_eq_true rfl⟩ (fun I_36 F_37 H locs hq_35 hP hD hS => ?_)
                          try dsimp only at hq_35
                          obtain ⟨hB38, hf38, hd38, hX38⟩ := hq_35
                          have hY38 := pt_X_app hX9 hX38
                          refine lv_iload_n hx hb dX6_putSmallRoman_194 rfl (lv_at hl 0 rfl) ?_
                          refine lv_bipush (v := iz 10) hx hb dX6_putSmallRoman_195 (by decide) ?_
                          refine ki_isub hx hb dX6_putSmallRoman_197 ?_
                          refine lv_istore_n (lv' := [(2, .int (iz (lf - 10))), (0, .ref mo), (1, .int (iz p0))]) hx hb dX6_putSmallRoman_198 rfl hl (by decide) rfl (fun ls hl => ?_)
                          refine lv_goto (tgt := 2) hx hb dX6_putSmallRoman_199 (by decide) ?_
                          exact ih2 (lf - 10) I_36 F_37 ⟨hB38, (hfJ.tr (hf38.mono (by decide) (by decide))), hd38, by omega, ⟨Y9 ++ [120], pt_X_eq hY38 (by rw [pt_l_app]; rfl), (by rw [hY9, pt_gr_st (show 0 < lf by omega)]; (repeat (first | rw [if_pos (by omega)] | rw [if_neg (by omega)])); rw [List.append_assoc]; rfl)⟩⟩ (by omega) _ _ hP hD hS ls (lv_sub hl [0, 1, 2] rfl)
                      · skip
                        refine lv_aload_n hx hb dX6_putSmallRoman_166 rfl (lv_at hl 1 rfl) ?_
                        refine lv_bipush (v := iz 120) hx hb dX6_putSmallRoman_167 (by decide) ?_
                        refine lv_bipush (v := iz 108) hx hb dX6_putSmallRoman_169 (by decide) ?_
                        refine mk_callv (As := [.int (iz 120), .int (iz 108)]) (rest := []) ⟨hx, hb, hml, hown, hts⟩ (k_putPair2 l dC dI mo ma cs J G 120 108 H.size hBJ hdJ) (cwV 2 hts (kx_gV kq_09_mput_16 kq_09_mput_17 kq_09_mput_18 kq_04_msmall_6 kq_09_mput_19 rfl) rfl rfl rfl (by decide +kernel) ⟨Nat.le_of_ble_eq_true rfl, Nat.le_of_ble_eq_true rfl⟩) hP hD hK hG hZ hS hA rfl hl.1 rfl (Nat.le_of_ble_eq_true rfl) dX6_putSmallRoman_171 ⟨Nat.le_of_ble_eq_true rfl, Nat.le_of_ble_eq_true rfl⟩ (fun I_41 F_42 H locs hq_40 hP hD hS => ?_)
                        try dsimp only at hq_40
                        obtain ⟨hB43, hf43, hd43, hX43⟩ := hq_40
                        have hY43 := pt_X_app hX9 hX43
                        refine lv_iload_n hx hb dX6_putSmallRoman_174 rfl (lv_at hl 0 rfl) ?_
                        refine lv_bipush (v := iz 40) hx hb dX6_putSmallRoman_175 (by decide) ?_
                        refine ki_isub hx hb dX6_putSmallRoman_177 ?_
                        refine lv_istore_n (lv' := [(2, .int (iz (lf - 40))), (0, .ref mo), (1, .int (iz p0))]) hx hb dX6_putSmallRoman_178 rfl hl (by decide) rfl (fun ls hl => ?_)
                        refine lv_goto (tgt := 2) hx hb dX6_putSmallRoman_179 (by decide) ?_
                        exact ih2 (lf - 40) I_41 F_42 ⟨hB43, (hfJ.tr (hf43.mono (by decide) (by decide))), hd43, by omega, ⟨Y9 ++ [120, 108], pt_X_eq hY43 (by rw [pt_l_app]; rfl), (by rw [hY9, pt_gr_st (show 0 < lf by omega)]; (repeat (first | rw [if_pos (by omega)] | rw [if_neg (by omega)])); rw [List.append_assoc]; rfl)⟩⟩ (by omega) _ _ hP hD hS ls (lv_sub hl [0, 1, 2] rfl)
                    · skip
                      refine lv_aload_n hx hb dX6_putSmallRoman_146 rfl (lv_at hl 1 rfl) ?_
                      refine lv_bipush (v := iz 108) hx hb dX6_putSmallRoman_147 (by decide) ?_
                      refine mk_callv (As := [.int (iz 108)]) (rest := []) ⟨hx, hb, hml, hown, hts⟩ (k_put2 l dC dI mo ma cs J G 108 H.size hBJ hdJ) (cwV 1 hts (kx_gV kq_09_mput_12 kq_09_mput_13 kq_09_mput_14 kq_04_msmall_6 kq_09_mput_15 rfl) rfl rfl rfl (by decide +kernel) ⟨Nat.le_of_ble_eq_true rfl, Nat.le_of_ble_eq_true rfl⟩) hP hD hK hG hZ hS hA rfl hl.1 rfl (Nat.le_of_ble_eq_true rfl) dX6_putSmallRoman_149 ⟨Nat.le_of_ble_eq_true rfl, Nat.le_of_ble_eq_true rfl⟩ (fun I_46 F_47 H locs hq_45 hP hD hS => ?_)
                      try dsimp only at hq_45
                      obtain ⟨hB48, hf48, hd48, hX48⟩ := hq_45
                      have hY48 := pt_X_app hX9 hX48
                      refine lv_iload_n hx hb dX6_putSmallRoman_152 rfl (lv_at hl 0 rfl) ?_
                      refine lv_bipush (v := iz 50) hx hb dX6_putSmallRoman_153 (by decide) ?_
                      refine ki_isub hx hb dX6_putSmallRoman_155 ?_
                      refine lv_istore_n (lv' := [(2, .int (iz (lf - 50))), (0, .ref mo), (1, .int (iz p0))]) hx hb dX6_putSmallRoman_156 rfl hl (by decide) rfl (fun ls hl => ?_)
                      refine lv_goto (tgt := 2) hx hb dX6_putSmallRoman_157 (by decide) ?_
                      exact ih2 (lf - 50) I_46 F_47 ⟨hB48, (hfJ.tr (hf48.mono (by decide) (by decide))), hd48, by omega, ⟨Y9 ++ [108], pt_X_eq hY48 (by rw [pt_l_app]; rfl), (by rw [hY9, pt_gr_st (show 0 < lf by omega)]; (repeat (first | rw [if_pos (by omega)] | rw [if_neg (by omega)])); rw [List.append_assoc]; rfl)⟩⟩ (by omega) _ _ hP hD hS ls (lv_sub hl [0, 1, 2] rfl)
                  · skip
                    refine lv_aload_n hx hb dX6_putSmallRoman_124 rfl (lv_at hl 1 rfl) ?_
                    refine lv_bipush (v := iz 120) hx hb dX6_putSmallRoman_125 (by decide) ?_
                    refine lv_bipush (v := iz 99) hx hb dX6_putSmallRoman_127 (by decide) ?_
                    refine mk_callv (As := [.int (iz 120), .int (iz 99)]) (rest := []) ⟨hx, hb, hml, hown, hts⟩ (k_putPair2 l dC dI mo ma cs J G 120 99 H.size hBJ hdJ) (cwV 2 hts (kx_gV kq_09_mput_16 kq_09_mput_17 kq_09_mput_18 kq_04_msmall_6 kq_09_mput_19 rfl) rfl rfl rfl (by decide +kernel) ⟨Nat.le_of_ble_eq_true rfl, Nat.le_of_ble_eq_true rfl⟩) hP hD hK hG hZ hS hA rfl hl.1 rfl (Nat.le_of_ble_eq_true rfl) dX6_putSmallRoman_129 ⟨Nat.le_of_ble_eq_true rfl, Nat.le_of_ble_eq_true rfl⟩ (fun I_51 F_52 H locs hq_50 hP hD hS => ?_)
                    try dsimp only at hq_50
                    obtain ⟨hB53, hf53, hd53, hX53⟩ := hq_50
                    have hY53 := pt_X_app hX9 hX53
                    refine lv_iload_n hx hb dX6_putSmallRoman_132 rfl (lv_at hl 0 rfl) ?_
                    refine lv_bipush (v := iz 90) hx hb dX6_putSmallRoman_133 (by decide) ?_
                    refine ki_isub hx hb dX6_putSmallRoman_135 ?_
                    refine lv_istore_n (lv' := [(2, .int (iz (lf - 90))), (0, .ref mo), (1, .int (iz p0))]) hx hb dX6_putSmallRoman_136 rfl hl (by decide) rfl (fun ls hl => ?_)
                    refine lv_goto (tgt := 2) hx hb dX6_putSmallRoman_137 (by decide) ?_
                    exact ih2 (lf - 90) I_51 F_52 ⟨hB53, (hfJ.tr (hf53.mono (by decide) (by decide))), hd53, by omega, ⟨Y9 ++ [120, 99], pt_X_eq hY53 (by rw [pt_l_app]; rfl), (by rw [hY9, pt_gr_st (show 0 < lf by omega)]; (repeat (first | rw [if_pos (by omega)] | rw [if_neg (by omega)])); rw [List.append_assoc]; rfl)⟩⟩ (by omega) _ _ hP hD hS ls (lv_sub hl [0, 1, 2] rfl)
                · skip
                  refine lv_aload_n hx hb dX6_putSmallRoman_104 rfl (lv_at hl 1 rfl) ?_
                  refine lv_bipush (v := iz 99) hx hb dX6_putSmallRoman_105 (by decide) ?_
                  refine mk_callv (As := [.int (iz 99)]) (rest := []) ⟨hx, hb, hml, hown, hts⟩ (k_put2 l dC dI mo ma cs J G 99 H.size hBJ hdJ) (cwV 1 hts (kx_gV kq_09_mput_12 kq_09_mput_13 kq_09_mput_14 kq_04_msmall_6 kq_09_mput_15 rfl) rfl rfl rfl (by decide +kernel) ⟨Nat.le_of_ble_eq_true rfl, Nat.le_of_ble_eq_true rfl⟩) hP hD hK hG hZ hS hA rfl hl.1 rfl (Nat.le_of_ble_eq_true rfl) dX6_putSmallRoman_107 ⟨Nat.le_of_ble_eq_true rfl, Nat.le_of_ble_eq_true rfl⟩ (fun I_56 F_57 H locs hq_55 hP hD hS => ?_)
                  try dsimp only at hq_55
                  obtain ⟨hB58, hf58, hd58, hX58⟩ := hq_55
                  have hY58 := pt_X_app hX9 hX58
                  refine lv_iload_n hx hb dX6_putSmallRoman_110 rfl (lv_at hl 0 rfl) ?_
                  refine lv_bipush (v := iz 100) hx hb dX6_putSmallRoman_111 (by decide) ?_
                  refine ki_isub hx hb dX6_putSmallRoman_113 ?_
                  refine lv_istore_n (lv' := [(2, .int (iz (lf - 100))), (0, .ref mo), (1, .int (iz p0))]) hx hb dX6_putSmallRoman_114 rfl hl (by decide) rfl (fun ls hl => ?_)
                  refine lv_goto (tgt := 2) hx hb dX6_putSmallRoman_115 (by decide) ?_
                  exact ih2 (lf - 100) I_56 F_57 ⟨hB58, (hfJ.tr (hf58.mono (by decide) (by decide))), hd58, by omega, ⟨Y9 ++ [99], pt_X_eq hY58 (by rw [pt_l_app]; rfl), (by rw [hY9, pt_gr_st (show 0 < lf by omega)]; (repeat (first | rw [if_pos (by omega)] | rw [if_neg (by omega)])); rw [List.append_assoc]; rfl)⟩⟩ (by omega) _ _ hP hD hS ls (lv_sub hl [0, 1, 2] rfl)
              · skip
                refine lv_aload_n hx hb dX6_putSmallRoman_81 rfl (lv_at hl 1 rfl) ?_
                refine lv_bipush (v := iz 99) hx hb dX6_putSmallRoman_82 (by decide) ?_
                refine lv_bipush (v := iz 100) hx hb dX6_putSmallRoman_84 (by decide) ?_
                refine mk_callv (As := [.int (iz 99), .int (iz 100)]) (rest := []) ⟨hx, hb, hml, hown, hts⟩ (k_putPair2 l dC dI mo ma cs J G 99 100 H.size hBJ hdJ) (cwV 2 hts (kx_gV kq_09_mput_16 kq_09_mput_17 kq_09_mput_18 kq_04_msmall_6 kq_09_mput_19 rfl) rfl rfl rfl (by decide +kernel) ⟨Nat.le_of_ble_eq_true rfl, Nat.le_of_ble_eq_true rfl⟩) hP hD hK hG hZ hS hA rfl hl.1 rfl (Nat.le_of_ble_eq_true rfl) dX6_putSmallRoman_86 ⟨Nat.le_of_ble_eq_true rfl, Nat.le_of_ble_eq_true rfl⟩ (fun I_61 F_62 H locs hq_60 hP hD hS => ?_)
                try dsimp only at hq_60
                obtain ⟨hB63, hf63, hd63, hX63⟩ := hq_60
                have hY63 := pt_X_app hX9 hX63
                refine lv_iload_n hx hb dX6_putSmallRoman_89 rfl (lv_at hl 0 rfl) ?_
                refine lv_sipush (v := iz 400) hx hb dX6_putSmallRoman_90 (by decide) ?_
                refine ki_isub hx hb dX6_putSmallRoman_93 ?_
                refine lv_istore_n (lv' := [(2, .int (iz (lf - 400))), (0, .ref mo), (1, .int (iz p0))]) hx hb dX6_putSmallRoman_94 rfl hl (by decide) rfl (fun ls hl => ?_)
                refine lv_goto (tgt := 2) hx hb dX6_putSmallRoman_95 (by decide) ?_
                exact ih2 (lf - 400) I_61 F_62 ⟨hB63, (hfJ.tr (hf63.mono (by decide) (by decide))), hd63, by omega, ⟨Y9 ++ [99, 100], pt_X_eq hY63 (by rw [pt_l_app]; rfl), (by rw [hY9, pt_gr_st (show 0 < lf by omega)]; (repeat (first | rw [if_pos (by omega)] | rw [if_neg (by omega)])); rw [List.append_assoc]; rfl)⟩⟩ (by omega) _ _ hP hD hS ls (lv_sub hl [0, 1, 2] rfl)
            · skip
              refine lv_aload_n hx hb dX6_putSmallRoman_59 rfl (lv_at hl 1 rfl) ?_
              refine lv_bipush (v := iz 100) hx hb dX6_putSmallRoman_60 (by decide) ?_
              refine mk_callv (As := [.int (iz 100)]) (rest := []) ⟨hx, hb, hml, hown, hts⟩ (k_put2 l dC dI mo ma cs J G 100 H.size hBJ hdJ) (cwV 1 hts (kx_gV kq_09_mput_12 kq_09_mput_13 kq_09_mput_14 kq_04_msmall_6 kq_09_mput_15 rfl) rfl rfl rfl (by decide +kernel) ⟨Nat.le_of_ble_eq_true rfl, Nat.le_of_ble_eq_true rfl⟩) hP hD hK hG hZ hS hA rfl hl.1 rfl (Nat.le_of_ble_eq_true rfl) dX6_putSmallRoman_62 ⟨Nat.le_of_ble_eq_true rfl, Nat.le_of_ble_eq_true rfl⟩ (fun I_66 F_67 H locs hq_65 hP hD hS => ?_)
              try dsimp only at hq_65
              obtain ⟨hB68, hf68, hd68, hX68⟩ := hq_65
              have hY68 := pt_X_app hX9 hX68
              refine lv_iload_n hx hb dX6_putSmallRoman_65 rfl (lv_at hl 0 rfl) ?_
              refine lv_sipush (v := iz 500) hx hb dX6_putSmallRoman_66 (by decide) ?_
              refine ki_isub hx hb dX6_putSmallRoman_69 ?_
              refine lv_istore_n (lv' := [(2, .int (iz (lf - 500))), (0, .ref mo), (1, .int (iz p0))]) hx hb dX6_putSmallRoman_70 rfl hl (by decide) rfl (fun ls hl => ?_)
              refine lv_goto (tgt := 2) hx hb dX6_putSmallRoman_71 (by decide) ?_
              exact ih2 (lf - 500) I_66 F_67 ⟨hB68, (hfJ.tr (hf68.mono (by decide) (by decide))), hd68, by omega, ⟨Y9 ++ [100], pt_X_eq hY68 (by rw [pt_l_app]; rfl), (by rw [hY9, pt_gr_st (show 0 < lf by omega)]; (repeat (first | rw [if_pos (by omega)] | rw [if_neg (by omega)])); rw [List.append_assoc]; rfl)⟩⟩ (by omega) _ _ hP hD hS ls (lv_sub hl [0, 1, 2] rfl)
          · skip
            refine lv_aload_n hx hb dX6_putSmallRoman_35 rfl (lv_at hl 1 rfl) ?_
            refine lv_bipush (v := iz 99) hx hb dX6_putSmallRoman_36 (by decide) ?_
            refine lv_bipush (v := iz 109) hx hb dX6_putSmallRoman_38 (by decide) ?_
            refine mk_callv (As := [.int (iz 99), .int (iz 109)]) (rest := []) ⟨hx, hb, hml, hown, hts⟩ (k_putPair2 l dC dI mo ma cs J G 99 109 H.size hBJ hdJ) (cwV 2 hts (kx_gV kq_09_mput_16 kq_09_mput_17 kq_09_mput_18 kq_04_msmall_6 kq_09_mput_19 rfl) rfl rfl rfl (by decide +kernel) ⟨Nat.le_of_ble_eq_true rfl, Nat.le_of_ble_eq_true rfl⟩) hP hD hK hG hZ hS hA rfl hl.1 rfl (Nat.le_of_ble_eq_true rfl) dX6_putSmallRoman_40 ⟨Nat.le_of_ble_eq_true rfl, Nat.le_of_ble_eq_true rfl⟩ (fun I_71 F_72 H locs hq_70 hP hD hS => ?_)
            try dsimp only at hq_70
            obtain ⟨hB73, hf73, hd73, hX73⟩ := hq_70
            have hY73 := pt_X_app hX9 hX73
            refine lv_iload_n hx hb dX6_putSmallRoman_43 rfl (lv_at hl 0 rfl) ?_
            refine lv_sipush (v := iz 900) hx hb dX6_putSmallRoman_44 (by decide) ?_
            refine ki_isub hx hb dX6_putSmallRoman_47 ?_
            refine lv_istore_n (lv' := [(2, .int (iz (lf - 900))), (0, .ref mo), (1, .int (iz p0))]) hx hb dX6_putSmallRoman_48 rfl hl (by decide) rfl (fun ls hl => ?_)
            refine lv_goto (tgt := 2) hx hb dX6_putSmallRoman_49 (by decide) ?_
            exact ih2 (lf - 900) I_71 F_72 ⟨hB73, (hfJ.tr (hf73.mono (by decide) (by decide))), hd73, by omega, ⟨Y9 ++ [99, 109], pt_X_eq hY73 (by rw [pt_l_app]; rfl), (by rw [hY9, pt_gr_st (show 0 < lf by omega)]; (repeat (first | rw [if_pos (by omega)] | rw [if_neg (by omega)])); rw [List.append_assoc]; rfl)⟩⟩ (by omega) _ _ hP hD hS ls (lv_sub hl [0, 1, 2] rfl)
        · skip
          refine lv_aload_n hx hb dX6_putSmallRoman_13 rfl (lv_at hl 1 rfl) ?_
          refine lv_bipush (v := iz 109) hx hb dX6_putSmallRoman_14 (by decide) ?_
          refine mk_callv (As := [.int (iz 109)]) (rest := []) ⟨hx, hb, hml, hown, hts⟩ (k_put2 l dC dI mo ma cs J G 109 H.size hBJ hdJ) (cwV 1 hts (kx_gV kq_09_mput_12 kq_09_mput_13 kq_09_mput_14 kq_04_msmall_6 kq_09_mput_15 rfl) rfl rfl rfl (by decide +kernel) ⟨Nat.le_of_ble_eq_true rfl, Nat.le_of_ble_eq_true rfl⟩) hP hD hK hG hZ hS hA rfl hl.1 rfl (Nat.le_of_ble_eq_true rfl) dX6_putSmallRoman_16 ⟨Nat.le_of_ble_eq_true rfl, Nat.le_of_ble_eq_true rfl⟩ (fun I_76 F_77 H locs hq_75 hP hD hS => ?_)
          try dsimp only at hq_75
          obtain ⟨hB78, hf78, hd78, hX78⟩ := hq_75
          have hY78 := pt_X_app hX9 hX78
          refine lv_iload_n hx hb dX6_putSmallRoman_19 rfl (lv_at hl 0 rfl) ?_
          refine lv_sipush (v := iz 1000) hx hb dX6_putSmallRoman_20 (by decide) ?_
          refine ki_isub hx hb dX6_putSmallRoman_23 ?_
          refine lv_istore_n (lv' := [(2, .int (iz (lf - 1000))), (0, .ref mo), (1, .int (iz p0))]) hx hb dX6_putSmallRoman_24 rfl hl (by decide) rfl (fun ls hl => ?_)
          refine lv_goto (tgt := 2) hx hb dX6_putSmallRoman_25 (by decide) ?_
          exact ih2 (lf - 1000) I_76 F_77 ⟨hB78, (hfJ.tr (hf78.mono (by decide) (by decide))), hd78, by omega, ⟨Y9 ++ [109], pt_X_eq hY78 (by rw [pt_l_app]; rfl), (by rw [hY9, pt_gr_st (show 0 < lf by omega)]; (repeat (first | rw [if_pos (by omega)] | rw [if_neg (by omega)])); rw [List.append_assoc]; rfl)⟩⟩ (by omega) _ _ hP hD hS ls (lv_sub hl [0, 1, 2] rfl)
  exact lp2 _ p0 I F ⟨hB, mfr.rf, hdr, by omega, ⟨[], pt_X_eq hX0 rfl, (by rw [List.nil_append, pt_gr_ro h0.1 h0.2])⟩⟩ (Nat.lt_succ_self _) _ _ hP hD hS ls (lv_sub hl [0, 1, 2] rfl)
set_option maxHeartbeats 4000000 in
set_option maxRecDepth 100000 in
theorem k_putOne2 (l : Launch) (dC : Nat → ClassId) (dI : Nat → Nat → Nat) (mo : Nat) (ma : Nat → Nat) (cs : Nat → ClassId) (I : Nat → Int) (F : Nat → Int → Int) (kd : Int) (p1 : Int) (sz : Nat) (hB : mB I F) (hdr : mDr I) (h0 : (0 ≤ kd ∧ kd ≤ 2) ∧ (1 ≤ p1 ∧ p1 ≤ 99999) ∧ (kd = 0 → p1 ≤ 3999) ∧ (kd = 2 → p1 ≤ 702)) : mMv l yX6_putOne (.code yX6_putOne cX6_putOne 3 none) 3 65 dC dI mo ma cs I F [.ref mo, .int (iz kd), .int (iz p1)] sz (fun (I' : Nat → Int) (F' : Nat → Int → Int) => mB I' F' ∧ mfr [42, 43] [41] I F I' F' ∧ mDr I' ∧ pt_X (F 41) (I 42) (I 43) (pt_l (pt_pg kd p1)) (F' 41) (I' 42) (I' 43)) := by
  refine Met.ofW (cc := cX6_putOne) (maxL := 3) (ret := none) (by decide) rfl ?_
  intro p e s m args below meth c s₁ B hml hv
  obtain ⟨rfl, hsz, hP, hK, hD0, hG, hZ⟩ := hv
  have hx := B.exec
  have hb := B.bytes
  have hr := B.returns
  have hts := kx_hts (a := ([.ref mo, .int (iz kd), .int (iz p1)] : List Value).toArray) hG
  have hown : s.vm.findClass RX6 = some m.cls := findClass_of_methodNamed B.named
  have hlocks := B.notSynchronized
  subst hsz
  have hD := hD0.self (sz := s.heap.size)
  generalize hAe : va_A (mW mo ma cs I F) s.heap.size = A at hD hZ ⊢
  have hA : ∀ q : Nat, s.heap.size ≤ q → A q := fun q h => by rw [← hAe]; exact Or.inr h
  have hS : va_S A s.heap s.heap [] := va_S.rf
  have hl := lv_entry ([.ref mo, .int (iz kd), .int (iz p1)]) (n := 3) (Nat.le_of_ble_eq_true rfl)
  rw [lg_entry_eq]
  generalize (lg_sl ([.ref mo, .int (iz kd), .int (iz p1)]) ++ List.replicate (3 - (lg_sl ([.ref mo, .int (iz kd), .int (iz p1)])).length) Slot.unset).toArray = ls at hl ⊢
  have hl : lv_has ls 3 [(0, .ref mo), (1, .int (iz kd)), (2, .int (iz p1))] := hl
  have hX0 := pt_X_nil (F 41) (I 42) (I 43)
  refine lv_iload_n hx hb dX6_putOne_0 rfl (lv_at hl 1 rfl) ?_
  refine ki_if_ne (tgt := 12) hx hb dX6_putOne_1 (by decide) (by omega) (by omega) (fun c_1 => ?_) (fun c_1 => ?_)
  · skip
    refine lv_iload_n hx hb dX6_putOne_12 rfl (lv_at hl 1 rfl) ?_
    refine lv_iconst (v := iz 1) hx hb dX6_putOne_13 (by decide) ?_
    refine ki_icmp_ne (tgt := 25) hx hb dX6_putOne_14 (by decide) (by omega) (by omega) (by omega) (by omega) (fun c_2 => ?_) (fun c_2 => ?_)
    · skip
      refine lv_iload_n hx hb dX6_putOne_25 rfl (lv_at hl 2 rfl) ?_
      refine lv_bipush (v := iz 26) hx hb dX6_putOne_26 (by decide) ?_
      refine ki_icmp_gt (tgt := 42) hx hb dX6_putOne_28 (by decide) (by omega) (by omega) (by omega) (by omega) (fun c_3 => ?_) (fun c_3 => ?_)
      · skip
        refine lv_aload_n hx hb dX6_putOne_42 rfl (lv_at hl 0 rfl) ?_
        refine lv_bipush (v := iz 97) hx hb dX6_putOne_43 (by decide) ?_
        refine lv_iload_n hx hb dX6_putOne_45 rfl (lv_at hl 2 rfl) ?_
        refine lv_bipush (v := iz 27) hx hb dX6_putOne_46 (by decide) ?_
        refine ki_isub hx hb dX6_putOne_48 ?_
        refine lv_bipush (v := iz 26) hx hb dX6_putOne_49 (by decide) ?_
        refine ki_idiv hx hb dX6_putOne_51 (by omega) (by omega) (by omega) (by omega) ?_
        refine ki_iadd hx hb dX6_putOne_52 ?_
        refine lv_bipush (v := iz 97) hx hb dX6_putOne_53 (by decide) ?_
        refine lv_iload_n hx hb dX6_putOne_55 rfl (lv_at hl 2 rfl) ?_
        refine lv_bipush (v := iz 27) hx hb dX6_putOne_56 (by decide) ?_
        refine ki_isub hx hb dX6_putOne_58 ?_
        refine lv_bipush (v := iz 26) hx hb dX6_putOne_59 (by decide) ?_
        refine ki_irem hx hb dX6_putOne_61 (by omega) (by omega) (by omega) (by omega) ?_
        refine ki_iadd hx hb dX6_putOne_62 ?_
        refine mk_callv (As := [.int (iz (97 + ((p1 - 27) / 26))), .int (iz (97 + ((p1 - 27) % 26)))]) (rest := []) ⟨hx, hb, hml, hown, hts⟩ (k_putPair2 l dC dI mo ma cs I F (97 + ((p1 - 27) / 26)) (97 + ((p1 - 27) % 26)) s.heap.size hB hdr) (cwV 2 hts (kx_gV kq_09_mput_16 kq_09_mput_17 kq_09_mput_18 kq_04_msmall_6 kq_09_mput_19 rfl) rfl rfl rfl (by decide +kernel) ⟨Nat.le_of_ble_eq_true rfl, Nat.le_of_ble_eq_true rfl⟩) hP hD hK hG hZ hS hA rfl hl.1 rfl (Nat.le_of_ble_eq_true rfl) dX6_putOne_63 ⟨Nat.le_of_ble_eq_true rfl, Nat.le_of_ble_eq_true rfl⟩ (fun I_6 F_7 H locs hq_5 hP hD hS => ?_)
        try dsimp only at hq_5
        obtain ⟨hB8, hf8, hd8, hX8⟩ := hq_5
        have hY8 := pt_X_app hX0 hX8
        exact mk_ret hx hb hr hlocks hP hD hK hS dX6_putOne_66 (⟨hB8, (mfr.rf.tr (hf8.mono (by decide) (by decide))), hd8, pt_X_eq hY8 (by unfold pt_pg; rw [if_neg (show ¬ kd = 0 by omega), if_neg (show ¬ kd = 1 by omega)]; unfold pt_le; rw [if_pos (show 26 < p1 by omega), show 97 + (p1 - 1) / 26 - 1 = 97 + (p1 - 27) / 26 by omega, show 97 + (p1 - 1) % 26 = 97 + (p1 - 27) % 26 by omega]; rfl)⟩)
      · skip
        refine lv_aload_n hx hb dX6_putOne_31 rfl (lv_at hl 0 rfl) ?_
        refine lv_bipush (v := iz 96) hx hb dX6_putOne_32 (by decide) ?_
        refine lv_iload_n hx hb dX6_putOne_34 rfl (lv_at hl 2 rfl) ?_
        refine ki_iadd hx hb dX6_putOne_35 ?_
        refine mk_callv (As := [.int (iz (96 + p1))]) (rest := []) ⟨hx, hb, hml, hown, hts⟩ (k_put2 l dC dI mo ma cs I F (96 + p1) s.heap.size hB hdr) (cwV 1 hts (kx_gV kq_09_mput_12 kq_09_mput_13 kq_09_mput_14 kq_04_msmall_6 kq_09_mput_15 rfl) rfl rfl rfl (by decide +kernel) ⟨Nat.le_of_ble_eq_true rfl, Nat.le_of_ble_eq_true rfl⟩) hP hD hK hG hZ hS hA rfl hl.1 rfl (Nat.le_of_ble_eq_true rfl) dX6_putOne_36 ⟨Nat.le_of_ble_eq_true rfl, Nat.le_of_ble_eq_true rfl⟩ (fun I_11 F_12 H locs hq_10 hP hD hS => ?_)
        try dsimp only at hq_10
        obtain ⟨hB13, hf13, hd13, hX13⟩ := hq_10
        have hY13 := pt_X_app hX0 hX13
        refine lv_goto (tgt := 66) hx hb dX6_putOne_39 (by decide) ?_
        exact mk_ret hx hb hr hlocks hP hD hK hS dX6_putOne_66 (⟨hB13, (mfr.rf.tr (hf13.mono (by decide) (by decide))), hd13, pt_X_eq hY13 (by unfold pt_pg; rw [if_neg (show ¬ kd = 0 by omega), if_neg (show ¬ kd = 1 by omega)]; unfold pt_le; rw [if_neg (show ¬ 26 < p1 by omega), show 97 + (p1 - 1) % 26 = 96 + p1 by omega]; rfl)⟩)
    · skip
      refine lv_aload_n hx hb dX6_putOne_17 rfl (lv_at hl 0 rfl) ?_
      refine lv_iload_n hx hb dX6_putOne_18 rfl (lv_at hl 2 rfl) ?_
      refine mk_callv (As := [.int (iz p1)]) (rest := []) ⟨hx, hb, hml, hown, hts⟩ (k_putNumber2 l dC dI mo ma cs I F p1 s.heap.size hB hdr (by omega)) (cwV 1 hts (kx_gV kq_09_mput_20 kq_09_mput_21 kq_09_mput_22 kq_04_msmall_6 kq_09_mput_23 rfl) rfl rfl rfl (by decide +kernel) ⟨Nat.le_of_ble_eq_true rfl, Nat.le_of_ble_eq_true rfl⟩) hP hD hK hG hZ hS hA rfl hl.1 rfl (Nat.le_of_ble_eq_true rfl) dX6_putOne_19 ⟨Nat.le_of_ble_eq_true rfl, Nat.le_of_ble_eq_true rfl⟩ (fun I_16 F_17 H locs hq_15 hP hD hS => ?_)
      try dsimp only at hq_15
      obtain ⟨hB18, hf18, hd18, hX18⟩ := hq_15
      have hY18 := pt_X_app hX0 hX18
      refine lv_goto (tgt := 66) hx hb dX6_putOne_22 (by decide) ?_
      exact mk_ret hx hb hr hlocks hP hD hK hS dX6_putOne_66 (⟨hB18, (mfr.rf.tr (hf18.mono (by decide) (by decide))), hd18, pt_X_eq hY18 (by unfold pt_pg; rw [if_neg (show ¬ kd = 0 by omega), if_pos (show kd = 1 by omega)]; rfl)⟩)
  · skip
    refine lv_aload_n hx hb dX6_putOne_4 rfl (lv_at hl 0 rfl) ?_
    refine lv_iload_n hx hb dX6_putOne_5 rfl (lv_at hl 2 rfl) ?_
    refine mk_callv (As := [.int (iz p1)]) (rest := []) ⟨hx, hb, hml, hown, hts⟩ (k_putSmallRoman2 l dC dI mo ma cs I F p1 s.heap.size hB hdr (by omega)) (cwV 1 hts (kx_gV kq_09_mput_24 kq_09_mput_25 kq_09_mput_26 kq_04_msmall_6 kq_09_mput_27 rfl) rfl rfl rfl (by decide +kernel) ⟨Nat.le_of_ble_eq_true rfl, Nat.le_of_ble_eq_true rfl⟩) hP hD hK hG hZ hS hA rfl hl.1 rfl (Nat.le_of_ble_eq_true rfl) dX6_putOne_6 ⟨Nat.le_of_ble_eq_true rfl, Nat.le_of_ble_eq_true rfl⟩ (fun I_21 F_22 H locs hq_20 hP hD hS => ?_)
    try dsimp only at hq_20
    obtain ⟨hB23, hf23, hd23, hX23⟩ := hq_20
    have hY23 := pt_X_app hX0 hX23
    refine lv_goto (tgt := 66) hx hb dX6_putOne_9 (by decide) ?_
    exact mk_ret hx hb hr hlocks hP hD hK hS dX6_putOne_66 (⟨hB23, (mfr.rf.tr (hf23.mono (by decide) (by decide))), hd23, pt_X_eq hY23 (by unfold pt_pg; rw [if_pos (show kd = 0 by omega)]; rfl)⟩)
set_option maxHeartbeats 4000000 in
set_option maxRecDepth 100000 in
theorem k_putAll2 (l : Launch) (dC : Nat → ClassId) (dI : Nat → Nat → Nat) (mo : Nat) (ma : Nat → Nat) (cs : Nat → ClassId) (I : Nat → Int) (F : Nat → Int → Int) (p0 : Int) (sz : Nat) (hB : mB I F) (hc : 0 ≤ I 1 ∧ I 1 ≤ 64) (hln : ∀ e, 0 ≤ F 10 e ∧ 0 ≤ F 11 e ∧ F 11 e ≤ 99999 ∧ F 10 e + (if 0 < F 11 e then 1 else 0) ≤ 20) (hmf : mFt F) (hps : mPS I F) (hp01 : -2147483648 ≤ p0) (hp02 : p0 < 2147483648) (hRv : ∀ e, 0 ≤ e → e < I 1 → ∀ x, x ∈ lo_R F e → lo_v x) : mMv l yX6_putAll (.code yX6_putAll cX6_putAll 5 none) 4 87 dC dI mo ma cs I F [.ref mo, .int (iz p0)] sz (fun (I' : Nat → Int) (F' : Nat → Int → Int) => mB I' F' ∧ mfr [29, 31, 32, 33, 42, 43] [25, 26, 27, 28, 41] I F I' F' ∧ mPS I' F' ∧ pt_X (F 41) (I 42) (I 43) (pt_l (pt_pM (I 1) F p0)) (F' 41) (I' 42) (I' 43)) := by
  refine Met.ofW (cc := cX6_putAll) (maxL := 5) (ret := none) (by decide) rfl ?_
  intro p e s m args below meth c s₁ B hml hv
  obtain ⟨rfl, hsz, hP, hK, hD0, hG, hZ⟩ := hv
  have hx := B.exec
  have hb := B.bytes
  have hr := B.returns
  have hts := kx_hts (a := ([.ref mo, .int (iz p0)] : List Value).toArray) hG
  have hown : s.vm.findClass RX6 = some m.cls := findClass_of_methodNamed B.named
  have hlocks := B.notSynchronized
  subst hsz
  have hD := hD0.self (sz := s.heap.size)
  generalize hAe : va_A (mW mo ma cs I F) s.heap.size = A at hD hZ ⊢
  have hA : ∀ q : Nat, s.heap.size ≤ q → A q := fun q h => by rw [← hAe]; exact Or.inr h
  have hS : va_S A s.heap s.heap [] := va_S.rf
  have hl := lv_entry ([.ref mo, .int (iz p0)]) (n := 5) (Nat.le_of_ble_eq_true rfl)
  rw [lg_entry_eq]
  generalize (lg_sl ([.ref mo, .int (iz p0)]) ++ List.replicate (5 - (lg_sl ([.ref mo, .int (iz p0)])).length) Slot.unset).toArray = ls at hl ⊢
  have hl : lv_has ls 5 [(0, .ref mo), (1, .int (iz p0))] := hl
  generalize hQe : MQ below (mQv dC dI mo ma cs A (fun (I' : Nat → Int) (F' : Nat → Int → Int) => mB I' F' ∧ mfr [29, 31, 32, 33, 42, 43] [25, 26, 27, 28, 41] I F I' F' ∧ mPS I' F' ∧ pt_X (F 41) (I 42) (I 43) (pt_l (pt_pM (I 1) F p0)) (F' 41) (I' 42) (I' 43))) ([.ref mo, .int (iz p0)] : List Value).toArray s 0 0 A = QQ
  have hX0 := pt_X_nil (F 41) (I 42) (I 43)
  refine lv_aload_n hx hb dX6_putAll_0 rfl (lv_at hl 0 rfl) ?_
  refine lv_iload_n hx hb dX6_putAll_1 rfl (lv_at hl 1 rfl) ?_
  have hac_1 : mfr [29, 31, 32, 33, 42, 43] [25, 26, 27, 28, 41] I F I F := mfr.rf
  refine mk_callv (As := [.int (iz p0)]) (rest := []) ⟨hx, hb, hml, hown, hts⟩ (k_gather2 l dC dI mo ma cs I F p0 s.heap.size hB (by rw [(hac_1.1 1 (by decide))]; exact hc) (fun e => by rw [(hac_1.2 10 (by decide)), (hac_1.2 11 (by decide))]; exact hln e) (fun j => by rw [(hac_1.2 7 (by decide)), (hac_1.2 8 (by decide))]; exact hmf j) (by omega) (by omega) hRv) (cwV 1 hts (kx_gV kq_10_mprint_0 kq_10_mprint_1 kq_10_mprint_2 kq_04_msmall_6 kq_10_mprint_3 rfl) rfl rfl rfl (by decide +kernel) ⟨Nat.le_of_ble_eq_true rfl, Nat.le_of_ble_eq_true rfl⟩) hP hD hK hG hZ hS hA rfl hl.1 rfl (Nat.le_of_ble_eq_true rfl) dX6_putAll_2 ⟨Nat.le_of_ble_eq_true rfl, Nat.le_of_ble_eq_true rfl⟩ (fun I_4 F_5 H locs hq_3 hP hD hS => ?_)
  try dsimp only at hq_3
  have hSg := hq_3.2.2.2.2
  have hfg := hq_3.2.1
  have hq_3 := (⟨hq_3.1, hq_3.2.1, hq_3.2.2.1, hq_3.2.2.2.1⟩ : _ ∧ _ ∧ _ ∧ _)
  obtain ⟨hB6, hf6, hg6, hy6⟩ := hq_3
  have hp6 := mPS.gat hps hf6 hg6 hy6
  have hXg : pt_X (F 41) (I 42) (I 43) [] (F_5 41) (I_4 42) (I_4 43) := (by rw [hfg.2 41 (by decide), hfg.1 42 (by decide), hfg.1 43 (by decide)]; exact pt_X_nil _ _ _)
  have hGv9 := lo_S_v hSg (fun x hx => lo_row_all (V := lo_v) _ (fun e a b => hRv e a (by omega)) x hx)
  refine lv_aload_n hx hb dX6_putAll_5 rfl (lv_at hl 0 rfl) ?_
  refine lv_iconst (v := iz (-1)) hx hb dX6_putAll_6 (by decide) ?_
  have hac_7 : mfr [29, 31, 32, 33, 42, 43] [25, 26, 27, 28, 41] I F I_4 F_5 := (mfr.rf.tr (hf6.mono (by decide) (by decide)))
  refine mk_calli (As := [.int (iz (-1))]) (rest := []) ⟨hx, hb, hml, hown, hts⟩ (k_locate2 l dC dI mo ma cs I_4 F_5 (-1) H.size hB6 hp6.2.2.1 hp6.2.2.2 hp6.2.1 (by omega) (by omega) hSg.1 hGv9) (cwV 1 hts (kx_gV kq_10_mprint_4 kq_10_mprint_5 kq_10_mprint_6 kq_04_msmall_6 kq_10_mprint_7 rfl) rfl rfl rfl (by decide +kernel) ⟨Nat.le_of_ble_eq_true rfl, Nat.le_of_ble_eq_true rfl⟩) hP hD hK hG hZ hS hA rfl hl.1 rfl (Nat.le_of_ble_eq_true rfl) dX6_putAll_7 ⟨Nat.le_of_ble_eq_true rfl, Nat.le_of_ble_eq_true rfl⟩ (fun z_8 I_10 F_11 H locs hq_9 hP hD hS => ?_)
  try dsimp only at hq_9
  have hfl := hq_9.2.2.1
  have hln := hq_9.2.2.2.2.2.2.1
  have hq_9 := (⟨hq_9.1, hq_9.2.1, hq_9.2.2.1, hq_9.2.2.2.1, hq_9.2.2.2.2.1⟩ : _ ∧ _ ∧ _ ∧ _ ∧ _)
  obtain ⟨rfl, hB12, hf12, hd12, hr12⟩ := hq_9
  have hp12 := mPS.loc hp6 hf12 hd12
  have hX1 : pt_X (F 41) (I 42) (I 43) [] (F_5 41) (I_10 42) (I_10 43) := (by rw [hfl.1 42 (by decide), hfl.1 43 (by decide)]; exact hXg)
  have hG1 : lo_G (I_10 29) F_5 = lo_G (I_4 29) F_5 := lo_G_fr2 (hfl.1 29 (by decide)) rfl rfl rfl rfl
  refine lv_istore_n (lv' := [(2, .int (iz z_8)), (0, .ref mo), (1, .int (iz p0))]) hx hb dX6_putAll_10 rfl hl (by decide) rfl (fun ls hl => ?_)
  refine lv_iconst (v := iz 0) hx hb dX6_putAll_11 (by decide) ?_
  refine lv_istore_n (lv' := [(3, .int (iz 0)), (2, .int (iz z_8)), (0, .ref mo), (1, .int (iz p0))]) hx hb dX6_putAll_12 rfl hl (by decide) rfl (fun ls hl => ?_)
  have lp13 : ∀ (n : Nat) (j : Int) (J : Nat → Int) (G : Nat → Int → Int), ((mB J G) ∧ (mfr [29, 31, 32, 33, 42, 43] [25, 26, 27, 28, 41] I F J G) ∧ (mPS J G) ∧ (0 ≤ j ∧ j ≤ z_8) ∧ (lo_G (J 29) G = lo_G (I_4 29) F_5) ∧ (pt_X (F 41) (I 42) (I 43) (pt_l (pt_bt pt_lo 44 ((lo_L (lo_J (lo_G (I_4 29) F_5))).take j.toNat))) (G 41) (J 42) (J 43))) → (z_8 - j).toNat < n → ∀ (H : Heap) (locs : List Loc), va_P (dC, dI) kxCl (mW mo ma cs J G) H → va_D A (mW mo ma cs J G) → va_S A s.heap H locs → ∀ ls : Array Slot, lv_has ls 5 [(3, .int (iz j)), (2, .int (iz z_8)), (0, .ref mo), (1, .int (iz p0))] → W p l e (headSpec [.code yX6_putAll cX6_putAll 5 none] ({ frames := 4, cells := 0, slots := 0, locals := 87 })).room s m ([.ref mo, .int (iz p0)] : List Value).toArray below meth c H locs 0 0 QQ (F0 m 13 ls []) := by
    intro n
    induction n with
    | zero => intro j J G hinv hm; exact absurd hm (Nat.not_lt_zero _)
    | succ n ih13 =>
      intro j J G hinv hm H locs hP hD hS ls hl
      obtain ⟨hBJ, hfJ, hpJ, hj, hGG, hXJ⟩ := hinv
      refine lv_iload_n hx hb dX6_putAll_13 rfl (lv_at hl 0 rfl) ?_
      refine lv_iload_n hx hb dX6_putAll_14 rfl (lv_at hl 1 rfl) ?_
      refine ki_icmp_ge (tgt := 84) hx hb dX6_putAll_15 (by decide) (by omega) (by omega) (by omega) (by omega) (fun c_13 => ?_) (fun c_13 => ?_)
      · skip
        rw [← hQe]
        exact mk_ret hx hb hr hlocks hP hD hK hS dX6_putAll_84 (⟨hBJ, hfJ, hpJ, pt_X_eq hXJ (by unfold pt_pM; rw [pt_lc_is hSg (fun x hx => (hGv9 x hx).2.1), List.take_of_length_le (by omega)])⟩)
      · skip
        refine lv_aload_n hx hb dX6_putAll_18 rfl (lv_at hl 2 rfl) ?_
        refine lv_iload_n hx hb dX6_putAll_19 rfl (lv_at hl 0 rfl) ?_
        have hac_14 : mfr [29, 31, 32, 33, 42, 43] [25, 26, 27, 28, 41] I F J G := hfJ
        refine mk_calli (As := [.int (iz j)]) (rest := []) ⟨hx, hb, hml, hown, hts⟩ (k_locate2 l dC dI mo ma cs J G j H.size hBJ hpJ.2.2.1 hpJ.2.2.2 hpJ.2.1 (by omega) (by omega) (by rw [hGG]; exact hSg.1) (by rw [hGG]; exact hGv9)) (cwV 1 hts (kx_gV kq_10_mprint_4 kq_10_mprint_5 kq_10_mprint_6 kq_04_msmall_6 kq_10_mprint_7 rfl) rfl rfl rfl (by decide +kernel) ⟨Nat.le_of_ble_eq_true rfl, Nat.le_of_ble_eq_true rfl⟩) hP hD hK hG hZ hS hA rfl hl.1 rfl (Nat.le_of_ble_eq_true rfl) dX6_putAll_20 ⟨Nat.le_of_ble_eq_true rfl, Nat.le_of_ble_eq_true rfl⟩ (fun z_15 I_17 F_18 H locs hq_16 hP hD hS => ?_)
        try dsimp only at hq_16
        have hrl : z_15 = (((lo_L (lo_J (lo_G (I_4 29) F_5))).length : Nat) : Int) := by rw [hq_16.2.2.2.2.2.2.1, hGG]
        obtain ⟨hq32, hq33⟩ := hq_16.2.2.2.2.2.1 (by omega) (by omega)
        have hat := hq_16.2.2.2.2.2.2.2 (by omega) (by omega)
        rw [hGG] at hat
        have hfl2 := hq_16.2.2.1
        have hq_16 := (⟨hq_16.1, hq_16.2.1, hq_16.2.2.1, hq_16.2.2.2.1, hq_16.2.2.2.2.1⟩ : _ ∧ _ ∧ _ ∧ _ ∧ _)
        obtain ⟨rfl, hB19, hf19, hd19, hr19⟩ := hq_16
        have hp19 := mPS.loc hpJ hf19 hd19
        have hfd := pt_fd hGv9 hat hq32 hq33
        obtain ⟨hfd1, hfd2, hfd3, hfd4⟩ := id hfd
        have hlo := pt_lo_kd (kd := I_17 31) hq32 hq33
        have hX2 : pt_X (F 41) (I 42) (I 43) (pt_l (pt_bt pt_lo 44 ((lo_L (lo_J (lo_G (I_4 29) F_5))).take j.toNat))) (G 41) (I_17 42) (I_17 43) := (by rw [hfl2.1 42 (by decide), hfl2.1 43 (by decide)]; exact hXJ)
        have hG2 : lo_G (I_17 29) G = lo_G (I_4 29) F_5 := (lo_G_fr2 (hfl2.1 29 (by decide)) rfl rfl rfl rfl).trans hGG
        refine lv_istore (lv' := [(4, .int (iz z_15)), (3, .int (iz j)), (2, .int (iz z_8)), (0, .ref mo), (1, .int (iz p0))]) hx hb dX6_putAll_23 hl (by decide) rfl (fun ls hl => ?_)
        refine lv_iload_n hx hb dX6_putAll_25 rfl (lv_at hl 1 rfl) ?_
        refine ki_if_le (tgt := 37) hx hb dX6_putAll_26 (by decide) (by omega) (by omega) (fun c_20 => ?_) (fun c_20 => ?_)
        · skip
          refine lv_aload_n hx hb dX6_putAll_37 rfl (lv_at hl 3 rfl) ?_
          refine lv_aload_n hx hb dX6_putAll_38 rfl (lv_at hl 3 rfl) ?_
          refine va_get (D := (dC, dI)) (ci := 6) (v := .int (iz (I_17 31))) (C := RX6) (T := TX6) (N := 44) hx hb hts kt_X6 hown hK hP 0 rfl rfl 31 (by decide) (kx_word hG kq_09_mput_0 rfl) (fun _ h9 => h9) rfl dX6_putAll_39 ?_
          have hbd_21 := hB19.1 31
          refine lv_aload_n hx hb dX6_putAll_42 rfl (lv_at hl 3 rfl) ?_
          refine va_get (D := (dC, dI)) (ci := 6) (v := .int (iz (I_17 32))) (C := RX6) (T := TX6) (N := 44) hx hb hts kt_X6 hown hK hP 0 rfl rfl 32 (by decide) (kx_word hG kq_09_mput_1 rfl) (fun _ h9 => h9) rfl dX6_putAll_43 ?_
          have hbd_22 := hB19.1 32
          have hac_23 : mfr [29, 31, 32, 33, 42, 43] [25, 26, 27, 28, 41] I F I_17 G := (hfJ.tr (hf19.mono (by decide) (by decide)))
          refine mk_callv (As := [.int (iz (I_17 31)), .int (iz (I_17 32))]) (rest := []) ⟨hx, hb, hml, hown, hts⟩ (k_putOne2 l dC dI mo ma cs I_17 G (I_17 31) (I_17 32) H.size hB19 hp19.1 (by omega)) (cwV 2 hts (kx_gV kq_10_mprint_8 kq_10_mprint_9 kq_10_mprint_10 kq_04_msmall_6 kq_10_mprint_11 rfl) rfl rfl rfl (by decide +kernel) ⟨Nat.le_of_ble_eq_true rfl, Nat.le_of_ble_eq_true rfl⟩) hP hD hK hG hZ hS hA rfl hl.1 rfl (Nat.le_of_ble_eq_true rfl) dX6_putAll_46 ⟨Nat.le_of_ble_eq_true rfl, Nat.le_of_ble_eq_true rfl⟩ (fun I_26 F_27 H locs hq_25 hP hD hS => ?_)
          try dsimp only at hq_25
          have hX28 := hq_25.2.2.2
          have hfx28 := hq_25.2.1
          have hq_25 := (⟨hq_25.1, hq_25.2.1, hq_25.2.2.1⟩ : _ ∧ _ ∧ _)
          obtain ⟨hB29, hf29, hd29⟩ := hq_25
          have hp29 := mPS.put hp19 hf29 hd29
          have hY28 := pt_X_app hX2 hX28
          have hk28_31 : I_26 31 = I_17 31 := hfx28.1 31 (by decide)
          have hk28_32 : I_26 32 = I_17 32 := hfx28.1 32 (by decide)
          have hk28_33 : I_26 33 = I_17 33 := hfx28.1 33 (by decide)
          have hgg28 : lo_G (I_26 29) F_27 = lo_G (I_4 29) F_5 := (lo_G_fr2 (hfx28.1 29 (by decide)) (hfx28.2 25 (by decide)) (hfx28.2 26 (by decide)) (hfx28.2 27 (by decide)) (hfx28.2 28 (by decide))).trans hG2
          refine lv_aload_n hx hb dX6_putAll_49 rfl (lv_at hl 3 rfl) ?_
          refine va_get (D := (dC, dI)) (ci := 6) (v := .int (iz (I_26 33))) (C := RX6) (T := TX6) (N := 44) hx hb hts kt_X6 hown hK hP 0 rfl rfl 33 (by decide) (kx_word hG kq_09_mput_2 rfl) (fun _ h9 => h9) rfl dX6_putAll_50 ?_
          have hbd_30 := hB29.1 33
          refine lv_aload_n hx hb dX6_putAll_53 rfl (lv_at hl 3 rfl) ?_
          refine va_get (D := (dC, dI)) (ci := 6) (v := .int (iz (I_26 32))) (C := RX6) (T := TX6) (N := 44) hx hb hts kt_X6 hown hK hP 0 rfl rfl 32 (by decide) (kx_word hG kq_09_mput_1 rfl) (fun _ h9 => h9) rfl dX6_putAll_54 ?_
          have hbd_31 := hB29.1 32
          refine ki_icmp_le (tgt := 78) hx hb dX6_putAll_57 (by decide) (by omega) (by omega) (by omega) (by omega) (fun c_32 => ?_) (fun c_32 => ?_)
          · skip
            refine lv_iinc (v := iz (j + 1)) (lv' := [(3, .int (iz (j + 1))), (4, .int (iz z_15)), (2, .int (iz z_8)), (0, .ref mo), (1, .int (iz p0))]) hx hb dX6_putAll_78 hl (k := 1) rfl (iz_add j 1) (by decide) rfl (fun ls hl => ?_)
            refine lv_goto (tgt := 13) hx hb dX6_putAll_81 (by decide) ?_
            exact ih13 (j + 1) I_26 F_27 ⟨hB29, ((hfJ.tr (hf19.mono (by decide) (by decide))).tr (hf29.mono (by decide) (by decide))), hp29, by omega, hgg28, (pt_X_eq hY28 (by rw [pt_tk (show 0 ≤ j by omega) hat, pt_bt_k, if_pos (show (lo_L (lo_J (lo_G (I_4 29) F_5))).take j.toNat = [] by rw [show j.toNat = 0 by omega]; rfl), hlo, if_pos (by omega)]; simp only [hk28_31, hk28_32, hk28_33, pt_l_app, pt_l_cons, List.append_assoc, List.nil_append, List.append_nil, List.cons_append]; try rfl))⟩ (by omega) _ _ hP hD hS ls (lv_sub hl [0, 2, 3, 4] rfl)
          · skip
            refine lv_aload_n hx hb dX6_putAll_60 rfl (lv_at hl 3 rfl) ?_
            refine lv_bipush (v := iz 45) hx hb dX6_putAll_61 (by decide) ?_
            have hac_33 : mfr [29, 31, 32, 33, 42, 43] [25, 26, 27, 28, 41] I F I_26 F_27 := ((hfJ.tr (hf19.mono (by decide) (by decide))).tr (hf29.mono (by decide) (by decide)))
            refine mk_callv (As := [.int (iz 45)]) (rest := []) ⟨hx, hb, hml, hown, hts⟩ (k_put2 l dC dI mo ma cs I_26 F_27 45 H.size hB29 hp29.1) (cwV 1 hts (kx_gV kq_09_mput_12 kq_09_mput_13 kq_09_mput_14 kq_04_msmall_6 kq_09_mput_15 rfl) rfl rfl rfl (by decide +kernel) ⟨Nat.le_of_ble_eq_true rfl, Nat.le_of_ble_eq_true rfl⟩) hP hD hK hG hZ hS hA rfl hl.1 rfl (Nat.le_of_ble_eq_true rfl) dX6_putAll_63 ⟨Nat.le_of_ble_eq_true rfl, Nat.le_of_ble_eq_true rfl⟩ (fun I_36 F_37 H locs hq_35 hP hD hS => ?_)
            try dsimp only at hq_35
            have hX38 := hq_35.2.2.2
            have hfx38 := hq_35.2.1
            have hq_35 := (⟨hq_35.1, hq_35.2.1, hq_35.2.2.1⟩ : _ ∧ _ ∧ _)
            obtain ⟨hB39, hf39, hd39⟩ := hq_35
            have hp39 := mPS.put hp29 hf39 hd39
            have hY38 := pt_X_app hY28 hX38
            have hk38_31 : I_36 31 = I_26 31 := hfx38.1 31 (by decide)
            have hk38_32 : I_36 32 = I_26 32 := hfx38.1 32 (by decide)
            have hk38_33 : I_36 33 = I_26 33 := hfx38.1 33 (by decide)
            have hgg38 : lo_G (I_36 29) F_37 = lo_G (I_4 29) F_5 := (lo_G_fr2 (hfx38.1 29 (by decide)) (hfx38.2 25 (by decide)) (hfx38.2 26 (by decide)) (hfx38.2 27 (by decide)) (hfx38.2 28 (by decide))).trans hgg28
            refine lv_aload_n hx hb dX6_putAll_66 rfl (lv_at hl 3 rfl) ?_
            refine lv_aload_n hx hb dX6_putAll_67 rfl (lv_at hl 3 rfl) ?_
            refine va_get (D := (dC, dI)) (ci := 6) (v := .int (iz (I_36 31))) (C := RX6) (T := TX6) (N := 44) hx hb hts kt_X6 hown hK hP 0 rfl rfl 31 (by decide) (kx_word hG kq_09_mput_0 rfl) (fun _ h9 => h9) rfl dX6_putAll_68 ?_
            have hbd_40 := hB39.1 31
            refine lv_aload_n hx hb dX6_putAll_71 rfl (lv_at hl 3 rfl) ?_
            refine va_get (D := (dC, dI)) (ci := 6) (v := .int (iz (I_36 33))) (C := RX6) (T := TX6) (N := 44) hx hb hts kt_X6 hown hK hP 0 rfl rfl 33 (by decide) (kx_word hG kq_09_mput_2 rfl) (fun _ h9 => h9) rfl dX6_putAll_72 ?_
            have hbd_41 := hB39.1 33
            have hac_42 : mfr [29, 31, 32, 33, 42, 43] [25, 26, 27, 28, 41] I F I_36 F_37 := (((hfJ.tr (hf19.mono (by decide) (by decide))).tr (hf29.mono (by decide) (by decide))).tr (hf39.mono (by decide) (by decide)))
            refine mk_callv (As := [.int (iz (I_36 31)), .int (iz (I_36 33))]) (rest := []) ⟨hx, hb, hml, hown, hts⟩ (k_putOne2 l dC dI mo ma cs I_36 F_37 (I_36 31) (I_36 33) H.size hB39 hp39.1 (by omega)) (cwV 2 hts (kx_gV kq_10_mprint_8 kq_10_mprint_9 kq_10_mprint_10 kq_04_msmall_6 kq_10_mprint_11 rfl) rfl rfl rfl (by decide +kernel) ⟨Nat.le_of_ble_eq_true rfl, Nat.le_of_ble_eq_true rfl⟩) hP hD hK hG hZ hS hA rfl hl.1 rfl (Nat.le_of_ble_eq_true rfl) dX6_putAll_75 ⟨Nat.le_of_ble_eq_true rfl, Nat.le_of_ble_eq_true rfl⟩ (fun I_45 F_46 H locs hq_44 hP hD hS => ?_)
            try dsimp only at hq_44
            have hX47 := hq_44.2.2.2
            have hfx47 := hq_44.2.1
            have hq_44 := (⟨hq_44.1, hq_44.2.1, hq_44.2.2.1⟩ : _ ∧ _ ∧ _)
            obtain ⟨hB48, hf48, hd48⟩ := hq_44
            have hp48 := mPS.put hp39 hf48 hd48
            have hY47 := pt_X_app hY38 hX47
            have hk47_31 : I_45 31 = I_36 31 := hfx47.1 31 (by decide)
            have hk47_32 : I_45 32 = I_36 32 := hfx47.1 32 (by decide)
            have hk47_33 : I_45 33 = I_36 33 := hfx47.1 33 (by decide)
            have hgg47 : lo_G (I_45 29) F_46 = lo_G (I_4 29) F_5 := (lo_G_fr2 (hfx47.1 29 (by decide)) (hfx47.2 25 (by decide)) (hfx47.2 26 (by decide)) (hfx47.2 27 (by decide)) (hfx47.2 28 (by decide))).trans hgg38
            refine lv_iinc (v := iz (j + 1)) (lv' := [(3, .int (iz (j + 1))), (4, .int (iz z_15)), (2, .int (iz z_8)), (0, .ref mo), (1, .int (iz p0))]) hx hb dX6_putAll_78 hl (k := 1) rfl (iz_add j 1) (by decide) rfl (fun ls hl => ?_)
            refine lv_goto (tgt := 13) hx hb dX6_putAll_81 (by decide) ?_
            exact ih13 (j + 1) I_45 F_46 ⟨hB48, ((((hfJ.tr (hf19.mono (by decide) (by decide))).tr (hf29.mono (by decide) (by decide))).tr (hf39.mono (by decide) (by decide))).tr (hf48.mono (by decide) (by decide))), hp48, by omega, hgg47, (pt_X_eq hY47 (by rw [pt_tk (show 0 ≤ j by omega) hat, pt_bt_k, if_pos (show (lo_L (lo_J (lo_G (I_4 29) F_5))).take j.toNat = [] by rw [show j.toNat = 0 by omega]; rfl), hlo, if_neg (by omega)]; simp only [hk28_31, hk28_32, hk28_33, hk38_31, hk38_32, hk38_33, hk47_31, hk47_32, hk47_33, pt_l_app, pt_l_cons, List.append_assoc, List.nil_append, List.append_nil, List.cons_append]; try rfl))⟩ (by omega) _ _ hP hD hS ls (lv_sub hl [0, 2, 3, 4] rfl)
        · skip
          refine lv_aload_n hx hb dX6_putAll_29 rfl (lv_at hl 3 rfl) ?_
          refine lv_bipush (v := iz 44) hx hb dX6_putAll_30 (by decide) ?_
          refine lv_bipush (v := iz 32) hx hb dX6_putAll_32 (by decide) ?_
          have hac_49 : mfr [29, 31, 32, 33, 42, 43] [25, 26, 27, 28, 41] I F I_17 G := (hfJ.tr (hf19.mono (by decide) (by decide)))
          refine mk_callv (As := [.int (iz 44), .int (iz 32)]) (rest := []) ⟨hx, hb, hml, hown, hts⟩ (k_putPair2 l dC dI mo ma cs I_17 G 44 32 H.size hB19 hp19.1) (cwV 2 hts (kx_gV kq_09_mput_16 kq_09_mput_17 kq_09_mput_18 kq_04_msmall_6 kq_09_mput_19 rfl) rfl rfl rfl (by decide +kernel) ⟨Nat.le_of_ble_eq_true rfl, Nat.le_of_ble_eq_true rfl⟩) hP hD hK hG hZ hS hA rfl hl.1 rfl (Nat.le_of_ble_eq_true rfl) dX6_putAll_34 ⟨Nat.le_of_ble_eq_true rfl, Nat.le_of_ble_eq_true rfl⟩ (fun I_52 F_53 H locs hq_51 hP hD hS => ?_)
          try dsimp only at hq_51
          have hX54 := hq_51.2.2.2
          have hfx54 := hq_51.2.1
          have hq_51 := (⟨hq_51.1, hq_51.2.1, hq_51.2.2.1⟩ : _ ∧ _ ∧ _)
          obtain ⟨hB55, hf55, hd55⟩ := hq_51
          have hp55 := mPS.put hp19 hf55 hd55
          have hY54 := pt_X_app hX2 hX54
          have hk54_31 : I_52 31 = I_17 31 := hfx54.1 31 (by decide)
          have hk54_32 : I_52 32 = I_17 32 := hfx54.1 32 (by decide)
          have hk54_33 : I_52 33 = I_17 33 := hfx54.1 33 (by decide)
          have hgg54 : lo_G (I_52 29) F_53 = lo_G (I_4 29) F_5 := (lo_G_fr2 (hfx54.1 29 (by decide)) (hfx54.2 25 (by decide)) (hfx54.2 26 (by decide)) (hfx54.2 27 (by decide)) (hfx54.2 28 (by decide))).trans hG2
          refine lv_aload_n hx hb dX6_putAll_37 rfl (lv_at hl 3 rfl) ?_
          refine lv_aload_n hx hb dX6_putAll_38 rfl (lv_at hl 3 rfl) ?_
          refine va_get (D := (dC, dI)) (ci := 6) (v := .int (iz (I_52 31))) (C := RX6) (T := TX6) (N := 44) hx hb hts kt_X6 hown hK hP 0 rfl rfl 31 (by decide) (kx_word hG kq_09_mput_0 rfl) (fun _ h9 => h9) rfl dX6_putAll_39 ?_
          have hbd_56 := hB55.1 31
          refine lv_aload_n hx hb dX6_putAll_42 rfl (lv_at hl 3 rfl) ?_
          refine va_get (D := (dC, dI)) (ci := 6) (v := .int (iz (I_52 32))) (C := RX6) (T := TX6) (N := 44) hx hb hts kt_X6 hown hK hP 0 rfl rfl 32 (by decide) (kx_word hG kq_09_mput_1 rfl) (fun _ h9 => h9) rfl dX6_putAll_43 ?_
          have hbd_57 := hB55.1 32
          have hac_58 : mfr [29, 31, 32, 33, 42, 43] [25, 26, 27, 28, 41] I F I_52 F_53 := ((hfJ.tr (hf19.mono (by decide) (by decide))).tr (hf55.mono (by decide) (by decide)))
          refine mk_callv (As := [.int (iz (I_52 31)), .int (iz (I_52 32))]) (rest := []) ⟨hx, hb, hml, hown, hts⟩ (k_putOne2 l dC dI mo ma cs I_52 F_53 (I_52 31) (I_52 32) H.size hB55 hp55.1 (by omega)) (cwV 2 hts (kx_gV kq_10_mprint_8 kq_10_mprint_9 kq_10_mprint_10 kq_04_msmall_6 kq_10_mprint_11 rfl) rfl rfl rfl (by decide +kernel) ⟨Nat.le_of_ble_eq_true rfl, Nat.le_of_ble_eq_true rfl⟩) hP hD hK hG hZ hS hA rfl hl.1 rfl (Nat.le_of_ble_eq_true rfl) dX6_putAll_46 ⟨Nat.le_of_ble_eq_true rfl, Nat.le_of_ble_eq_true rfl⟩ (fun I_61 F_62 H locs hq_60 hP hD hS => ?_)
          try dsimp only at hq_60
          have hX63 := hq_60.2.2.2
          have hfx63 := hq_60.2.1
          have hq_60 := (⟨hq_60.1, hq_60.2.1, hq_60.2.2.1⟩ : _ ∧ _ ∧ _)
          obtain ⟨hB64, hf64, hd64⟩ := hq_60
          have hp64 := mPS.put hp55 hf64 hd64
          have hY63 := pt_X_app hY54 hX63
          have hk63_31 : I_61 31 = I_52 31 := hfx63.1 31 (by decide)
          have hk63_32 : I_61 32 = I_52 32 := hfx63.1 32 (by decide)
          have hk63_33 : I_61 33 = I_52 33 := hfx63.1 33 (by decide)
          have hgg63 : lo_G (I_61 29) F_62 = lo_G (I_4 29) F_5 := (lo_G_fr2 (hfx63.1 29 (by decide)) (hfx63.2 25 (by decide)) (hfx63.2 26 (by decide)) (hfx63.2 27 (by decide)) (hfx63.2 28 (by decide))).trans hgg54
          refine lv_aload_n hx hb dX6_putAll_49 rfl (lv_at hl 3 rfl) ?_
          refine va_get (D := (dC, dI)) (ci := 6) (v := .int (iz (I_61 33))) (C := RX6) (T := TX6) (N := 44) hx hb hts kt_X6 hown hK hP 0 rfl rfl 33 (by decide) (kx_word hG kq_09_mput_2 rfl) (fun _ h9 => h9) rfl dX6_putAll_50 ?_
          have hbd_65 := hB64.1 33
          refine lv_aload_n hx hb dX6_putAll_53 rfl (lv_at hl 3 rfl) ?_
          refine va_get (D := (dC, dI)) (ci := 6) (v := .int (iz (I_61 32))) (C := RX6) (T := TX6) (N := 44) hx hb hts kt_X6 hown hK hP 0 rfl rfl 32 (by decide) (kx_word hG kq_09_mput_1 rfl) (fun _ h9 => h9) rfl dX6_putAll_54 ?_
          have hbd_66 := hB64.1 32
          refine ki_icmp_le (tgt := 78) hx hb dX6_putAll_57 (by decide) (by omega) (by omega) (by omega) (by omega) (fun c_67 => ?_) (fun c_67 => ?_)
          · skip
            refine lv_iinc (v := iz (j + 1)) (lv' := [(3, .int (iz (j + 1))), (4, .int (iz z_15)), (2, .int (iz z_8)), (0, .ref mo), (1, .int (iz p0))]) hx hb dX6_putAll_78 hl (k := 1) rfl (iz_add j 1) (by decide) rfl (fun ls hl => ?_)
            refine lv_goto (tgt := 13) hx hb dX6_putAll_81 (by decide) ?_
            exact ih13 (j + 1) I_61 F_62 ⟨hB64, (((hfJ.tr (hf19.mono (by decide) (by decide))).tr (hf55.mono (by decide) (by decide))).tr (hf64.mono (by decide) (by decide))), hp64, by omega, hgg63, (pt_X_eq hY63 (by rw [pt_tk (show 0 ≤ j by omega) hat, pt_bt_k, if_neg (fun h9 => by have h8 := congrArg List.length h9; rw [List.length_take] at h8; have h7 : min j.toNat _ = 0 := h8; omega), hlo, if_pos (by omega)]; simp only [hk54_31, hk54_32, hk54_33, hk63_31, hk63_32, hk63_33, pt_l_app, pt_l_cons, List.append_assoc, List.nil_append, List.append_nil, List.cons_append]; try rfl))⟩ (by omega) _ _ hP hD hS ls (lv_sub hl [0, 2, 3, 4] rfl)
          · skip
            refine lv_aload_n hx hb dX6_putAll_60 rfl (lv_at hl 3 rfl) ?_
            refine lv_bipush (v := iz 45) hx hb dX6_putAll_61 (by decide) ?_
            have hac_68 : mfr [29, 31, 32, 33, 42, 43] [25, 26, 27, 28, 41] I F I_61 F_62 := (((hfJ.tr (hf19.mono (by decide) (by decide))).tr (hf55.mono (by decide) (by decide))).tr (hf64.mono (by decide) (by decide)))
            refine mk_callv (As := [.int (iz 45)]) (rest := []) ⟨hx, hb, hml, hown, hts⟩ (k_put2 l dC dI mo ma cs I_61 F_62 45 H.size hB64 hp64.1) (cwV 1 hts (kx_gV kq_09_mput_12 kq_09_mput_13 kq_09_mput_14 kq_04_msmall_6 kq_09_mput_15 rfl) rfl rfl rfl (by decide +kernel) ⟨Nat.le_of_ble_eq_true rfl, Nat.le_of_ble_eq_true rfl⟩) hP hD hK hG hZ hS hA rfl hl.1 rfl (Nat.le_of_ble_eq_true rfl) dX6_putAll_63 ⟨Nat.le_of_ble_eq_true rfl, Nat.le_of_ble_eq_true rfl⟩ (fun I_71 F_72 H locs hq_70 hP hD hS => ?_)
            try dsimp only at hq_70
            have hX73 := hq_70.2.2.2
            have hfx73 := hq_70.2.1
            have hq_70 := (⟨hq_70.1, hq_70.2.1, hq_70.2.2.1⟩ : _ ∧ _ ∧ _)
            obtain ⟨hB74, hf74, hd74⟩ := hq_70
            have hp74 := mPS.put hp64 hf74 hd74
            have hY73 := pt_X_app hY63 hX73
            have hk73_31 : I_71 31 = I_61 31 := hfx73.1 31 (by decide)
            have hk73_32 : I_71 32 = I_61 32 := hfx73.1 32 (by decide)
            have hk73_33 : I_71 33 = I_61 33 := hfx73.1 33 (by decide)
            have hgg73 : lo_G (I_71 29) F_72 = lo_G (I_4 29) F_5 := (lo_G_fr2 (hfx73.1 29 (by decide)) (hfx73.2 25 (by decide)) (hfx73.2 26 (by decide)) (hfx73.2 27 (by decide)) (hfx73.2 28 (by decide))).trans hgg63
            refine lv_aload_n hx hb dX6_putAll_66 rfl (lv_at hl 3 rfl) ?_
            refine lv_aload_n hx hb dX6_putAll_67 rfl (lv_at hl 3 rfl) ?_
            refine va_get (D := (dC, dI)) (ci := 6) (v := .int (iz (I_71 31))) (C := RX6) (T := TX6) (N := 44) hx hb hts kt_X6 hown hK hP 0 rfl rfl 31 (by decide) (kx_word hG kq_09_mput_0 rfl) (fun _ h9 => h9) rfl dX6_putAll_68 ?_
            have hbd_75 := hB74.1 31
            refine lv_aload_n hx hb dX6_putAll_71 rfl (lv_at hl 3 rfl) ?_
            refine va_get (D := (dC, dI)) (ci := 6) (v := .int (iz (I_71 33))) (C := RX6) (T := TX6) (N := 44) hx hb hts kt_X6 hown hK hP 0 rfl rfl 33 (by decide) (kx_word hG kq_09_mput_2 rfl) (fun _ h9 => h9) rfl dX6_putAll_72 ?_
            have hbd_76 := hB74.1 33
            have hac_77 : mfr [29, 31, 32, 33, 42, 43] [25, 26, 27, 28, 41] I F I_71 F_72 := ((((hfJ.tr (hf19.mono (by decide) (by decide))).tr (hf55.mono (by decide) (by decide))).tr (hf64.mono (by decide) (by decide))).tr (hf74.mono (by decide) (by decide)))
            refine mk_callv (As := [.int (iz (I_71 31)), .int (iz (I_71 33))]) (rest := []) ⟨hx, hb, hml, hown, hts⟩ (k_putOne2 l dC dI mo ma cs I_71 F_72 (I_71 31) (I_71 33) H.size hB74 hp74.1 (by omega)) (cwV 2 hts (kx_gV kq_10_mprint_8 kq_10_mprint_9 kq_10_mprint_10 kq_04_msmall_6 kq_10_mprint_11 rfl) rfl rfl rfl (by decide +kernel) ⟨Nat.le_of_ble_eq_true rfl, Nat.le_of_ble_eq_true rfl⟩) hP hD hK hG hZ hS hA rfl hl.1 rfl (Nat.le_of_ble_eq_true rfl) dX6_putAll_75 ⟨Nat.le_of_ble_eq_true rfl, Nat.le_of_ble_eq_true rfl⟩ (fun I_80 F_81 H locs hq_79 hP hD hS => ?_)
            try dsimp only at hq_79
            have hX82 := hq_79.2.2.2
            have hfx82 := hq_79.2.1
            have hq_79 := (⟨hq_79.1, hq_79.2.1, hq_79.2.2.1⟩ : _ ∧ _ ∧ _)
            obtain ⟨hB83, hf83, hd83⟩ := hq_79
            have hp83 := mPS.put hp74 hf83 hd83
            have hY82 := pt_X_app hY73 hX82
            have hk82_31 : I_80 31 = I_71 31 := hfx82.1 31 (by decide)
            have hk82_32 : I_80 32 = I_71 32 := hfx82.1 32 (by decide)
            have hk82_33 : I_80 33 = I_71 33 := hfx82.1 33 (by decide)
            have hgg82 : lo_G (I_80 29) F_81 = lo_G (I_4 29) F_5 := (lo_G_fr2 (hfx82.1 29 (by decide)) (hfx82.2 25 (by decide)) (hfx82.2 26 (by decide)) (hfx82.2 27 (by decide)) (hfx82.2 28 (by decide))).trans hgg73
            refine lv_iinc (v := iz (j + 1)) (lv' := [(3, .int (iz (j + 1))), (4, .int (iz z_15)), (2, .int (iz z_8)), (0, .ref mo), (1, .int (iz p0))]) hx hb dX6_putAll_78 hl (k := 1) rfl (iz_add j 1) (by decide) rfl (fun ls hl => ?_)
            refine lv_goto (tgt := 13) hx hb dX6_putAll_81 (by decide) ?_
            exact ih13 (j + 1) I_80 F_81 ⟨hB83, (((((hfJ.tr (hf19.mono (by decide) (by decide))).tr (hf55.mono (by decide) (by decide))).tr (hf64.mono (by decide) (by decide))).tr (hf74.mono (by decide) (by decide))).tr (hf83.mono (by decide) (by decide))), hp83, by omega, hgg82, (pt_X_eq hY82 (by rw [pt_tk (show 0 ≤ j by omega) hat, pt_bt_k, if_neg (fun h9 => by have h8 := congrArg List.length h9; rw [List.length_take] at h8; have h7 : min j.toNat _ = 0 := h8; omega), hlo, if_neg (by omega)]; simp only [hk54_31, hk54_32, hk54_33, hk63_31, hk63_32, hk63_33, hk73_31, hk73_32, hk73_33, hk82_31, hk82_32, hk82_33, pt_l_app, pt_l_cons, List.append_assoc, List.nil_append, List.append_nil, List.cons_append]; try rfl))⟩ (by omega) _ _ hP hD hS ls (lv_sub hl [0, 2, 3, 4] rfl)
  exact lp13 _ 0 I_10 F_5 ⟨hB12, ((mfr.rf.tr (hf6.mono (by decide) (by decide))).tr (hf12.mono (by decide) (by decide))), hp12, by omega, hG1, (pt_X_eq hX1 rfl)⟩ (Nat.lt_succ_self _) _ _ hP hD hS ls (lv_sub hl [0, 1, 2, 3] rfl)
set_option maxHeartbeats 4000000 in
set_option maxRecDepth 100000 in
theorem k_putShown2 (l : Launch) (dC : Nat → ClassId) (dI : Nat → Nat → Nat) (mo : Nat) (ma : Nat → Nat) (cs : Nat → ClassId) (I : Nat → Int) (F : Nat → Int → Int) (p0 : Int) (sz : Nat) (hB : mB I F) (hc : 0 ≤ I 1 ∧ I 1 ≤ 64) (hn : ∀ e, 0 ≤ F 5 e ∧ F 5 e ≤ 20) (hmy : ∀ e, 0 ≤ F 13 e ∧ F 13 e ≤ 5) (hsm : mSm (I 1) F) (hse : mSe I F) (hsu : sumI (F 13) (I 1).toNat ≤ 64) (hdr : mDr I) (hp01 : -2147483648 ≤ p0) (hp02 : p0 < 2147483648) : mMv l yX6_putShown (.code yX6_putShown cX6_putShown 3 none) 2 43 dC dI mo ma cs I F [.ref mo, .int (iz p0)] sz (fun (I' : Nat → Int) (F' : Nat → Int → Int) => mB I' F' ∧ mfr [35, 42, 43] [34, 41] I F I' F' ∧ mDr I' ∧ pt_X (F 41) (I 42) (I 43) (pt_l (pt_sM (I 1) F p0)) (F' 41) (I' 42) (I' 43)) := by
  refine Met.ofW (cc := cX6_putShown) (maxL := 3) (ret := none) (by decide) rfl ?_
  intro p e s m args below meth c s₁ B hml hv
  obtain ⟨rfl, hsz, hP, hK, hD0, hG, hZ⟩ := hv
  have hx := B.exec
  have hb := B.bytes
  have hr := B.returns
  have hts := kx_hts (a := ([.ref mo, .int (iz p0)] : List Value).toArray) hG
  have hown : s.vm.findClass RX6 = some m.cls := findClass_of_methodNamed B.named
  have hlocks := B.notSynchronized
  subst hsz
  have hD := hD0.self (sz := s.heap.size)
  generalize hAe : va_A (mW mo ma cs I F) s.heap.size = A at hD hZ ⊢
  have hA : ∀ q : Nat, s.heap.size ≤ q → A q := fun q h => by rw [← hAe]; exact Or.inr h
  have hS : va_S A s.heap s.heap [] := va_S.rf
  have hl := lv_entry ([.ref mo, .int (iz p0)]) (n := 3) (Nat.le_of_ble_eq_true rfl)
  rw [lg_entry_eq]
  generalize (lg_sl ([.ref mo, .int (iz p0)]) ++ List.replicate (3 - (lg_sl ([.ref mo, .int (iz p0)])).length) Slot.unset).toArray = ls at hl ⊢
  have hl : lv_has ls 3 [(0, .ref mo), (1, .int (iz p0))] := hl
  generalize hQe : MQ below (mQv dC dI mo ma cs A (fun (I' : Nat → Int) (F' : Nat → Int → Int) => mB I' F' ∧ mfr [35, 42, 43] [34, 41] I F I' F' ∧ mDr I' ∧ pt_X (F 41) (I 42) (I 43) (pt_l (pt_sM (I 1) F p0)) (F' 41) (I' 42) (I' 43))) ([.ref mo, .int (iz p0)] : List Value).toArray s 0 0 A = QQ
  have hX0 := pt_X_nil (F 41) (I 42) (I 43)
  refine lv_aload_n hx hb dX6_putShown_0 rfl (lv_at hl 0 rfl) ?_
  refine lv_iload_n hx hb dX6_putShown_1 rfl (lv_at hl 1 rfl) ?_
  have hac_1 : mfr [35, 42, 43] [34, 41] I F I F := mfr.rf
  refine mk_callv (As := [.int (iz p0)]) (rest := []) ⟨hx, hb, hml, hown, hts⟩ (k_gatherShown2 l dC dI mo ma cs I F p0 s.heap.size hB (by rw [(hac_1.1 1 (by decide))]; exact hc) (fun e => by rw [(hac_1.2 13 (by decide))]; exact hmy e) (by rw [(hac_1.1 1 (by decide))]; exact mSm.fr hsm (hac_1.2 17 (by decide)) (hac_1.2 2 (by decide))) (fun e k x1 x2 x3 x4 => by rw [(hac_1.1 1 (by decide))] at x2 ⊢; rw [(hac_1.2 13 (by decide))] at x4; rw [(hac_1.2 12 (by decide))]; exact hse e k x1 x2 x3 x4) (by rw [(hac_1.1 1 (by decide)), (hac_1.2 13 (by decide))]; exact hsu) (by omega) (by omega)) (cwV 1 hts (kx_gV kq_10_mprint_12 kq_10_mprint_13 kq_10_mprint_14 kq_04_msmall_6 kq_10_mprint_15 rfl) rfl rfl rfl (by decide +kernel) ⟨Nat.le_of_ble_eq_true rfl, Nat.le_of_ble_eq_true rfl⟩) hP hD hK hG hZ hS hA rfl hl.1 rfl (Nat.le_of_ble_eq_true rfl) dX6_putShown_2 ⟨Nat.le_of_ble_eq_true rfl, Nat.le_of_ble_eq_true rfl⟩ (fun I_4 F_5 H locs hq_3 hP hD hS => ?_)
  try dsimp only at hq_3
  have hSs := hq_3.2.2.2.2
  have hfg := hq_3.2.1
  have hq_3 := (⟨hq_3.1, hq_3.2.1, hq_3.2.2.1, hq_3.2.2.2.1⟩ : _ ∧ _ ∧ _ ∧ _)
  obtain ⟨hB6, hf6, hv6, hw6⟩ := hq_3
  have hd6 := hdr.fr (hf6.1 42 (by decide)) (hf6.1 43 (by decide))
  have hXg : pt_X (F 41) (I 42) (I 43) [] (F_5 41) (I_4 42) (I_4 43) := (by rw [hfg.2 41 (by decide), hfg.1 42 (by decide), hfg.1 43 (by decide)]; exact pt_X_nil _ _ _)
  refine lv_iconst (v := iz 0) hx hb dX6_putShown_5 (by decide) ?_
  refine lv_istore_n (lv' := [(2, .int (iz 0)), (0, .ref mo), (1, .int (iz p0))]) hx hb dX6_putShown_6 rfl hl (by decide) rfl (fun ls hl => ?_)
  have lp7 : ∀ (n : Nat) (j : Int) (J : Nat → Int) (G : Nat → Int → Int), ((mB J G) ∧ (mfr [35, 42, 43] [34, 41] I F J G) ∧ (mDr J) ∧ (0 ≤ J 35 ∧ J 35 ≤ 64) ∧ (mSh (I 1) J G) ∧ (0 ≤ j ∧ j ≤ 64 ∧ j ≤ J 35) ∧ (G 34 = F_5 34) ∧ (J 35 = I_4 35) ∧ (pt_X (F 41) (I 42) (I 43) (pt_l (pt_bt (pt_wM F) 59 (kf_ls (F_5 34) 0 j.toNat))) (G 41) (J 42) (J 43))) → (J 35 - j).toNat < n → ∀ (H : Heap) (locs : List Loc), va_P (dC, dI) kxCl (mW mo ma cs J G) H → va_D A (mW mo ma cs J G) → va_S A s.heap H locs → ∀ ls : Array Slot, lv_has ls 3 [(2, .int (iz j)), (0, .ref mo), (1, .int (iz p0))] → W p l e (headSpec [.code yX6_putShown cX6_putShown 3 none] ({ frames := 2, cells := 0, slots := 0, locals := 43 })).room s m ([.ref mo, .int (iz p0)] : List Value).toArray below meth c H locs 0 0 QQ (F0 m 7 ls []) := by
    intro n
    induction n with
    | zero => intro j J G hinv hm; exact absurd hm (Nat.not_lt_zero _)
    | succ n ih7 =>
      intro j J G hinv hm H locs hP hD hS ls hl
      obtain ⟨hBJ, hfJ, hdJ, h35, hsv, hj, hG34, hJ35, hXJ⟩ := hinv
      refine lv_iload_n hx hb dX6_putShown_7 rfl (lv_at hl 0 rfl) ?_
      refine lv_aload_n hx hb dX6_putShown_8 rfl (lv_at hl 1 rfl) ?_
      refine va_get (D := (dC, dI)) (ci := 6) (v := .int (iz (J 35))) (C := RX6) (T := TX6) (N := 44) hx hb hts kt_X6 hown hK hP 0 rfl rfl 35 (by decide) (kx_word hG kq_09_mput_3 rfl) (fun _ h9 => h9) rfl dX6_putShown_9 ?_
      have hbd_7 := hBJ.1 35
      refine ki_icmp_ge (tgt := 43) hx hb dX6_putShown_12 (by decide) (by omega) (by omega) (by omega) (by omega) (fun c_8 => ?_) (fun c_8 => ?_)
      · skip
        rw [← hQe]
        exact mk_ret hx hb hr hlocks hP hD hK hS dX6_putShown_43 (⟨hBJ, hfJ, hdJ, pt_X_eq hXJ (by unfold pt_sM; rw [← hSs, show (I_4 35).toNat = j.toNat by omega])⟩)
      · skip
        refine lv_iload_n hx hb dX6_putShown_15 rfl (lv_at hl 0 rfl) ?_
        refine ki_if_le (tgt := 27) hx hb dX6_putShown_16 (by decide) (by omega) (by omega) (fun c_9 => ?_) (fun c_9 => ?_)
        · skip
          refine lv_aload_n hx hb dX6_putShown_27 rfl (lv_at hl 1 rfl) ?_
          refine lv_aload_n hx hb dX6_putShown_28 rfl (lv_at hl 1 rfl) ?_
          refine va_get (D := (dC, dI)) (ci := 6) (v := .ref (ma 34)) (C := RX6) (T := TX6) (N := 44) hx hb hts kt_X6 hown hK hP 0 rfl rfl 34 (by decide) (kx_word hG kq_09_mput_4 rfl) (fun _ h9 => h9) rfl dX6_putShown_29 ?_
          refine lv_iload_n hx hb dX6_putShown_32 rfl (lv_at hl 0 rfl) ?_
          refine ki_iald (F := G 34) hx hb hK hP 24 23 rfl rfl (by omega) (by omega) (by decide) dX6_putShown_33 ?_
          have hbd_10 := hBJ.2 34 j
          have hac_11 : mfr [35, 42, 43] [34, 41] I F J G := hfJ
          refine mk_callv (As := [.int (iz (G 34 j))]) (rest := []) ⟨hx, hb, hml, hown, hts⟩ (k_putSigns2 l dC dI mo ma cs J G (G 34 j) H.size hBJ hdJ (fun e => by rw [(hac_11.2 5 (by decide))]; exact hn e) (by have h9 := hsv j (by omega) (by omega); omega)) (cwV 1 hts (kx_gV kq_10_mprint_16 kq_10_mprint_17 kq_10_mprint_18 kq_04_msmall_6 kq_10_mprint_19 rfl) rfl rfl rfl (by decide +kernel) ⟨Nat.le_of_ble_eq_true rfl, Nat.le_of_ble_eq_true rfl⟩) hP hD hK hG hZ hS hA rfl hl.1 rfl (Nat.le_of_ble_eq_true rfl) dX6_putShown_34 ⟨Nat.le_of_ble_eq_true rfl, Nat.le_of_ble_eq_true rfl⟩ (fun I_14 F_15 H locs hq_13 hP hD hS => ?_)
          try dsimp only at hq_13
          have hX16 := hq_13.2.2.2
          have hq_13 := (⟨hq_13.1, hq_13.2.1, hq_13.2.2.1⟩ : _ ∧ _ ∧ _)
          obtain ⟨hB17, hf17, hd17⟩ := hq_13
          have hmd_18 := hf17
          have hmd_18e := hmd_18.1 35 (by decide)
          rw [pt_wM_fr (hac_11.2 4 (by decide)) (hac_11.2 5 (by decide))] at hX16
          have hY16 := pt_X_app hXJ hX16
          refine lv_iinc (v := iz (j + 1)) (lv' := [(2, .int (iz (j + 1))), (0, .ref mo), (1, .int (iz p0))]) hx hb dX6_putShown_37 hl (k := 0) rfl (iz_add j 1) (by decide) rfl (fun ls hl => ?_)
          refine lv_goto (tgt := 7) hx hb dX6_putShown_40 (by decide) ?_
          exact ih7 (j + 1) I_14 F_15 ⟨hB17, (hfJ.tr (hf17.mono (by decide) (by decide))), hd17, by have h9 := hmd_18.1 35 (by decide); omega, fun i x1 x2 => by rw [hmd_18.1 35 (by decide)] at x2; rw [hmd_18.2 34 (by decide)]; exact hsv i x1 x2, by omega, (by rw [hmd_18.2 34 (by decide)]; exact hG34), (by rw [hmd_18.1 35 (by decide)]; exact hJ35), (pt_X_eq hY16 (by rw [kf_ls_sn (F := F_5 34) (show 0 ≤ j by omega) (fun _ _ _ => rfl) rfl, pt_bt_k, if_pos (show kf_ls (F_5 34) 0 j.toNat = [] by rw [show j.toNat = 0 by omega]; rfl), show F_5 34 j = G 34 j from (congrFun hG34 j).symm]; simp only [List.append_assoc, List.nil_append, List.append_nil]; try rfl))⟩ (by omega) _ _ hP hD hS ls (lv_sub hl [0, 1, 2] rfl)
        · skip
          refine lv_aload_n hx hb dX6_putShown_19 rfl (lv_at hl 1 rfl) ?_
          refine lv_bipush (v := iz 59) hx hb dX6_putShown_20 (by decide) ?_
          refine lv_bipush (v := iz 32) hx hb dX6_putShown_22 (by decide) ?_
          have hac_19 : mfr [35, 42, 43] [34, 41] I F J G := hfJ
          refine mk_callv (As := [.int (iz 59), .int (iz 32)]) (rest := []) ⟨hx, hb, hml, hown, hts⟩ (k_putPair2 l dC dI mo ma cs J G 59 32 H.size hBJ hdJ) (cwV 2 hts (kx_gV kq_09_mput_16 kq_09_mput_17 kq_09_mput_18 kq_04_msmall_6 kq_09_mput_19 rfl) rfl rfl rfl (by decide +kernel) ⟨Nat.le_of_ble_eq_true rfl, Nat.le_of_ble_eq_true rfl⟩) hP hD hK hG hZ hS hA rfl hl.1 rfl (Nat.le_of_ble_eq_true rfl) dX6_putShown_24 ⟨Nat.le_of_ble_eq_true rfl, Nat.le_of_ble_eq_true rfl⟩ (fun I_22 F_23 H locs hq_21 hP hD hS => ?_)
          try dsimp only at hq_21
          have hX24 := hq_21.2.2.2
          have hq_21 := (⟨hq_21.1, hq_21.2.1, hq_21.2.2.1⟩ : _ ∧ _ ∧ _)
          obtain ⟨hB25, hf25, hd25⟩ := hq_21
          have hmd_26 := hf25
          have hmd_26e := hmd_26.1 35 (by decide)
          have hY24 := pt_X_app hXJ hX24
          refine lv_aload_n hx hb dX6_putShown_27 rfl (lv_at hl 1 rfl) ?_
          refine lv_aload_n hx hb dX6_putShown_28 rfl (lv_at hl 1 rfl) ?_
          refine va_get (D := (dC, dI)) (ci := 6) (v := .ref (ma 34)) (C := RX6) (T := TX6) (N := 44) hx hb hts kt_X6 hown hK hP 0 rfl rfl 34 (by decide) (kx_word hG kq_09_mput_4 rfl) (fun _ h9 => h9) rfl dX6_putShown_29 ?_
          refine lv_iload_n hx hb dX6_putShown_32 rfl (lv_at hl 0 rfl) ?_
          refine ki_iald (F := F_23 34) hx hb hK hP 24 23 rfl rfl (by omega) (by omega) (by decide) dX6_putShown_33 ?_
          have hbd_27 := hB25.2 34 j
          have hac_28 : mfr [35, 42, 43] [34, 41] I F I_22 F_23 := (hfJ.tr (hf25.mono (by decide) (by decide)))
          refine mk_callv (As := [.int (iz (F_23 34 j))]) (rest := []) ⟨hx, hb, hml, hown, hts⟩ (k_putSigns2 l dC dI mo ma cs I_22 F_23 (F_23 34 j) H.size hB25 hd25 (fun e => by rw [(hac_28.2 5 (by decide))]; exact hn e) (by have h9 := hsv j (by omega) (by omega); rw [hmd_26.2 34 (by decide)]; omega)) (cwV 1 hts (kx_gV kq_10_mprint_16 kq_10_mprint_17 kq_10_mprint_18 kq_04_msmall_6 kq_10_mprint_19 rfl) rfl rfl rfl (by decide +kernel) ⟨Nat.le_of_ble_eq_true rfl, Nat.le_of_ble_eq_true rfl⟩) hP hD hK hG hZ hS hA rfl hl.1 rfl (Nat.le_of_ble_eq_true rfl) dX6_putShown_34 ⟨Nat.le_of_ble_eq_true rfl, Nat.le_of_ble_eq_true rfl⟩ (fun I_31 F_32 H locs hq_30 hP hD hS => ?_)
          try dsimp only at hq_30
          have hX33 := hq_30.2.2.2
          have hq_30 := (⟨hq_30.1, hq_30.2.1, hq_30.2.2.1⟩ : _ ∧ _ ∧ _)
          obtain ⟨hB34, hf34, hd34⟩ := hq_30
          have hmd_35 := hmd_26.tr hf34
          have hmd_35e := hmd_35.1 35 (by decide)
          rw [pt_wM_fr (hac_28.2 4 (by decide)) (hac_28.2 5 (by decide))] at hX33
          have hY33 := pt_X_app hY24 hX33
          refine lv_iinc (v := iz (j + 1)) (lv' := [(2, .int (iz (j + 1))), (0, .ref mo), (1, .int (iz p0))]) hx hb dX6_putShown_37 hl (k := 0) rfl (iz_add j 1) (by decide) rfl (fun ls hl => ?_)
          refine lv_goto (tgt := 7) hx hb dX6_putShown_40 (by decide) ?_
          exact ih7 (j + 1) I_31 F_32 ⟨hB34, ((hfJ.tr (hf25.mono (by decide) (by decide))).tr (hf34.mono (by decide) (by decide))), hd34, by have h9 := hmd_35.1 35 (by decide); omega, fun i x1 x2 => by rw [hmd_35.1 35 (by decide)] at x2; rw [hmd_35.2 34 (by decide)]; exact hsv i x1 x2, by omega, (by rw [hmd_35.2 34 (by decide)]; exact hG34), (by rw [hmd_35.1 35 (by decide)]; exact hJ35), (pt_X_eq hY33 (by rw [kf_ls_sn (F := F_5 34) (show 0 ≤ j by omega) (fun _ _ _ => rfl) rfl, pt_bt_k, if_neg (fun h9 => by have h8 := congrArg List.length h9; rw [kf_ls_len] at h8; have h7 : j.toNat = 0 := h8; omega), show F_5 34 j = F_23 34 j from ((show F_23 34 j = F_5 34 j by rw [hmd_26.2 34 (by decide)]; exact congrFun hG34 j)).symm]; simp only [List.append_assoc, List.nil_append, List.append_nil]; try rfl))⟩ (by omega) _ _ hP hD hS ls (lv_sub hl [0, 1, 2] rfl)
  exact lp7 _ 0 I_4 F_5 ⟨hB6, (mfr.rf.tr (hf6.mono (by decide) (by decide))), hd6, hv6, hw6, by omega, rfl, rfl, (pt_X_eq hXg rfl)⟩ (Nat.lt_succ_self _) _ _ hP hD hS ls (lv_sub hl [0, 1, 2] rfl)
set_option maxHeartbeats 4000000 in
set_option maxRecDepth 100000 in
theorem k_isMark2 (l : Launch) (dC : Nat → ClassId) (dI : Nat → Nat → Nat) (p0 : Int) (sz : Nat) (hp01 : -2147483648 ≤ p0) (hp02 : p0 < 2147483648) : mMs l yX6_isMark (.code yX6_isMark cX6_isMark 1 (some .boolean)) 0 0 dC dI [.int (iz p0)] sz (fun (r : Int) => (r = 1 ∧ pt_mk p0) ∨ (r = 0 ∧ ¬ pt_mk p0)) := by
  refine Met.ofW (cc := cX6_isMark) (maxL := 1) (ret := (some .boolean)) (by decide) rfl ?_
  intro p e s m args below meth c s₁ B hml hv
  obtain ⟨rfl, hsz, hP, hK, hD0, hG, hZ⟩ := hv
  have hx := B.exec
  have hb := B.bytes
  have hr := B.returns
  have hts := kx_hts (a := ([.int (iz p0)] : List Value).toArray) hG
  have hown : s.vm.findClass RX6 = some m.cls := findClass_of_methodNamed B.named
  have hlocks := B.notSynchronized
  subst hsz
  have hD := hD0.self (sz := s.heap.size)
  generalize hAe : va_A [] s.heap.size = A at hD hZ ⊢
  have hA : ∀ q : Nat, s.heap.size ≤ q → A q := fun q h => by rw [← hAe]; exact Or.inr h
  have hS : va_S A s.heap s.heap [] := va_S.rf
  have hl := lv_entry ([.int (iz p0)]) (n := 1) (Nat.le_of_ble_eq_true rfl)
  rw [lg_entry_eq]
  generalize (lg_sl ([.int (iz p0)]) ++ List.replicate (1 - (lg_sl ([.int (iz p0)])).length) Slot.unset).toArray = ls at hl ⊢
  have hl : lv_has ls 1 [(0, .int (iz p0))] := hl
  refine lv_iload_n hx hb dX6_isMark_0 rfl (lv_at hl 0 rfl) ?_
  refine lv_bipush (v := iz 119) hx hb dX6_isMark_1 (by decide) ?_
  refine ki_icmp_eq (tgt := 36) hx hb dX6_isMark_3 (by decide) (by omega) (by omega) (by omega) (by omega) (fun c_1 => ?_) (fun c_1 => ?_)
  · skip
    refine lv_iconst (v := iz 1) hx hb dX6_isMark_36 (by decide) ?_
    refine lv_goto (tgt := 41) hx hb dX6_isMark_37 (by decide) ?_
    exact W.zret (v := iz 1) hx hb hr (mz_bool (by omega)).1 (fun t ht hW => ⟨⟨iz 1, 1, rfl, ⟨rfl, by unfold pt_mk; omega⟩, by rw [ht]; exact hP, va_K.moved hW.alike hK, hD⟩, hS.F ht⟩) hS.2.2 dX6_isMark_41
  · skip
    refine lv_iload_n hx hb dX6_isMark_6 rfl (lv_at hl 0 rfl) ?_
    refine lv_bipush (v := iz 112) hx hb dX6_isMark_7 (by decide) ?_
    refine ki_icmp_eq (tgt := 36) hx hb dX6_isMark_9 (by decide) (by omega) (by omega) (by omega) (by omega) (fun c_2 => ?_) (fun c_2 => ?_)
    · skip
      refine lv_iconst (v := iz 1) hx hb dX6_isMark_36 (by decide) ?_
      refine lv_goto (tgt := 41) hx hb dX6_isMark_37 (by decide) ?_
      exact W.zret (v := iz 1) hx hb hr (mz_bool (by omega)).1 (fun t ht hW => ⟨⟨iz 1, 1, rfl, ⟨rfl, by unfold pt_mk; omega⟩, by rw [ht]; exact hP, va_K.moved hW.alike hK, hD⟩, hS.F ht⟩) hS.2.2 dX6_isMark_41
    · skip
      refine lv_iload_n hx hb dX6_isMark_12 rfl (lv_at hl 0 rfl) ?_
      refine lv_bipush (v := iz 115) hx hb dX6_isMark_13 (by decide) ?_
      refine ki_icmp_eq (tgt := 36) hx hb dX6_isMark_15 (by decide) (by omega) (by omega) (by omega) (by omega) (fun c_3 => ?_) (fun c_3 => ?_)
      · skip
        refine lv_iconst (v := iz 1) hx hb dX6_isMark_36 (by decide) ?_
        refine lv_goto (tgt := 41) hx hb dX6_isMark_37 (by decide) ?_
        exact W.zret (v := iz 1) hx hb hr (mz_bool (by omega)).1 (fun t ht hW => ⟨⟨iz 1, 1, rfl, ⟨rfl, by unfold pt_mk; omega⟩, by rw [ht]; exact hP, va_K.moved hW.alike hK, hD⟩, hS.F ht⟩) hS.2.2 dX6_isMark_41
      · skip
        refine lv_iload_n hx hb dX6_isMark_18 rfl (lv_at hl 0 rfl) ?_
        refine lv_bipush (v := iz 103) hx hb dX6_isMark_19 (by decide) ?_
        refine ki_icmp_eq (tgt := 36) hx hb dX6_isMark_21 (by decide) (by omega) (by omega) (by omega) (by omega) (fun c_4 => ?_) (fun c_4 => ?_)
        · skip
          refine lv_iconst (v := iz 1) hx hb dX6_isMark_36 (by decide) ?_
          refine lv_goto (tgt := 41) hx hb dX6_isMark_37 (by decide) ?_
          exact W.zret (v := iz 1) hx hb hr (mz_bool (by omega)).1 (fun t ht hW => ⟨⟨iz 1, 1, rfl, ⟨rfl, by unfold pt_mk; omega⟩, by rw [ht]; exact hP, va_K.moved hW.alike hK, hD⟩, hS.F ht⟩) hS.2.2 dX6_isMark_41
        · skip
          refine lv_iload_n hx hb dX6_isMark_24 rfl (lv_at hl 0 rfl) ?_
          refine lv_bipush (v := iz 110) hx hb dX6_isMark_25 (by decide) ?_
          refine ki_icmp_eq (tgt := 36) hx hb dX6_isMark_27 (by decide) (by omega) (by omega) (by omega) (by omega) (fun c_5 => ?_) (fun c_5 => ?_)
          · skip
            refine lv_iconst (v := iz 1) hx hb dX6_isMark_36 (by decide) ?_
            refine lv_goto (tgt := 41) hx hb dX6_isMark_37 (by decide) ?_
            exact W.zret (v := iz 1) hx hb hr (mz_bool (by omega)).1 (fun t ht hW => ⟨⟨iz 1, 1, rfl, ⟨rfl, by unfold pt_mk; omega⟩, by rw [ht]; exact hP, va_K.moved hW.alike hK, hD⟩, hS.F ht⟩) hS.2.2 dX6_isMark_41
          · skip
            refine lv_iload_n hx hb dX6_isMark_30 rfl (lv_at hl 0 rfl) ?_
            refine lv_bipush (v := iz 37) hx hb dX6_isMark_31 (by decide) ?_
            refine ki_icmp_ne (tgt := 40) hx hb dX6_isMark_33 (by decide) (by omega) (by omega) (by omega) (by omega) (fun c_6 => ?_) (fun c_6 => ?_)
            · skip
              refine lv_iconst (v := iz 0) hx hb dX6_isMark_40 (by decide) ?_
              exact W.zret (v := iz 0) hx hb hr (mz_bool (by omega)).1 (fun t ht hW => ⟨⟨iz 0, 0, rfl, ⟨rfl, by unfold pt_mk; omega⟩, by rw [ht]; exact hP, va_K.moved hW.alike hK, hD⟩, hS.F ht⟩) hS.2.2 dX6_isMark_41
            · skip
              refine lv_iconst (v := iz 1) hx hb dX6_isMark_36 (by decide) ?_
              refine lv_goto (tgt := 41) hx hb dX6_isMark_37 (by decide) ?_
              exact W.zret (v := iz 1) hx hb hr (mz_bool (by omega)).1 (fun t ht hW => ⟨⟨iz 1, 1, rfl, ⟨rfl, by unfold pt_mk; omega⟩, by rw [ht]; exact hP, va_K.moved hW.alike hK, hD⟩, hS.F ht⟩) hS.2.2 dX6_isMark_41
set_option maxHeartbeats 4000000 in
set_option maxRecDepth 100000 in
theorem k_findFault2 (l : Launch) (dC : Nat → ClassId) (dI : Nat → Nat → Nat) (mo : Nat) (ma : Nat → Nat) (cs : Nat → ClassId) (I : Nat → Int) (F : Nat → Int → Int) (sz : Nat) (hB : mB I F) (hst : 0 ≤ I 37 ∧ I 37 ≤ 64) : mMi l yX6_findFault (.code yX6_findFault cX6_findFault 4 (some .int)) 1 20 dC dI mo ma cs I F [.ref mo] sz (fun (r : Int) (I' : Nat → Int) (F' : Nat → Int → Int) => I = I' ∧ mB I F' ∧ mfr [] [38] I F I F' ∧ (-1 ≤ r ∧ r ≤ 64) ∧ (r = -1 → mBr 4 I F') ∧ r = pt_ft (F 36) (I 37) (I 37).toNat 0 0 ∧ (r = -1 → pt_Br (F 36) (I 37) (F' 38))) := by
  refine Met.ofW (cc := cX6_findFault) (maxL := 4) (ret := (some .int)) (by decide) rfl ?_
  intro p e s m args below meth c s₁ B hml hv
  obtain ⟨rfl, hsz, hP, hK, hD0, hG, hZ⟩ := hv
  have hx := B.exec
  have hb := B.bytes
  have hr := B.returns
  have hts := kx_hts (a := ([.ref mo] : List Value).toArray) hG
  have hown : s.vm.findClass RX6 = some m.cls := findClass_of_methodNamed B.named
  have hlocks := B.notSynchronized
  subst hsz
  have hD := hD0.self (sz := s.heap.size)
  generalize hAe : va_A (mW mo ma cs I F) s.heap.size = A at hD hZ ⊢
  have hA : ∀ q : Nat, s.heap.size ≤ q → A q := fun q h => by rw [← hAe]; exact Or.inr h
  have hS : va_S A s.heap s.heap [] := va_S.rf
  have hl := lv_entry ([.ref mo]) (n := 4) (Nat.le_of_ble_eq_true rfl)
  rw [lg_entry_eq]
  generalize (lg_sl ([.ref mo]) ++ List.replicate (4 - (lg_sl ([.ref mo])).length) Slot.unset).toArray = ls at hl ⊢
  have hl : lv_has ls 4 [(0, .ref mo)] := hl
  generalize hQe : MQ below (mQi dC dI mo ma cs A (fun (r : Int) (I' : Nat → Int) (F' : Nat → Int → Int) => I = I' ∧ mB I F' ∧ mfr [] [38] I F I F' ∧ (-1 ≤ r ∧ r ≤ 64) ∧ (r = -1 → mBr 4 I F') ∧ r = pt_ft (F 36) (I 37) (I 37).toNat 0 0 ∧ (r = -1 → pt_Br (F 36) (I 37) (F' 38)))) ([.ref mo] : List Value).toArray s 0 0 A = QQ
  refine lv_iconst (v := iz 0) hx hb dX6_findFault_0 (by decide) ?_
  refine lv_istore_n (lv' := [(1, .int (iz 0)), (0, .ref mo)]) hx hb dX6_findFault_1 rfl hl (by decide) rfl (fun ls hl => ?_)
  refine lv_iconst (v := iz 0) hx hb dX6_findFault_2 (by decide) ?_
  refine lv_istore_n (lv' := [(2, .int (iz 0)), (1, .int (iz 0)), (0, .ref mo)]) hx hb dX6_findFault_3 rfl hl (by decide) rfl (fun ls hl => ?_)
  have lp4 : ∀ (n : Nat) (nb k : Int) (G : Nat → Int → Int), ((mB I G) ∧ (mfr [] [38] I F I G) ∧ (0 ≤ nb ∧ nb ≤ 3) ∧ (0 ≤ k ∧ k ≤ 66) ∧ (mBr nb I G) ∧ (k ≤ I 37) ∧ (pt_ft (F 36) (I 37) (I 37).toNat 0 0 = pt_ft (F 36) (I 37) (I 37 - k).toNat k nb) ∧ (pt_FI (F 36) (I 37) (G 38) nb k)) → (I 37 - k).toNat < n → ∀ (H : Heap) (locs : List Loc), va_P (dC, dI) kxCl (mW mo ma cs I G) H → va_D A (mW mo ma cs I G) → va_S A s.heap H locs → ∀ ls : Array Slot, lv_has ls 4 [(2, .int (iz k)), (1, .int (iz nb)), (0, .ref mo)] → W p l e (headSpec [.code yX6_findFault cX6_findFault 4 (some .int)] ({ frames := 1, cells := 0, slots := 0, locals := 20 })).room s m ([.ref mo] : List Value).toArray below meth c H locs 0 0 QQ (F0 m 4 ls []) := by
    intro n
    induction n with
    | zero => intro nb k G hinv hm; exact absurd hm (Nat.not_lt_zero _)
    | succ n ih4 =>
      intro nb k G hinv hm H locs hP hD hS ls hl
      obtain ⟨hBG, hfG, hnb, hk, hbr, hk2, hft, hFI⟩ := hinv
      refine lv_iload_n hx hb dX6_findFault_4 rfl (lv_at hl 0 rfl) ?_
      refine lv_aload_n hx hb dX6_findFault_5 rfl (lv_at hl 2 rfl) ?_
      refine va_get (D := (dC, dI)) (ci := 6) (v := .int (iz (I 37))) (C := RX6) (T := TX6) (N := 44) hx hb hts kt_X6 hown hK hP 0 rfl rfl 37 (by decide) (kx_word hG kq_04_msmall_19 rfl) (fun _ h9 => h9) rfl dX6_findFault_6 ?_
      have hbd_1 := hBG.1 37
      refine ki_icmp_ge (tgt := 97) hx hb dX6_findFault_9 (by decide) (by omega) (by omega) (by omega) (by omega) (fun c_2 => ?_) (fun c_2 => ?_)
      · skip
        refine lv_aload_n hx hb dX6_findFault_97 rfl (lv_at hl 2 rfl) ?_
        refine va_get (D := (dC, dI)) (ci := 6) (v := .ref (ma 38)) (C := RX6) (T := TX6) (N := 44) hx hb hts kt_X6 hown hK hP 0 rfl rfl 38 (by decide) (kx_word hG kq_09_mput_5 rfl) (fun _ h9 => h9) rfl dX6_findFault_98 ?_
        refine lv_iconst (v := iz 3) hx hb dX6_findFault_101 (by decide) ?_
        refine lv_aload_n hx hb dX6_findFault_102 rfl (lv_at hl 2 rfl) ?_
        refine va_get (D := (dC, dI)) (ci := 6) (v := .int (iz (I 37))) (C := RX6) (T := TX6) (N := 44) hx hb hts kt_X6 hown hK hP 0 rfl rfl 37 (by decide) (kx_word hG kq_04_msmall_19 rfl) (fun _ h9 => h9) rfl dX6_findFault_103 ?_
        refine ki_iast (F := G 38) hx hb hK hP hD hS 26 25 rfl rfl (by omega) (by omega) (by decide) dX6_findFault_106 (fun H locs hP hD hS => ?_)
        have hP : va_P (dC, dI) kxCl (mW mo ma cs I (va_up G 38 (upI (G 38) 3 (I 37)))) H := hP
        have hD : va_D A (mW mo ma cs I (va_up G 38 (upI (G 38) 3 (I 37)))) := hD
        refine lv_iload_n hx hb dX6_findFault_107 rfl (lv_at hl 1 rfl) ?_
        refine lv_iconst (v := iz 3) hx hb dX6_findFault_108 (by decide) ?_
        refine ki_icmp_ge (tgt := 119) hx hb dX6_findFault_109 (by decide) (by omega) (by omega) (by omega) (by omega) (fun c_3 => ?_) (fun c_3 => ?_)
        · skip
          refine lv_iconst (v := iz (-1)) hx hb dX6_findFault_119 (by decide) ?_
          rw [← hQe]
          exact mk_ireti hx hb hr hlocks hP hD hK hS dX6_findFault_120 (⟨rfl, (mB_f hBG 38 3 (by omega) (by omega)), (mfr.upF hfG (by decide) _), by omega, fun _ => mBr.last (by omega) hbr rfl (by omega), (by rw [hft, pt_ft_end (by omega), if_neg (by omega)]), fun _ => (pt_FI_end (B := G 38) (by rw [show (3 : Int) = nb by omega]; exact hFI) (show k = I 37 by omega) (by rw [hft, pt_ft_end (by omega), if_neg (by omega)]))⟩)
        · skip
          refine lv_aload_n hx hb dX6_findFault_112 rfl (lv_at hl 2 rfl) ?_
          refine va_get (D := (dC, dI)) (ci := 6) (v := .int (iz (I 37))) (C := RX6) (T := TX6) (N := 44) hx hb hts kt_X6 hown hK hP 0 rfl rfl 37 (by decide) (kx_word hG kq_04_msmall_19 rfl) (fun _ h9 => h9) rfl dX6_findFault_113 ?_
          refine lv_goto (tgt := 120) hx hb dX6_findFault_116 (by decide) ?_
          rw [← hQe]
          exact mk_ireti hx hb hr hlocks hP hD hK hS dX6_findFault_120 (⟨rfl, (mB_f hBG 38 3 (by omega) (by omega)), (mfr.upF hfG (by decide) _), by omega, fun h => absurd h (by omega), (by rw [hft, pt_ft_end (by omega), if_pos (by omega)]), fun h9 => absurd h9 (by omega)⟩)
      · skip
        refine lv_aload_n hx hb dX6_findFault_12 rfl (lv_at hl 2 rfl) ?_
        refine va_get (D := (dC, dI)) (ci := 6) (v := .ref (ma 36)) (C := RX6) (T := TX6) (N := 44) hx hb hts kt_X6 hown hK hP 0 rfl rfl 36 (by decide) (kx_word hG kq_04_msmall_20 rfl) (fun _ h9 => h9) rfl dX6_findFault_13 ?_
        refine lv_iload_n hx hb dX6_findFault_16 rfl (lv_at hl 0 rfl) ?_
        refine ki_iald (F := G 36) hx hb hK hP 25 24 rfl rfl (by omega) (by omega) (by decide) dX6_findFault_17 ?_
        have hbd_4 := hBG.2 36 k
        refine lv_istore_n (lv' := [(3, .int (iz (G 36 k))), (2, .int (iz k)), (1, .int (iz nb)), (0, .ref mo)]) hx hb dX6_findFault_18 rfl hl (by decide) rfl (fun ls hl => ?_)
        have e36 := congrFun (hfG.2 36 (by decide)) k
        refine lv_iload_n hx hb dX6_findFault_19 rfl (lv_at hl 0 rfl) ?_
        refine lv_bipush (v := iz 37) hx hb dX6_findFault_20 (by decide) ?_
        refine ki_icmp_ne (tgt := 49) hx hb dX6_findFault_22 (by decide) (by omega) (by omega) (by omega) (by omega) (fun c_5 => ?_) (fun c_5 => ?_)
        · skip
          refine lv_iload_n hx hb dX6_findFault_49 rfl (lv_at hl 0 rfl) ?_
          refine lv_bipush (v := iz 124) hx hb dX6_findFault_50 (by decide) ?_
          refine ki_icmp_ne (tgt := 62) hx hb dX6_findFault_52 (by decide) (by omega) (by omega) (by omega) (by omega) (fun c_6 => ?_) (fun c_6 => ?_)
          · skip
            refine lv_iload_n hx hb dX6_findFault_62 rfl (lv_at hl 0 rfl) ?_
            refine lv_bipush (v := iz 124) hx hb dX6_findFault_63 (by decide) ?_
            refine ki_icmp_ne (tgt := 78) hx hb dX6_findFault_65 (by decide) (by omega) (by omega) (by omega) (by omega) (fun c_7 => ?_) (fun c_7 => ?_)
            · skip
              refine lv_iload_n hx hb dX6_findFault_78 rfl (lv_at hl 0 rfl) ?_
              refine lv_bipush (v := iz 37) hx hb dX6_findFault_79 (by decide) ?_
              refine ki_icmp_ne (tgt := 90) hx hb dX6_findFault_81 (by decide) (by omega) (by omega) (by omega) (by omega) (fun c_8 => ?_) (fun c_8 => ?_)
              · skip
                refine lv_iload_n hx hb dX6_findFault_90 rfl (lv_at hl 1 rfl) ?_
                refine lv_iconst (v := iz 1) hx hb dX6_findFault_91 (by decide) ?_
                refine ki_iadd hx hb dX6_findFault_92 ?_
                refine lv_istore_n (lv' := [(2, .int (iz (k + 1))), (3, .int (iz (G 36 k))), (1, .int (iz nb)), (0, .ref mo)]) hx hb dX6_findFault_93 rfl hl (by decide) rfl (fun ls hl => ?_)
                refine lv_goto (tgt := 4) hx hb dX6_findFault_94 (by decide) ?_
                exact ih4 nb (k + 1) G ⟨hBG, hfG, by omega, by omega, hbr, by omega, (hft.trans (pt_ft_sign (by omega) (show ¬ F 36 k = 124 by omega) (show ¬ F 36 k = 37 by omega))), (pt_FI_go hFI (by omega) (pt_nb_sign (by omega) (show ¬ F 36 k = 124 by omega) (show ¬ F 36 k = 37 by omega)))⟩ (by omega) _ _ hP hD hS ls (lv_sub hl [0, 2, 3] rfl)
              · omega
            · omega
          · skip
            refine lv_iload_n hx hb dX6_findFault_55 rfl (lv_at hl 2 rfl) ?_
            refine lv_iconst (v := iz 3) hx hb dX6_findFault_56 (by decide) ?_
            refine ki_icmp_ne (tgt := 62) hx hb dX6_findFault_57 (by decide) (by omega) (by omega) (by omega) (by omega) (fun c_9 => ?_) (fun c_9 => ?_)
            · skip
              refine lv_iload_n hx hb dX6_findFault_62 rfl (lv_at hl 0 rfl) ?_
              refine lv_bipush (v := iz 124) hx hb dX6_findFault_63 (by decide) ?_
              refine ki_icmp_ne (tgt := 78) hx hb dX6_findFault_65 (by decide) (by omega) (by omega) (by omega) (by omega) (fun c_10 => ?_) (fun c_10 => ?_)
              · omega
              · skip
                refine lv_aload_n hx hb dX6_findFault_68 rfl (lv_at hl 3 rfl) ?_
                refine va_get (D := (dC, dI)) (ci := 6) (v := .ref (ma 38)) (C := RX6) (T := TX6) (N := 44) hx hb hts kt_X6 hown hK hP 0 rfl rfl 38 (by decide) (kx_word hG kq_09_mput_5 rfl) (fun _ h9 => h9) rfl dX6_findFault_69 ?_
                refine lv_iload_n hx hb dX6_findFault_72 rfl (lv_at hl 2 rfl) ?_
                refine lv_iload_n hx hb dX6_findFault_73 rfl (lv_at hl 1 rfl) ?_
                refine ki_iast (F := G 38) hx hb hK hP hD hS 26 25 rfl rfl (by omega) (by omega) (by decide) dX6_findFault_74 (fun H locs hP hD hS => ?_)
                have hP : va_P (dC, dI) kxCl (mW mo ma cs I (va_up G 38 (upI (G 38) nb k))) H := hP
                have hD : va_D A (mW mo ma cs I (va_up G 38 (upI (G 38) nb k))) := hD
                refine lv_iinc (v := iz (nb + 1)) (lv' := [(1, .int (iz (nb + 1))), (3, .int (iz (G 36 k))), (2, .int (iz k)), (0, .ref mo)]) hx hb dX6_findFault_75 hl (k := 2) rfl (iz_add nb 1) (by decide) rfl (fun ls hl => ?_)
                refine lv_iload_n hx hb dX6_findFault_78 rfl (lv_at hl 1 rfl) ?_
                refine lv_bipush (v := iz 37) hx hb dX6_findFault_79 (by decide) ?_
                refine ki_icmp_ne (tgt := 90) hx hb dX6_findFault_81 (by decide) (by omega) (by omega) (by omega) (by omega) (fun c_11 => ?_) (fun c_11 => ?_)
                · skip
                  refine lv_iload_n hx hb dX6_findFault_90 rfl (lv_at hl 2 rfl) ?_
                  refine lv_iconst (v := iz 1) hx hb dX6_findFault_91 (by decide) ?_
                  refine ki_iadd hx hb dX6_findFault_92 ?_
                  refine lv_istore_n (lv' := [(2, .int (iz (k + 1))), (1, .int (iz (nb + 1))), (3, .int (iz (G 36 k))), (0, .ref mo)]) hx hb dX6_findFault_93 rfl hl (by decide) rfl (fun ls hl => ?_)
                  refine lv_goto (tgt := 4) hx hb dX6_findFault_94 (by decide) ?_
                  exact ih4 (nb + 1) (k + 1) (va_up G 38 (upI (G 38) nb k)) ⟨(mB_f hBG 38 nb (by omega) (by omega)), (mfr.upF hfG (by decide) _), by omega, by omega, mBr.add hbr rfl (by omega), by omega, (hft.trans (pt_ft_bar (by omega) (show F 36 k = 124 by omega) (by omega))), (pt_FI_bar hFI (by omega) (by omega) (show F 36 k = 124 by omega) (by omega) hft)⟩ (by omega) _ _ hP hD hS ls (lv_sub hl [0, 1, 3] rfl)
                · omega
            · skip
              refine lv_iload_n hx hb dX6_findFault_60 rfl (lv_at hl 1 rfl) ?_
              rw [← hQe]
              exact mk_ireti hx hb hr hlocks hP hD hK hS dX6_findFault_61 (⟨rfl, hBG, hfG, by omega, fun h => absurd h (by omega), (by rw [hft]; exact (pt_ft_many (by omega) (show F 36 k = 124 by omega) (by omega)).symm), fun h9 => absurd h9 (by omega)⟩)
        · skip
          refine lv_iload_n hx hb dX6_findFault_25 rfl (lv_at hl 1 rfl) ?_
          refine lv_iconst (v := iz 1) hx hb dX6_findFault_26 (by decide) ?_
          refine ki_iadd hx hb dX6_findFault_27 ?_
          refine lv_aload_n hx hb dX6_findFault_28 rfl (lv_at hl 3 rfl) ?_
          refine va_get (D := (dC, dI)) (ci := 6) (v := .int (iz (I 37))) (C := RX6) (T := TX6) (N := 44) hx hb hts kt_X6 hown hK hP 0 rfl rfl 37 (by decide) (kx_word hG kq_04_msmall_19 rfl) (fun _ h9 => h9) rfl dX6_findFault_29 ?_
          refine ki_icmp_eq (tgt := 60) hx hb dX6_findFault_32 (by decide) (by omega) (by omega) (by omega) (by omega) (fun c_12 => ?_) (fun c_12 => ?_)
          · skip
            refine lv_iload_n hx hb dX6_findFault_60 rfl (lv_at hl 1 rfl) ?_
            rw [← hQe]
            exact mk_ireti hx hb hr hlocks hP hD hK hS dX6_findFault_61 (⟨rfl, hBG, hfG, by omega, fun h => absurd h (by omega), (by rw [hft]; exact (pt_ft_bad (by omega) (show F 36 k = 37 by omega) (fun h9 => absurd h9.1 (by omega))).symm), fun h9 => absurd h9 (by omega)⟩)
          · skip
            have e37 := congrFun (hfG.2 36 (by decide)) (k + 1)
            refine lv_aload_n hx hb dX6_findFault_35 rfl (lv_at hl 3 rfl) ?_
            refine va_get (D := (dC, dI)) (ci := 6) (v := .ref (ma 36)) (C := RX6) (T := TX6) (N := 44) hx hb hts kt_X6 hown hK hP 0 rfl rfl 36 (by decide) (kx_word hG kq_04_msmall_20 rfl) (fun _ h9 => h9) rfl dX6_findFault_36 ?_
            refine lv_iload_n hx hb dX6_findFault_39 rfl (lv_at hl 1 rfl) ?_
            refine lv_iconst (v := iz 1) hx hb dX6_findFault_40 (by decide) ?_
            refine ki_iadd hx hb dX6_findFault_41 ?_
            refine ki_iald (F := G 36) hx hb hK hP 25 24 rfl rfl (by omega) (by omega) (by decide) dX6_findFault_42 ?_
            have hbd_13 := hBG.2 36 (k + 1)
            refine mk_calls (As := [.int (iz (G 36 (k + 1)))]) (rest := []) ⟨hx, hb, hml, hown, hts⟩ (k_isMark2 l dC dI (G 36 (k + 1)) H.size (by omega) (by omega)) (va_cwS 1 hts (kx_gS kq_09_mput_6 kq_09_mput_7 kq_04_msmall_6 kq_09_mput_8 rfl) rfl rfl rfl (by decide +kernel) ⟨Nat.le_of_ble_eq_true rfl, Nat.le_of_ble_eq_true rfl⟩) hP hD hK hG hZ hS hA rfl hl.1 rfl (Nat.le_of_ble_eq_true rfl) dX6_findFault_43 ⟨Nat.le_of_ble_eq_true rfl, Nat.le_of_ble_eq_true rfl⟩ (fun z_14 H locs hq_15 hP hS => ?_)
            try dsimp only at hq_15
            rcases hq_15 with ⟨rfl, hq_15⟩ | ⟨rfl, hq_15⟩
            · skip
              refine ki_if_eq (tgt := 60) hx hb dX6_findFault_46 (by decide) (by omega) (by omega) (fun c_16 => ?_) (fun c_16 => ?_)
              · omega
              · skip
                refine lv_iload_n hx hb dX6_findFault_49 rfl (lv_at hl 0 rfl) ?_
                refine lv_bipush (v := iz 124) hx hb dX6_findFault_50 (by decide) ?_
                refine ki_icmp_ne (tgt := 62) hx hb dX6_findFault_52 (by decide) (by omega) (by omega) (by omega) (by omega) (fun c_17 => ?_) (fun c_17 => ?_)
                · skip
                  refine lv_iload_n hx hb dX6_findFault_62 rfl (lv_at hl 0 rfl) ?_
                  refine lv_bipush (v := iz 124) hx hb dX6_findFault_63 (by decide) ?_
                  refine ki_icmp_ne (tgt := 78) hx hb dX6_findFault_65 (by decide) (by omega) (by omega) (by omega) (by omega) (fun c_18 => ?_) (fun c_18 => ?_)
                  · skip
                    refine lv_iload_n hx hb dX6_findFault_78 rfl (lv_at hl 0 rfl) ?_
                    refine lv_bipush (v := iz 37) hx hb dX6_findFault_79 (by decide) ?_
                    refine ki_icmp_ne (tgt := 90) hx hb dX6_findFault_81 (by decide) (by omega) (by omega) (by omega) (by omega) (fun c_19 => ?_) (fun c_19 => ?_)
                    · omega
                    · skip
                      refine lv_iload_n hx hb dX6_findFault_84 rfl (lv_at hl 1 rfl) ?_
                      refine lv_iconst (v := iz 2) hx hb dX6_findFault_85 (by decide) ?_
                      refine ki_iadd hx hb dX6_findFault_86 ?_
                      refine lv_goto (tgt := 93) hx hb dX6_findFault_87 (by decide) ?_
                      refine lv_istore_n (lv' := [(2, .int (iz (k + 2))), (3, .int (iz (G 36 k))), (1, .int (iz nb)), (0, .ref mo)]) hx hb dX6_findFault_93 rfl hl (by decide) rfl (fun ls hl => ?_)
                      refine lv_goto (tgt := 4) hx hb dX6_findFault_94 (by decide) ?_
                      exact ih4 nb (k + 2) G ⟨hBG, hfG, by omega, by omega, hbr, by omega, (hft.trans (pt_ft_mark (by omega) (show F 36 k = 37 by omega) (by omega) (by rw [← e37]; exact hq_15))), (pt_FI_go hFI (by omega) (pt_nb_mark (by omega) (show F 36 k = 37 by omega)))⟩ (by omega) _ _ hP hD hS ls (lv_sub hl [0, 2, 3] rfl)
                  · omega
                · omega
            · skip
              refine ki_if_eq (tgt := 60) hx hb dX6_findFault_46 (by decide) (by omega) (by omega) (fun c_20 => ?_) (fun c_20 => ?_)
              · skip
                refine lv_iload_n hx hb dX6_findFault_60 rfl (lv_at hl 1 rfl) ?_
                rw [← hQe]
                exact mk_ireti hx hb hr hlocks hP hD hK hS dX6_findFault_61 (⟨rfl, hBG, hfG, by omega, fun h => absurd h (by omega), (by rw [hft]; exact (pt_ft_bad (by omega) (show F 36 k = 37 by omega) (fun h9 => hq_15 (by rw [e37]; exact h9.2))).symm), fun h9 => absurd h9 (by omega)⟩)
              · omega
  exact lp4 _ 0 0 F ⟨hB, mfr.rf, by omega, by omega, fun j a b => absurd b (by omega), by omega, (by rw [Int.sub_zero]), pt_FI_0 _ _ _⟩ (Nat.lt_succ_self _) _ _ hP hD hS ls (lv_sub hl [0, 1, 2] rfl)
