/-! the reference, exact: a part of a print, print, at -/

set_option maxHeartbeats 4000000 in
set_option maxRecDepth 100000 in
theorem k_putPart2 (l : Launch) (dC : Nat → ClassId) (dI : Nat → Nat → Nat) (mo : Nat) (ma : Nat → Nat) (cs : Nat → ClassId) (I : Nat → Int) (F : Nat → Int → Int) (pt : Int) (p1 : Int) (sz : Nat) (hB : mB I F) (hc : 0 ≤ I 1 ∧ I 1 ≤ 64) (hn : ∀ e, 0 ≤ F 5 e ∧ F 5 e ≤ 20) (hln : ∀ e, 0 ≤ F 10 e ∧ 0 ≤ F 11 e ∧ F 11 e ≤ 99999 ∧ F 10 e + (if 0 < F 11 e then 1 else 0) ≤ 20) (hmy : ∀ e, 0 ≤ F 13 e ∧ F 13 e ≤ 5) (hmf : mFt F) (hlv : mLv I F) (hsm : mSm (I 1) F) (hse : mSe I F) (hsu : sumI (F 13) (I 1).toNat ≤ 64) (hst : 0 ≤ I 37 ∧ I 37 ≤ 64) (hbr : mBr 4 I F) (hps : mPS I F) (h0 : 0 ≤ p1 ∧ p1 < I 1) (hpt : 0 ≤ pt ∧ pt ≤ 3) (hRv : ∀ e, 0 ≤ e → e < I 1 → ∀ x, x ∈ lo_R F e → lo_v x) (hBr : pt_Br (F 36) (I 37) (F 38)) (hsgs : ∀ e, 0 ≤ e → e < I 1 → kf_mSg F e) (hdg : I 14 = 0 ∨ I 14 = 1) (hwd : I 15 = 0 ∨ I 15 = 1) : mMv l yX6_putPart (.code yX6_putPart cX6_putPart 6 none) 5 111 dC dI mo ma cs I F [.ref mo, .int (iz pt), .int (iz p1)] sz (fun (I' : Nat → Int) (F' : Nat → Int → Int) => mB I' F' ∧ mfr [29, 31, 32, 33, 35, 42, 43] [20, 21, 22, 23, 24, 25, 26, 27, 28, 34, 41] I F I' F' ∧ mPS I' F' ∧ pt_X (F 41) (I 42) (I 43) (pt_l (pt_PM I F pt p1)) (F' 41) (I' 42) (I' 43)) := by
  refine Met.ofW (cc := cX6_putPart) (maxL := 6) (ret := none) (by decide) rfl ?_
  intro p e s m args below meth c s₁ B hml hv
  obtain ⟨rfl, hsz, hP, hK, hD0, hG, hZ⟩ := hv
  have hx := B.exec
  have hb := B.bytes
  have hr := B.returns
  have hts := kx_hts (a := ([.ref mo, .int (iz pt), .int (iz p1)] : List Value).toArray) hG
  have hown : s.vm.findClass RX6 = some m.cls := findClass_of_methodNamed B.named
  have hlocks := B.notSynchronized
  subst hsz
  have hD := hD0.self (sz := s.heap.size)
  generalize hAe : va_A (mW mo ma cs I F) s.heap.size = A at hD hZ ⊢
  have hA : ∀ q : Nat, s.heap.size ≤ q → A q := fun q h => by rw [← hAe]; exact Or.inr h
  have hS : va_S A s.heap s.heap [] := va_S.rf
  have hl := lv_entry ([.ref mo, .int (iz pt), .int (iz p1)]) (n := 6) (Nat.le_of_ble_eq_true rfl)
  rw [lg_entry_eq]
  generalize (lg_sl ([.ref mo, .int (iz pt), .int (iz p1)]) ++ List.replicate (6 - (lg_sl ([.ref mo, .int (iz pt), .int (iz p1)])).length) Slot.unset).toArray = ls at hl ⊢
  have hl : lv_has ls 6 [(0, .ref mo), (1, .int (iz pt)), (2, .int (iz p1))] := hl
  generalize hQe : MQ below (mQv dC dI mo ma cs A (fun (I' : Nat → Int) (F' : Nat → Int → Int) => mB I' F' ∧ mfr [29, 31, 32, 33, 35, 42, 43] [20, 21, 22, 23, 24, 25, 26, 27, 28, 34, 41] I F I' F' ∧ mPS I' F' ∧ pt_X (F 41) (I 42) (I 43) (pt_l (pt_PM I F pt p1)) (F' 41) (I' 42) (I' 43))) ([.ref mo, .int (iz pt), .int (iz p1)] : List Value).toArray s 0 0 A = QQ
  have hX0 := pt_X_nil (F 41) (I 42) (I 43)
  have hb9 := hbr pt (by omega) (by omega)
  refine lv_iload_n hx hb dX6_putPart_0 rfl (lv_at hl 1 rfl) ?_
  refine ki_if_ne (tgt := 8) hx hb dX6_putPart_1 (by decide) (by omega) (by omega) (fun c_1 => ?_) (fun c_1 => ?_)
  · skip
    refine lv_aload_n hx hb dX6_putPart_8 rfl (lv_at hl 0 rfl) ?_
    refine va_get (D := (dC, dI)) (ci := 6) (v := .ref (ma 38)) (C := RX6) (T := TX6) (N := 44) hx hb hts kt_X6 hown hK hP 0 rfl rfl 38 (by decide) (kx_word hG kq_09_mput_5 rfl) (fun _ h9 => h9) rfl dX6_putPart_9 ?_
    have hb8 := hbr (pt - 1) (by omega) (by omega)
    refine lv_iload_n hx hb dX6_putPart_12 rfl (lv_at hl 1 rfl) ?_
    refine lv_iconst (v := iz 1) hx hb dX6_putPart_13 (by decide) ?_
    refine ki_isub hx hb dX6_putPart_14 ?_
    refine ki_iald (F := F 38) hx hb hK hP 26 25 rfl rfl (by omega) (by omega) (by decide) dX6_putPart_15 ?_
    have hbd_2 := hB.2 38 (pt - 1)
    refine lv_iconst (v := iz 1) hx hb dX6_putPart_16 (by decide) ?_
    refine ki_iadd hx hb dX6_putPart_17 ?_
    refine lv_istore_n (lv' := [(3, .int (iz ((F 38 (pt - 1)) + 1))), (0, .ref mo), (1, .int (iz pt)), (2, .int (iz p1))]) hx hb dX6_putPart_18 rfl hl (by decide) rfl (fun ls hl => ?_)
    have lp19 : ∀ (n : Nat) (k : Int) (J : Nat → Int) (G : Nat → Int → Int), ((mB J G) ∧ (mfr [29, 31, 32, 33, 35, 42, 43] [20, 21, 22, 23, 24, 25, 26, 27, 28, 34, 41] I F J G) ∧ (mPS J G) ∧ (0 ≤ k ∧ k ≤ I 37) ∧ (∃ Y9, pt_X (F 41) (I 42) (I 43) (pt_l Y9) (G 41) (J 42) (J 43) ∧ pt_PM I F pt p1 = Y9 ++ pt_pt (F 36) (I 37) (pt_mw (pt_wM F p1) (pt_pM (I 1) F p1) (pt_sM (I 1) F p1) (pt_of pt) (pt_gM I F p1)) pt (I 37 - k).toNat k pt) ∧ (pt_nb (F 36) (I 37) (I 37 - k).toNat k = F 38 pt) ∧ (pt_ft (F 36) (I 37) (I 37 - k).toNat k pt = -1)) → (F 38 pt - k).toNat < n → ∀ (H : Heap) (locs : List Loc), va_P (dC, dI) kxCl (mW mo ma cs J G) H → va_D A (mW mo ma cs J G) → va_S A s.heap H locs → ∀ ls : Array Slot, lv_has ls 6 [(3, .int (iz k)), (0, .ref mo), (1, .int (iz pt)), (2, .int (iz p1))] → W p l e (headSpec [.code yX6_putPart cX6_putPart 6 none] ({ frames := 5, cells := 0, slots := 0, locals := 111 })).room s m ([.ref mo, .int (iz pt), .int (iz p1)] : List Value).toArray below meth c H locs 0 0 QQ (F0 m 19 ls []) := by
      intro n
      induction n with
      | zero => intro k J G hinv hm; exact absurd hm (Nat.not_lt_zero _)
      | succ n ih19 =>
        intro k J G hinv hm H locs hP hD hS ls hl
        obtain ⟨hBJ, hfJ, hpJ, hk, hXJ, hnb, hft9⟩ := hinv
        obtain ⟨Y9, hX9, hY9⟩ := hXJ
        have e38 := congrFun (hfJ.2 38 (by decide)) pt
        have hge := pt_nb_ge (f := F 36) (n := I 37) (I 37 - k).toNat k
        refine lv_iload_n hx hb dX6_putPart_19 rfl (lv_at hl 0 rfl) ?_
        refine lv_aload_n hx hb dX6_putPart_20 rfl (lv_at hl 1 rfl) ?_
        refine va_get (D := (dC, dI)) (ci := 6) (v := .ref (ma 38)) (C := RX6) (T := TX6) (N := 44) hx hb hts kt_X6 hown hK hP 0 rfl rfl 38 (by decide) (kx_word hG kq_09_mput_5 rfl) (fun _ h9 => h9) rfl dX6_putPart_21 ?_
        refine lv_iload_n hx hb dX6_putPart_24 rfl (lv_at hl 2 rfl) ?_
        refine ki_iald (F := G 38) hx hb hK hP 26 25 rfl rfl (by omega) (by omega) (by decide) dX6_putPart_25 ?_
        have hbd_3 := hBJ.2 38 pt
        refine ki_icmp_ge (tgt := 206) hx hb dX6_putPart_26 (by decide) (by omega) (by omega) (by omega) (by omega) (fun c_4 => ?_) (fun c_4 => ?_)
        · skip
          rw [← hQe]
          exact mk_ret hx hb hr hlocks hP hD hK hS dX6_putPart_206 (⟨hBJ, hfJ, hpJ, pt_X_eq hX9 (by rw [hY9, pt_pt_at (by rw [hnb]; omega), List.append_nil])⟩)
        · skip
          have e36 := congrFun (hfJ.2 36 (by decide)) k
          have hkn : k < I 37 := by omega
          have h124 : ¬ F 36 k = 124 := fun h9 => by have h8 := pt_nb_bar (f := F 36) (n := I 37) hkn h9; omega
          refine lv_aload_n hx hb dX6_putPart_29 rfl (lv_at hl 1 rfl) ?_
          refine va_get (D := (dC, dI)) (ci := 6) (v := .ref (ma 36)) (C := RX6) (T := TX6) (N := 44) hx hb hts kt_X6 hown hK hP 0 rfl rfl 36 (by decide) (kx_word hG kq_04_msmall_20 rfl) (fun _ h9 => h9) rfl dX6_putPart_30 ?_
          refine lv_iload_n hx hb dX6_putPart_33 rfl (lv_at hl 0 rfl) ?_
          refine ki_iald (F := G 36) hx hb hK hP 25 24 rfl rfl (by omega) (by omega) (by decide) dX6_putPart_34 ?_
          have hbd_5 := hBJ.2 36 k
          refine lv_istore (lv' := [(4, .int (iz (G 36 k))), (3, .int (iz k)), (0, .ref mo), (1, .int (iz pt)), (2, .int (iz p1))]) hx hb dX6_putPart_35 hl (by decide) rfl (fun ls hl => ?_)
          refine lv_iload hx hb dX6_putPart_37 (lv_at hl 0 rfl) ?_
          refine lv_bipush (v := iz 37) hx hb dX6_putPart_39 (by decide) ?_
          refine ki_icmp_eq (tgt := 56) hx hb dX6_putPart_41 (by decide) (by omega) (by omega) (by omega) (by omega) (fun c_6 => ?_) (fun c_6 => ?_)
          · skip
            have e37 := congrFun (hfJ.2 36 (by decide)) (k + 1)
            have h37 : F 36 k = 37 := by omega
            obtain ⟨⟨hk1, hmk⟩, hft2⟩ := pt_ft_ok (by omega) hkn h37 hft9
            have hnb2 := pt_nb_mark (f := F 36) (n := I 37) hkn h37
            have hge2 := pt_nb_ge (f := F 36) (n := I 37) (I 37 - (k + 2)).toNat (k + 2)
            have hmw : pt_gt (F 36) (I 37) (k + 1) = F 36 (k + 1) := if_pos hk1
            replace hmk := fun (_ : Unit) => hmk
            refine lv_aload_n hx hb dX6_putPart_56 rfl (lv_at hl 2 rfl) ?_
            refine va_get (D := (dC, dI)) (ci := 6) (v := .ref (ma 36)) (C := RX6) (T := TX6) (N := 44) hx hb hts kt_X6 hown hK hP 0 rfl rfl 36 (by decide) (kx_word hG kq_04_msmall_20 rfl) (fun _ h9 => h9) rfl dX6_putPart_57 ?_
            refine lv_iload_n hx hb dX6_putPart_60 rfl (lv_at hl 1 rfl) ?_
            refine lv_iconst (v := iz 1) hx hb dX6_putPart_61 (by decide) ?_
            refine ki_iadd hx hb dX6_putPart_62 ?_
            refine ki_iald (F := G 36) hx hb hK hP 25 24 rfl rfl (by omega) (by omega) (by decide) dX6_putPart_63 ?_
            have hbd_7 := hBJ.2 36 (k + 1)
            refine lv_istore (lv' := [(4, .int (iz (G 36 (k + 1)))), (3, .int (iz k)), (0, .ref mo), (1, .int (iz pt)), (2, .int (iz p1))]) hx hb dX6_putPart_64 hl (by decide) rfl (fun ls hl => ?_)
            refine lv_iload_n hx hb dX6_putPart_66 rfl (lv_at hl 1 rfl) ?_
            refine lv_iconst (v := iz 2) hx hb dX6_putPart_67 (by decide) ?_
            refine ki_iadd hx hb dX6_putPart_68 ?_
            refine lv_istore_n (lv' := [(3, .int (iz (k + 2))), (4, .int (iz (G 36 (k + 1)))), (0, .ref mo), (1, .int (iz pt)), (2, .int (iz p1))]) hx hb dX6_putPart_69 rfl hl (by decide) rfl (fun ls hl => ?_)
            refine lv_iload hx hb dX6_putPart_70 (lv_at hl 1 rfl) ?_
            refine lv_bipush (v := iz 103) hx hb dX6_putPart_72 (by decide) ?_
            refine ki_icmp_ne (tgt := 85) hx hb dX6_putPart_74 (by decide) (by omega) (by omega) (by omega) (by omega) (fun c_8 => ?_) (fun c_8 => ?_)
            · skip
              refine lv_iconst (v := iz 0) hx hb dX6_putPart_85 (by decide) ?_
              refine lv_istore (lv' := [(5, .int (iz 0)), (3, .int (iz (k + 2))), (4, .int (iz (G 36 (k + 1)))), (0, .ref mo), (1, .int (iz pt)), (2, .int (iz p1))]) hx hb dX6_putPart_86 hl (by decide) rfl (fun ls hl => ?_)
              refine lv_iload hx hb dX6_putPart_88 (lv_at hl 2 rfl) ?_
              refine lv_bipush (v := iz 110) hx hb dX6_putPart_90 (by decide) ?_
              refine ki_icmp_eq (tgt := 109) hx hb dX6_putPart_92 (by decide) (by omega) (by omega) (by omega) (by omega) (fun c_9 => ?_) (fun c_9 => ?_)
              · skip
                refine lv_aload_n hx hb dX6_putPart_109 rfl (lv_at hl 3 rfl) ?_
                refine lv_iload hx hb dX6_putPart_110 (lv_at hl 2 rfl) ?_
                refine lv_bipush (v := iz 110) hx hb dX6_putPart_112 (by decide) ?_
                refine ki_icmp_ne (tgt := 122) hx hb dX6_putPart_114 (by decide) (by omega) (by omega) (by omega) (by omega) (fun c_10 => ?_) (fun c_10 => ?_)
                · omega
                · skip
                  refine lv_bipush (v := iz 10) hx hb dX6_putPart_117 (by decide) ?_
                  refine lv_goto (tgt := 150) hx hb dX6_putPart_119 (by decide) ?_
                  have hac_11 : mfr [29, 31, 32, 33, 35, 42, 43] [20, 21, 22, 23, 24, 25, 26, 27, 28, 34, 41] I F J G := hfJ
                  refine mk_callv (As := [.int (iz 10)]) (rest := []) ⟨hx, hb, hml, hown, hts⟩ (k_put2 l dC dI mo ma cs J G 10 H.size hBJ hpJ.1) (cwV 1 hts (kx_gV kq_09_mput_12 kq_09_mput_13 kq_09_mput_14 kq_04_msmall_6 kq_09_mput_15 rfl) rfl rfl rfl (by decide +kernel) ⟨Nat.le_of_ble_eq_true rfl, Nat.le_of_ble_eq_true rfl⟩) hP hD hK hG hZ hS hA rfl hl.1 rfl (Nat.le_of_ble_eq_true rfl) dX6_putPart_150 ⟨Nat.le_of_ble_eq_true rfl, Nat.le_of_ble_eq_true rfl⟩ (fun I_14 F_15 H locs hq_13 hP hD hS => ?_)
                  try dsimp only at hq_13
                  have hX16 := hq_13.2.2.2
                  have hq_13 := (⟨hq_13.1, hq_13.2.1, hq_13.2.2.1⟩ : _ ∧ _ ∧ _)
                  obtain ⟨hB17, hf17, hd17⟩ := hq_13
                  have hp17 := mPS.put hpJ hf17 hd17
                  have hY16 := pt_X_app hX9 hX16
                  refine lv_goto (tgt := 203) hx hb dX6_putPart_153 (by decide) ?_
                  refine lv_goto (tgt := 19) hx hb dX6_putPart_203 (by decide) ?_
                  exact ih19 (k + 2) I_14 F_15 ⟨hB17, (hfJ.tr (hf17.mono (by decide) (by decide))), hp17, by omega, ⟨Y9 ++ (pt_mw (pt_wM F p1) (pt_pM (I 1) F p1) (pt_sM (I 1) F p1) (pt_of pt) (pt_gM I F p1)) (F 36 (k + 1)), pt_X_eq hY16 (by rw [pt_l_app, pt_mw_110 (show F 36 (k + 1) = 110 by omega)]; try rfl), (by rw [hY9, pt_pt_mark hkn h37, if_pos rfl, hmw, List.append_assoc])⟩, (hnb2.symm.trans hnb), hft2⟩ (by omega) _ _ hP hD hS ls (lv_sub hl [1, 3, 4, 5] rfl)
              · skip
                refine lv_iload hx hb dX6_putPart_95 (lv_at hl 2 rfl) ?_
                refine lv_bipush (v := iz 37) hx hb dX6_putPart_97 (by decide) ?_
                refine ki_icmp_eq (tgt := 109) hx hb dX6_putPart_99 (by decide) (by omega) (by omega) (by omega) (by omega) (fun c_18 => ?_) (fun c_18 => ?_)
                · skip
                  refine lv_aload_n hx hb dX6_putPart_109 rfl (lv_at hl 3 rfl) ?_
                  refine lv_iload hx hb dX6_putPart_110 (lv_at hl 2 rfl) ?_
                  refine lv_bipush (v := iz 110) hx hb dX6_putPart_112 (by decide) ?_
                  refine ki_icmp_ne (tgt := 122) hx hb dX6_putPart_114 (by decide) (by omega) (by omega) (by omega) (by omega) (fun c_19 => ?_) (fun c_19 => ?_)
                  · skip
                    refine lv_iload hx hb dX6_putPart_122 (lv_at hl 2 rfl) ?_
                    refine lv_bipush (v := iz 37) hx hb dX6_putPart_124 (by decide) ?_
                    refine ki_icmp_ne (tgt := 134) hx hb dX6_putPart_126 (by decide) (by omega) (by omega) (by omega) (by omega) (fun c_20 => ?_) (fun c_20 => ?_)
                    · omega
                    · skip
                      refine lv_bipush (v := iz 37) hx hb dX6_putPart_129 (by decide) ?_
                      refine lv_goto (tgt := 150) hx hb dX6_putPart_131 (by decide) ?_
                      have hac_21 : mfr [29, 31, 32, 33, 35, 42, 43] [20, 21, 22, 23, 24, 25, 26, 27, 28, 34, 41] I F J G := hfJ
                      refine mk_callv (As := [.int (iz 37)]) (rest := []) ⟨hx, hb, hml, hown, hts⟩ (k_put2 l dC dI mo ma cs J G 37 H.size hBJ hpJ.1) (cwV 1 hts (kx_gV kq_09_mput_12 kq_09_mput_13 kq_09_mput_14 kq_04_msmall_6 kq_09_mput_15 rfl) rfl rfl rfl (by decide +kernel) ⟨Nat.le_of_ble_eq_true rfl, Nat.le_of_ble_eq_true rfl⟩) hP hD hK hG hZ hS hA rfl hl.1 rfl (Nat.le_of_ble_eq_true rfl) dX6_putPart_150 ⟨Nat.le_of_ble_eq_true rfl, Nat.le_of_ble_eq_true rfl⟩ (fun I_24 F_25 H locs hq_23 hP hD hS => ?_)
                      try dsimp only at hq_23
                      have hX26 := hq_23.2.2.2
                      have hq_23 := (⟨hq_23.1, hq_23.2.1, hq_23.2.2.1⟩ : _ ∧ _ ∧ _)
                      obtain ⟨hB27, hf27, hd27⟩ := hq_23
                      have hp27 := mPS.put hpJ hf27 hd27
                      have hY26 := pt_X_app hX9 hX26
                      refine lv_goto (tgt := 203) hx hb dX6_putPart_153 (by decide) ?_
                      refine lv_goto (tgt := 19) hx hb dX6_putPart_203 (by decide) ?_
                      exact ih19 (k + 2) I_24 F_25 ⟨hB27, (hfJ.tr (hf27.mono (by decide) (by decide))), hp27, by omega, ⟨Y9 ++ (pt_mw (pt_wM F p1) (pt_pM (I 1) F p1) (pt_sM (I 1) F p1) (pt_of pt) (pt_gM I F p1)) (F 36 (k + 1)), pt_X_eq hY26 (by rw [pt_l_app, pt_mw_37 (show F 36 (k + 1) = 37 by omega)]; try rfl), (by rw [hY9, pt_pt_mark hkn h37, if_pos rfl, hmw, List.append_assoc])⟩, (hnb2.symm.trans hnb), hft2⟩ (by omega) _ _ hP hD hS ls (lv_sub hl [1, 3, 4, 5] rfl)
                  · omega
                · skip
                  refine lv_iload hx hb dX6_putPart_102 (lv_at hl 2 rfl) ?_
                  refine lv_bipush (v := iz 103) hx hb dX6_putPart_104 (by decide) ?_
                  refine ki_icmp_ne (tgt := 156) hx hb dX6_putPart_106 (by decide) (by omega) (by omega) (by omega) (by omega) (fun c_28 => ?_) (fun c_28 => ?_)
                  · skip
                    refine lv_iload_n hx hb dX6_putPart_156 rfl (lv_at hl 4 rfl) ?_
                    refine ki_if_le (tgt := 175) hx hb dX6_putPart_157 (by decide) (by omega) (by omega) (fun c_29 => ?_) (fun c_29 => ?_)
                    · skip
                      refine lv_iload_n hx hb dX6_putPart_175 rfl (lv_at hl 4 rfl) ?_
                      refine ki_if_le (tgt := 194) hx hb dX6_putPart_176 (by decide) (by omega) (by omega) (fun c_30 => ?_) (fun c_30 => ?_)
                      · skip
                        refine lv_iload_n hx hb dX6_putPart_194 rfl (lv_at hl 4 rfl) ?_
                        refine ki_if_le (tgt := 203) hx hb dX6_putPart_195 (by decide) (by omega) (by omega) (fun c_31 => ?_) (fun c_31 => ?_)
                        · skip
                          refine lv_goto (tgt := 19) hx hb dX6_putPart_203 (by decide) ?_
                          exact ih19 (k + 2) J G ⟨hBJ, hfJ, hpJ, by omega, ⟨Y9 ++ (pt_mw (pt_wM F p1) (pt_pM (I 1) F p1) (pt_sM (I 1) F p1) (pt_of pt) (pt_gM I F p1)) (F 36 (k + 1)), pt_X_eq hX9 (by rw [pt_l_app, pt_mw_0 (show ¬ F 36 (k + 1) = 37 by omega) (show ¬ F 36 (k + 1) = 110 by omega) (show ¬ F 36 (k + 1) = 103 by omega) (Or.inl (show pt_of pt = 0 from if_neg (by omega)))]; exact List.append_nil _), (by rw [hY9, pt_pt_mark hkn h37, if_pos rfl, hmw, List.append_assoc])⟩, (hnb2.symm.trans hnb), hft2⟩ (by omega) _ _ hP hD hS ls (lv_sub hl [1, 3, 4, 5] rfl)
                        · omega
                      · omega
                    · skip
                      refine lv_iload hx hb dX6_putPart_160 (lv_at hl 2 rfl) ?_
                      refine lv_bipush (v := iz 119) hx hb dX6_putPart_162 (by decide) ?_
                      refine ki_icmp_ne (tgt := 175) hx hb dX6_putPart_164 (by decide) (by omega) (by omega) (by omega) (by omega) (fun c_32 => ?_) (fun c_32 => ?_)
                      · skip
                        refine lv_iload_n hx hb dX6_putPart_175 rfl (lv_at hl 4 rfl) ?_
                        refine ki_if_le (tgt := 194) hx hb dX6_putPart_176 (by decide) (by omega) (by omega) (fun c_33 => ?_) (fun c_33 => ?_)
                        · omega
                        · skip
                          refine lv_iload hx hb dX6_putPart_179 (lv_at hl 2 rfl) ?_
                          refine lv_bipush (v := iz 112) hx hb dX6_putPart_181 (by decide) ?_
                          refine ki_icmp_ne (tgt := 194) hx hb dX6_putPart_183 (by decide) (by omega) (by omega) (by omega) (by omega) (fun c_34 => ?_) (fun c_34 => ?_)
                          · skip
                            refine lv_iload_n hx hb dX6_putPart_194 rfl (lv_at hl 4 rfl) ?_
                            refine ki_if_le (tgt := 203) hx hb dX6_putPart_195 (by decide) (by omega) (by omega) (fun c_35 => ?_) (fun c_35 => ?_)
                            · omega
                            · skip
                              refine lv_aload_n hx hb dX6_putPart_198 rfl (lv_at hl 3 rfl) ?_
                              refine lv_iload_n hx hb dX6_putPart_199 rfl (lv_at hl 5 rfl) ?_
                              have hac_36 : mfr [29, 31, 32, 33, 35, 42, 43] [20, 21, 22, 23, 24, 25, 26, 27, 28, 34, 41] I F J G := hfJ
                              refine mk_callv (As := [.int (iz p1)]) (rest := []) ⟨hx, hb, hml, hown, hts⟩ (k_putShown2 l dC dI mo ma cs J G p1 H.size hBJ (by rw [(hac_36.1 1 (by decide))]; exact hc) (fun e => by rw [(hac_36.2 5 (by decide))]; exact hn e) (fun e => by rw [(hac_36.2 13 (by decide))]; exact hmy e) (by rw [(hac_36.1 1 (by decide))]; exact mSm.fr hsm (hac_36.2 17 (by decide)) (hac_36.2 2 (by decide))) (fun e k x1 x2 x3 x4 => by rw [(hac_36.1 1 (by decide))] at x2 ⊢; rw [(hac_36.2 13 (by decide))] at x4; rw [(hac_36.2 12 (by decide))]; exact hse e k x1 x2 x3 x4) (by rw [(hac_36.1 1 (by decide)), (hac_36.2 13 (by decide))]; exact hsu) hpJ.1 (by omega) (by omega)) (cwV 1 hts (kx_gV kq_10_mprint_20 kq_10_mprint_21 kq_10_mprint_22 kq_04_msmall_6 kq_10_mprint_23 rfl) rfl rfl rfl (by decide +kernel) ⟨Nat.le_of_ble_eq_true rfl, Nat.le_of_ble_eq_true rfl⟩) hP hD hK hG hZ hS hA rfl hl.1 rfl (Nat.le_of_ble_eq_true rfl) dX6_putPart_200 ⟨Nat.le_of_ble_eq_true rfl, Nat.le_of_ble_eq_true rfl⟩ (fun I_39 F_40 H locs hq_38 hP hD hS => ?_)
                              try dsimp only at hq_38
                              have hX41 := hq_38.2.2.2
                              rw [pt_sM_fr (hac_36.1 1 (by decide)) (hac_36.2 4 (by decide)) (hac_36.2 5 (by decide)) (hac_36.2 17 (by decide)) (hac_36.2 13 (by decide)) (hac_36.2 12 (by decide))] at hX41
                              have hq_38 := (⟨hq_38.1, hq_38.2.1, hq_38.2.2.1⟩ : _ ∧ _ ∧ _)
                              obtain ⟨hB42, hf42, hd42⟩ := hq_38
                              have hp42 := mPS.shw hpJ hf42 hd42
                              have hY41 := pt_X_app hX9 hX41
                              refine lv_goto (tgt := 19) hx hb dX6_putPart_203 (by decide) ?_
                              exact ih19 (k + 2) I_39 F_40 ⟨hB42, (hfJ.tr (hf42.mono (by decide) (by decide))), hp42, by omega, ⟨Y9 ++ (pt_mw (pt_wM F p1) (pt_pM (I 1) F p1) (pt_sM (I 1) F p1) (pt_of pt) (pt_gM I F p1)) (F 36 (k + 1)), pt_X_eq hY41 (by rw [pt_l_app, pt_mw_115 (show F 36 (k + 1) = 115 from (by have h9 := hmk (); omega)) (show ¬ pt_of pt = 0 from (by rw [show pt_of pt = 1 from if_pos (by omega)]; decide))]; try rfl), (by rw [hY9, pt_pt_mark hkn h37, if_pos rfl, hmw, List.append_assoc])⟩, (hnb2.symm.trans hnb), hft2⟩ (by omega) _ _ hP hD hS ls (lv_sub hl [1, 3, 4, 5] rfl)
                          · skip
                            refine lv_aload_n hx hb dX6_putPart_186 rfl (lv_at hl 3 rfl) ?_
                            refine lv_iload_n hx hb dX6_putPart_187 rfl (lv_at hl 5 rfl) ?_
                            have hac_43 : mfr [29, 31, 32, 33, 35, 42, 43] [20, 21, 22, 23, 24, 25, 26, 27, 28, 34, 41] I F J G := hfJ
                            refine mk_callv (As := [.int (iz p1)]) (rest := []) ⟨hx, hb, hml, hown, hts⟩ (k_putAll2 l dC dI mo ma cs J G p1 H.size hBJ (by rw [(hac_43.1 1 (by decide))]; exact hc) (fun e => by rw [(hac_43.2 10 (by decide)), (hac_43.2 11 (by decide))]; exact hln e) (fun j => by rw [(hac_43.2 7 (by decide)), (hac_43.2 8 (by decide))]; exact hmf j) hpJ (by omega) (by omega) (by intro e a b x hx; rw [lo_R_fr (hac_43.2 6 (by decide)) (hac_43.2 7 (by decide)) (hac_43.2 8 (by decide)) (hac_43.2 9 (by decide)) (hac_43.2 10 (by decide)) (hac_43.2 11 (by decide))] at hx; exact hRv e a (by have h9 := hac_43.1 1 (by decide); have h8 : e < J 1 := b; omega) x hx)) (cwV 1 hts (kx_gV kq_10_mprint_24 kq_10_mprint_25 kq_10_mprint_26 kq_04_msmall_6 kq_10_mprint_27 rfl) rfl rfl rfl (by decide +kernel) ⟨Nat.le_of_ble_eq_true rfl, Nat.le_of_ble_eq_true rfl⟩) hP hD hK hG hZ hS hA rfl hl.1 rfl (Nat.le_of_ble_eq_true rfl) dX6_putPart_188 ⟨Nat.le_of_ble_eq_true rfl, Nat.le_of_ble_eq_true rfl⟩ (fun I_46 F_47 H locs hq_45 hP hD hS => ?_)
                            try dsimp only at hq_45
                            have hX48 := hq_45.2.2.2
                            rw [pt_pM_fr (hac_43.1 1 (by decide)) (hac_43.2 17 (by decide)) (hac_43.2 6 (by decide)) (hac_43.2 7 (by decide)) (hac_43.2 8 (by decide)) (hac_43.2 9 (by decide)) (hac_43.2 10 (by decide)) (hac_43.2 11 (by decide))] at hX48
                            have hq_45 := (⟨hq_45.1, hq_45.2.1, hq_45.2.2.1⟩ : _ ∧ _ ∧ _)
                            obtain ⟨hB49, hf49, hp49⟩ := hq_45
                            have hY48 := pt_X_app hX9 hX48
                            refine lv_goto (tgt := 203) hx hb dX6_putPart_191 (by decide) ?_
                            refine lv_goto (tgt := 19) hx hb dX6_putPart_203 (by decide) ?_
                            exact ih19 (k + 2) I_46 F_47 ⟨hB49, (hfJ.tr (hf49.mono (by decide) (by decide))), hp49, by omega, ⟨Y9 ++ (pt_mw (pt_wM F p1) (pt_pM (I 1) F p1) (pt_sM (I 1) F p1) (pt_of pt) (pt_gM I F p1)) (F 36 (k + 1)), pt_X_eq hY48 (by rw [pt_l_app, pt_mw_112 (show F 36 (k + 1) = 112 by omega) (show ¬ pt_of pt = 0 from (by rw [show pt_of pt = 1 from if_pos (by omega)]; decide))]; try rfl), (by rw [hY9, pt_pt_mark hkn h37, if_pos rfl, hmw, List.append_assoc])⟩, (hnb2.symm.trans hnb), hft2⟩ (by omega) _ _ hP hD hS ls (lv_sub hl [1, 3, 4, 5] rfl)
                      · skip
                        refine lv_aload_n hx hb dX6_putPart_167 rfl (lv_at hl 3 rfl) ?_
                        refine lv_iload_n hx hb dX6_putPart_168 rfl (lv_at hl 5 rfl) ?_
                        have hac_50 : mfr [29, 31, 32, 33, 35, 42, 43] [20, 21, 22, 23, 24, 25, 26, 27, 28, 34, 41] I F J G := hfJ
                        refine mk_callv (As := [.int (iz p1)]) (rest := []) ⟨hx, hb, hml, hown, hts⟩ (k_putSigns2 l dC dI mo ma cs J G p1 H.size hBJ hpJ.1 (fun e => by rw [(hac_50.2 5 (by decide))]; exact hn e) (by omega)) (cwV 1 hts (kx_gV kq_10_mprint_16 kq_10_mprint_17 kq_10_mprint_18 kq_04_msmall_6 kq_10_mprint_19 rfl) rfl rfl rfl (by decide +kernel) ⟨Nat.le_of_ble_eq_true rfl, Nat.le_of_ble_eq_true rfl⟩) hP hD hK hG hZ hS hA rfl hl.1 rfl (Nat.le_of_ble_eq_true rfl) dX6_putPart_169 ⟨Nat.le_of_ble_eq_true rfl, Nat.le_of_ble_eq_true rfl⟩ (fun I_53 F_54 H locs hq_52 hP hD hS => ?_)
                        try dsimp only at hq_52
                        have hX55 := hq_52.2.2.2
                        rw [pt_wM_fr (hac_50.2 4 (by decide)) (hac_50.2 5 (by decide))] at hX55
                        have hq_52 := (⟨hq_52.1, hq_52.2.1, hq_52.2.2.1⟩ : _ ∧ _ ∧ _)
                        obtain ⟨hB56, hf56, hd56⟩ := hq_52
                        have hp56 := mPS.put hpJ hf56 hd56
                        have hY55 := pt_X_app hX9 hX55
                        refine lv_goto (tgt := 203) hx hb dX6_putPart_172 (by decide) ?_
                        refine lv_goto (tgt := 19) hx hb dX6_putPart_203 (by decide) ?_
                        exact ih19 (k + 2) I_53 F_54 ⟨hB56, (hfJ.tr (hf56.mono (by decide) (by decide))), hp56, by omega, ⟨Y9 ++ (pt_mw (pt_wM F p1) (pt_pM (I 1) F p1) (pt_sM (I 1) F p1) (pt_of pt) (pt_gM I F p1)) (F 36 (k + 1)), pt_X_eq hY55 (by rw [pt_l_app, pt_mw_119 (show F 36 (k + 1) = 119 by omega) (show ¬ pt_of pt = 0 from (by rw [show pt_of pt = 1 from if_pos (by omega)]; decide))]; try rfl), (by rw [hY9, pt_pt_mark hkn h37, if_pos rfl, hmw, List.append_assoc])⟩, (hnb2.symm.trans hnb), hft2⟩ (by omega) _ _ hP hD hS ls (lv_sub hl [1, 3, 4, 5] rfl)
                  · omega
            · skip
              refine lv_aload_n hx hb dX6_putPart_77 rfl (lv_at hl 2 rfl) ?_
              refine lv_iload_n hx hb dX6_putPart_78 rfl (lv_at hl 4 rfl) ?_
              have hac_57 : mfr [29, 31, 32, 33, 35, 42, 43] [20, 21, 22, 23, 24, 25, 26, 27, 28, 34, 41] I F J G := hfJ
              refine mk_calli (As := [.int (iz p1)]) (rest := []) ⟨hx, hb, hml, hown, hts⟩ (k_groupOf2 l dC dI mo ma cs J G p1 H.size hBJ (by rw [(hac_57.1 1 (by decide))]; exact hc) (fun e => by rw [(hac_57.2 5 (by decide))]; exact hn e) (hlv.fr (hac_57.1 1 (by decide)) (hac_57.2 2 (by decide)) (hac_57.2 3 (by decide))) (by rw [(hac_57.1 1 (by decide))]; exact mSm.fr hsm (hac_57.2 17 (by decide)) (hac_57.2 2 (by decide))) (by rw [hac_57.1 1 (by decide)]; exact h0) (by intro e a b; have h9 := hsgs e a (by have h9 := hac_57.1 1 (by decide); have h8 : e < J 1 := b; omega); intro i c d; rw [hac_57.2 5 (by decide)] at d; rw [hac_57.2 4 (by decide)]; exact h9 i c d) (by rw [hac_57.1 14 (by decide)]; exact hdg) (by rw [hac_57.1 15 (by decide)]; exact hwd)) (cwV 1 hts (kx_gV kq_10_mprint_28 kq_10_mprint_29 kq_10_mprint_30 kq_04_msmall_6 kq_10_mprint_31 rfl) rfl rfl rfl (by decide +kernel) ⟨Nat.le_of_ble_eq_true rfl, Nat.le_of_ble_eq_true rfl⟩) hP hD hK hG hZ hS hA rfl hl.1 rfl (Nat.le_of_ble_eq_true rfl) dX6_putPart_79 ⟨Nat.le_of_ble_eq_true rfl, Nat.le_of_ble_eq_true rfl⟩ (fun z_58 I_60 F_61 H locs hq_59 hP hD hS => ?_)
              try dsimp only at hq_59
              have hgr := hq_59.2.2.2.2
              have hfs := hq_59.2.2.1
              have hq_59 := (⟨hq_59.1, hq_59.2.1, hq_59.2.2.1, hq_59.2.2.2.1⟩ : _ ∧ _ ∧ _ ∧ _)
              obtain ⟨rfl, hB62, hf62, hr62⟩ := hq_59
              have hp62 := mPS.scr hpJ hf62
              have hgM : z_58 = pt_gM I F p1 := (show z_58 = pt_gM J G p1 from hgr).trans (pt_gM_fr (hac_57.1 14 (by decide)) (hac_57.1 15 (by decide)) (hac_57.2 2 (by decide)) (hac_57.2 3 (by decide)) (hac_57.2 17 (by decide)) (hac_57.2 4 (by decide)) (hac_57.2 5 (by decide)))
              have hgrg : z_58 = 0 ∨ z_58 = 1 ∨ 97 ≤ z_58 := by rw [hgM]; exact sn_g_rg _
              replace hgr := fun (_ : Unit) => hgr
              have hXs : pt_X (F 41) (I 42) (I 43) (pt_l Y9) (F_61 41) (J 42) (J 43) := (by rw [hfs.2 41 (by decide)]; exact hX9)
              refine lv_goto (tgt := 86) hx hb dX6_putPart_82 (by decide) ?_
              refine lv_istore (lv' := [(5, .int (iz z_58)), (3, .int (iz (k + 2))), (4, .int (iz (G 36 (k + 1)))), (0, .ref mo), (1, .int (iz pt)), (2, .int (iz p1))]) hx hb dX6_putPart_86 hl (by decide) rfl (fun ls hl => ?_)
              refine lv_iload hx hb dX6_putPart_88 (lv_at hl 2 rfl) ?_
              refine lv_bipush (v := iz 110) hx hb dX6_putPart_90 (by decide) ?_
              refine ki_icmp_eq (tgt := 109) hx hb dX6_putPart_92 (by decide) (by omega) (by omega) (by omega) (by omega) (fun c_63 => ?_) (fun c_63 => ?_)
              · skip
                refine lv_aload_n hx hb dX6_putPart_109 rfl (lv_at hl 3 rfl) ?_
                refine lv_iload hx hb dX6_putPart_110 (lv_at hl 2 rfl) ?_
                refine lv_bipush (v := iz 110) hx hb dX6_putPart_112 (by decide) ?_
                refine ki_icmp_ne (tgt := 122) hx hb dX6_putPart_114 (by decide) (by omega) (by omega) (by omega) (by omega) (fun c_64 => ?_) (fun c_64 => ?_)
                · omega
                · skip
                  refine lv_bipush (v := iz 10) hx hb dX6_putPart_117 (by decide) ?_
                  refine lv_goto (tgt := 150) hx hb dX6_putPart_119 (by decide) ?_
                  have hac_65 : mfr [29, 31, 32, 33, 35, 42, 43] [20, 21, 22, 23, 24, 25, 26, 27, 28, 34, 41] I F J F_61 := (hfJ.tr (hf62.mono (by decide) (by decide)))
                  refine mk_callv (As := [.int (iz 10)]) (rest := []) ⟨hx, hb, hml, hown, hts⟩ (k_put2 l dC dI mo ma cs J F_61 10 H.size hB62 hp62.1) (cwV 1 hts (kx_gV kq_09_mput_12 kq_09_mput_13 kq_09_mput_14 kq_04_msmall_6 kq_09_mput_15 rfl) rfl rfl rfl (by decide +kernel) ⟨Nat.le_of_ble_eq_true rfl, Nat.le_of_ble_eq_true rfl⟩) hP hD hK hG hZ hS hA rfl hl.1 rfl (Nat.le_of_ble_eq_true rfl) dX6_putPart_150 ⟨Nat.le_of_ble_eq_true rfl, Nat.le_of_ble_eq_true rfl⟩ (fun I_68 F_69 H locs hq_67 hP hD hS => ?_)
                  try dsimp only at hq_67
                  have hX70 := hq_67.2.2.2
                  have hq_67 := (⟨hq_67.1, hq_67.2.1, hq_67.2.2.1⟩ : _ ∧ _ ∧ _)
                  obtain ⟨hB71, hf71, hd71⟩ := hq_67
                  have hp71 := mPS.put hp62 hf71 hd71
                  have hY70 := pt_X_app hXs hX70
                  refine lv_goto (tgt := 203) hx hb dX6_putPart_153 (by decide) ?_
                  refine lv_goto (tgt := 19) hx hb dX6_putPart_203 (by decide) ?_
                  exact ih19 (k + 2) I_68 F_69 ⟨hB71, ((hfJ.tr (hf62.mono (by decide) (by decide))).tr (hf71.mono (by decide) (by decide))), hp71, by omega, ⟨Y9 ++ (pt_mw (pt_wM F p1) (pt_pM (I 1) F p1) (pt_sM (I 1) F p1) (pt_of pt) (pt_gM I F p1)) (F 36 (k + 1)), pt_X_eq hY70 (by rw [pt_l_app, pt_mw_110 (show F 36 (k + 1) = 110 by omega)]; try rfl), (by rw [hY9, pt_pt_mark hkn h37, if_pos rfl, hmw, List.append_assoc])⟩, (hnb2.symm.trans hnb), hft2⟩ (by omega) _ _ hP hD hS ls (lv_sub hl [1, 3, 4, 5] rfl)
              · skip
                refine lv_iload hx hb dX6_putPart_95 (lv_at hl 2 rfl) ?_
                refine lv_bipush (v := iz 37) hx hb dX6_putPart_97 (by decide) ?_
                refine ki_icmp_eq (tgt := 109) hx hb dX6_putPart_99 (by decide) (by omega) (by omega) (by omega) (by omega) (fun c_72 => ?_) (fun c_72 => ?_)
                · skip
                  refine lv_aload_n hx hb dX6_putPart_109 rfl (lv_at hl 3 rfl) ?_
                  refine lv_iload hx hb dX6_putPart_110 (lv_at hl 2 rfl) ?_
                  refine lv_bipush (v := iz 110) hx hb dX6_putPart_112 (by decide) ?_
                  refine ki_icmp_ne (tgt := 122) hx hb dX6_putPart_114 (by decide) (by omega) (by omega) (by omega) (by omega) (fun c_73 => ?_) (fun c_73 => ?_)
                  · skip
                    refine lv_iload hx hb dX6_putPart_122 (lv_at hl 2 rfl) ?_
                    refine lv_bipush (v := iz 37) hx hb dX6_putPart_124 (by decide) ?_
                    refine ki_icmp_ne (tgt := 134) hx hb dX6_putPart_126 (by decide) (by omega) (by omega) (by omega) (by omega) (fun c_74 => ?_) (fun c_74 => ?_)
                    · omega
                    · skip
                      refine lv_bipush (v := iz 37) hx hb dX6_putPart_129 (by decide) ?_
                      refine lv_goto (tgt := 150) hx hb dX6_putPart_131 (by decide) ?_
                      have hac_75 : mfr [29, 31, 32, 33, 35, 42, 43] [20, 21, 22, 23, 24, 25, 26, 27, 28, 34, 41] I F J F_61 := (hfJ.tr (hf62.mono (by decide) (by decide)))
                      refine mk_callv (As := [.int (iz 37)]) (rest := []) ⟨hx, hb, hml, hown, hts⟩ (k_put2 l dC dI mo ma cs J F_61 37 H.size hB62 hp62.1) (cwV 1 hts (kx_gV kq_09_mput_12 kq_09_mput_13 kq_09_mput_14 kq_04_msmall_6 kq_09_mput_15 rfl) rfl rfl rfl (by decide +kernel) ⟨Nat.le_of_ble_eq_true rfl, Nat.le_of_ble_eq_true rfl⟩) hP hD hK hG hZ hS hA rfl hl.1 rfl (Nat.le_of_ble_eq_true rfl) dX6_putPart_150 ⟨Nat.le_of_ble_eq_true rfl, Nat.le_of_ble_eq_true rfl⟩ (fun I_78 F_79 H locs hq_77 hP hD hS => ?_)
                      try dsimp only at hq_77
                      have hX80 := hq_77.2.2.2
                      have hq_77 := (⟨hq_77.1, hq_77.2.1, hq_77.2.2.1⟩ : _ ∧ _ ∧ _)
                      obtain ⟨hB81, hf81, hd81⟩ := hq_77
                      have hp81 := mPS.put hp62 hf81 hd81
                      have hY80 := pt_X_app hXs hX80
                      refine lv_goto (tgt := 203) hx hb dX6_putPart_153 (by decide) ?_
                      refine lv_goto (tgt := 19) hx hb dX6_putPart_203 (by decide) ?_
                      exact ih19 (k + 2) I_78 F_79 ⟨hB81, ((hfJ.tr (hf62.mono (by decide) (by decide))).tr (hf81.mono (by decide) (by decide))), hp81, by omega, ⟨Y9 ++ (pt_mw (pt_wM F p1) (pt_pM (I 1) F p1) (pt_sM (I 1) F p1) (pt_of pt) (pt_gM I F p1)) (F 36 (k + 1)), pt_X_eq hY80 (by rw [pt_l_app, pt_mw_37 (show F 36 (k + 1) = 37 by omega)]; try rfl), (by rw [hY9, pt_pt_mark hkn h37, if_pos rfl, hmw, List.append_assoc])⟩, (hnb2.symm.trans hnb), hft2⟩ (by omega) _ _ hP hD hS ls (lv_sub hl [1, 3, 4, 5] rfl)
                  · omega
                · skip
                  refine lv_iload hx hb dX6_putPart_102 (lv_at hl 2 rfl) ?_
                  refine lv_bipush (v := iz 103) hx hb dX6_putPart_104 (by decide) ?_
                  refine ki_icmp_ne (tgt := 156) hx hb dX6_putPart_106 (by decide) (by omega) (by omega) (by omega) (by omega) (fun c_82 => ?_) (fun c_82 => ?_)
                  · skip
                    refine lv_iload_n hx hb dX6_putPart_156 rfl (lv_at hl 4 rfl) ?_
                    refine ki_if_le (tgt := 175) hx hb dX6_putPart_157 (by decide) (by omega) (by omega) (fun c_83 => ?_) (fun c_83 => ?_)
                    · skip
                      refine lv_iload_n hx hb dX6_putPart_175 rfl (lv_at hl 4 rfl) ?_
                      refine ki_if_le (tgt := 194) hx hb dX6_putPart_176 (by decide) (by omega) (by omega) (fun c_84 => ?_) (fun c_84 => ?_)
                      · skip
                        refine lv_iload_n hx hb dX6_putPart_194 rfl (lv_at hl 4 rfl) ?_
                        refine ki_if_le (tgt := 203) hx hb dX6_putPart_195 (by decide) (by omega) (by omega) (fun c_85 => ?_) (fun c_85 => ?_)
                        · skip
                          refine lv_goto (tgt := 19) hx hb dX6_putPart_203 (by decide) ?_
                          exact ih19 (k + 2) J F_61 ⟨hB62, (hfJ.tr (hf62.mono (by decide) (by decide))), hp62, by omega, ⟨Y9 ++ (pt_mw (pt_wM F p1) (pt_pM (I 1) F p1) (pt_sM (I 1) F p1) (pt_of pt) (pt_gM I F p1)) (F 36 (k + 1)), pt_X_eq hXs (by rw [pt_l_app, pt_mw_0 (show ¬ F 36 (k + 1) = 37 by omega) (show ¬ F 36 (k + 1) = 110 by omega) (show ¬ F 36 (k + 1) = 103 by omega) (Or.inl (show pt_of pt = 0 from if_neg (by omega)))]; exact List.append_nil _), (by rw [hY9, pt_pt_mark hkn h37, if_pos rfl, hmw, List.append_assoc])⟩, (hnb2.symm.trans hnb), hft2⟩ (by omega) _ _ hP hD hS ls (lv_sub hl [1, 3, 4, 5] rfl)
                        · omega
                      · omega
                    · skip
                      refine lv_iload hx hb dX6_putPart_160 (lv_at hl 2 rfl) ?_
                      refine lv_bipush (v := iz 119) hx hb dX6_putPart_162 (by decide) ?_
                      refine ki_icmp_ne (tgt := 175) hx hb dX6_putPart_164 (by decide) (by omega) (by omega) (by omega) (by omega) (fun c_86 => ?_) (fun c_86 => ?_)
                      · skip
                        refine lv_iload_n hx hb dX6_putPart_175 rfl (lv_at hl 4 rfl) ?_
                        refine ki_if_le (tgt := 194) hx hb dX6_putPart_176 (by decide) (by omega) (by omega) (fun c_87 => ?_) (fun c_87 => ?_)
                        · omega
                        · skip
                          refine lv_iload hx hb dX6_putPart_179 (lv_at hl 2 rfl) ?_
                          refine lv_bipush (v := iz 112) hx hb dX6_putPart_181 (by decide) ?_
                          refine ki_icmp_ne (tgt := 194) hx hb dX6_putPart_183 (by decide) (by omega) (by omega) (by omega) (by omega) (fun c_88 => ?_) (fun c_88 => ?_)
                          · skip
                            refine lv_iload_n hx hb dX6_putPart_194 rfl (lv_at hl 4 rfl) ?_
                            refine ki_if_le (tgt := 203) hx hb dX6_putPart_195 (by decide) (by omega) (by omega) (fun c_89 => ?_) (fun c_89 => ?_)
                            · omega
                            · skip
                              refine lv_aload_n hx hb dX6_putPart_198 rfl (lv_at hl 3 rfl) ?_
                              refine lv_iload_n hx hb dX6_putPart_199 rfl (lv_at hl 5 rfl) ?_
                              have hac_90 : mfr [29, 31, 32, 33, 35, 42, 43] [20, 21, 22, 23, 24, 25, 26, 27, 28, 34, 41] I F J F_61 := (hfJ.tr (hf62.mono (by decide) (by decide)))
                              refine mk_callv (As := [.int (iz p1)]) (rest := []) ⟨hx, hb, hml, hown, hts⟩ (k_putShown2 l dC dI mo ma cs J F_61 p1 H.size hB62 (by rw [(hac_90.1 1 (by decide))]; exact hc) (fun e => by rw [(hac_90.2 5 (by decide))]; exact hn e) (fun e => by rw [(hac_90.2 13 (by decide))]; exact hmy e) (by rw [(hac_90.1 1 (by decide))]; exact mSm.fr hsm (hac_90.2 17 (by decide)) (hac_90.2 2 (by decide))) (fun e k x1 x2 x3 x4 => by rw [(hac_90.1 1 (by decide))] at x2 ⊢; rw [(hac_90.2 13 (by decide))] at x4; rw [(hac_90.2 12 (by decide))]; exact hse e k x1 x2 x3 x4) (by rw [(hac_90.1 1 (by decide)), (hac_90.2 13 (by decide))]; exact hsu) hp62.1 (by omega) (by omega)) (cwV 1 hts (kx_gV kq_10_mprint_20 kq_10_mprint_21 kq_10_mprint_22 kq_04_msmall_6 kq_10_mprint_23 rfl) rfl rfl rfl (by decide +kernel) ⟨Nat.le_of_ble_eq_true rfl, Nat.le_of_ble_eq_true rfl⟩) hP hD hK hG hZ hS hA rfl hl.1 rfl (Nat.le_of_ble_eq_true rfl) dX6_putPart_200 ⟨Nat.le_of_ble_eq_true rfl, Nat.le_of_ble_eq_true rfl⟩ (fun I_93 F_94 H locs hq_92 hP hD hS => ?_)
                              try dsimp only at hq_92
                              have hX95 := hq_92.2.2.2
                              rw [pt_sM_fr (hac_90.1 1 (by decide)) (hac_90.2 4 (by decide)) (hac_90.2 5 (by decide)) (hac_90.2 17 (by decide)) (hac_90.2 13 (by decide)) (hac_90.2 12 (by decide))] at hX95
                              have hq_92 := (⟨hq_92.1, hq_92.2.1, hq_92.2.2.1⟩ : _ ∧ _ ∧ _)
                              obtain ⟨hB96, hf96, hd96⟩ := hq_92
                              have hp96 := mPS.shw hp62 hf96 hd96
                              have hY95 := pt_X_app hXs hX95
                              refine lv_goto (tgt := 19) hx hb dX6_putPart_203 (by decide) ?_
                              exact ih19 (k + 2) I_93 F_94 ⟨hB96, ((hfJ.tr (hf62.mono (by decide) (by decide))).tr (hf96.mono (by decide) (by decide))), hp96, by omega, ⟨Y9 ++ (pt_mw (pt_wM F p1) (pt_pM (I 1) F p1) (pt_sM (I 1) F p1) (pt_of pt) (pt_gM I F p1)) (F 36 (k + 1)), pt_X_eq hY95 (by rw [pt_l_app, pt_mw_115 (show F 36 (k + 1) = 115 from (by have h9 := hmk (); omega)) (show ¬ pt_of pt = 0 from (by rw [show pt_of pt = 1 from if_pos (by omega)]; decide))]; try rfl), (by rw [hY9, pt_pt_mark hkn h37, if_pos rfl, hmw, List.append_assoc])⟩, (hnb2.symm.trans hnb), hft2⟩ (by omega) _ _ hP hD hS ls (lv_sub hl [1, 3, 4, 5] rfl)
                          · skip
                            refine lv_aload_n hx hb dX6_putPart_186 rfl (lv_at hl 3 rfl) ?_
                            refine lv_iload_n hx hb dX6_putPart_187 rfl (lv_at hl 5 rfl) ?_
                            have hac_97 : mfr [29, 31, 32, 33, 35, 42, 43] [20, 21, 22, 23, 24, 25, 26, 27, 28, 34, 41] I F J F_61 := (hfJ.tr (hf62.mono (by decide) (by decide)))
                            refine mk_callv (As := [.int (iz p1)]) (rest := []) ⟨hx, hb, hml, hown, hts⟩ (k_putAll2 l dC dI mo ma cs J F_61 p1 H.size hB62 (by rw [(hac_97.1 1 (by decide))]; exact hc) (fun e => by rw [(hac_97.2 10 (by decide)), (hac_97.2 11 (by decide))]; exact hln e) (fun j => by rw [(hac_97.2 7 (by decide)), (hac_97.2 8 (by decide))]; exact hmf j) hp62 (by omega) (by omega) (by intro e a b x hx; rw [lo_R_fr (hac_97.2 6 (by decide)) (hac_97.2 7 (by decide)) (hac_97.2 8 (by decide)) (hac_97.2 9 (by decide)) (hac_97.2 10 (by decide)) (hac_97.2 11 (by decide))] at hx; exact hRv e a (by have h9 := hac_97.1 1 (by decide); have h8 : e < J 1 := b; omega) x hx)) (cwV 1 hts (kx_gV kq_10_mprint_24 kq_10_mprint_25 kq_10_mprint_26 kq_04_msmall_6 kq_10_mprint_27 rfl) rfl rfl rfl (by decide +kernel) ⟨Nat.le_of_ble_eq_true rfl, Nat.le_of_ble_eq_true rfl⟩) hP hD hK hG hZ hS hA rfl hl.1 rfl (Nat.le_of_ble_eq_true rfl) dX6_putPart_188 ⟨Nat.le_of_ble_eq_true rfl, Nat.le_of_ble_eq_true rfl⟩ (fun I_100 F_101 H locs hq_99 hP hD hS => ?_)
                            try dsimp only at hq_99
                            have hX102 := hq_99.2.2.2
                            rw [pt_pM_fr (hac_97.1 1 (by decide)) (hac_97.2 17 (by decide)) (hac_97.2 6 (by decide)) (hac_97.2 7 (by decide)) (hac_97.2 8 (by decide)) (hac_97.2 9 (by decide)) (hac_97.2 10 (by decide)) (hac_97.2 11 (by decide))] at hX102
                            have hq_99 := (⟨hq_99.1, hq_99.2.1, hq_99.2.2.1⟩ : _ ∧ _ ∧ _)
                            obtain ⟨hB103, hf103, hp103⟩ := hq_99
                            have hY102 := pt_X_app hXs hX102
                            refine lv_goto (tgt := 203) hx hb dX6_putPart_191 (by decide) ?_
                            refine lv_goto (tgt := 19) hx hb dX6_putPart_203 (by decide) ?_
                            exact ih19 (k + 2) I_100 F_101 ⟨hB103, ((hfJ.tr (hf62.mono (by decide) (by decide))).tr (hf103.mono (by decide) (by decide))), hp103, by omega, ⟨Y9 ++ (pt_mw (pt_wM F p1) (pt_pM (I 1) F p1) (pt_sM (I 1) F p1) (pt_of pt) (pt_gM I F p1)) (F 36 (k + 1)), pt_X_eq hY102 (by rw [pt_l_app, pt_mw_112 (show F 36 (k + 1) = 112 by omega) (show ¬ pt_of pt = 0 from (by rw [show pt_of pt = 1 from if_pos (by omega)]; decide))]; try rfl), (by rw [hY9, pt_pt_mark hkn h37, if_pos rfl, hmw, List.append_assoc])⟩, (hnb2.symm.trans hnb), hft2⟩ (by omega) _ _ hP hD hS ls (lv_sub hl [1, 3, 4, 5] rfl)
                      · skip
                        refine lv_aload_n hx hb dX6_putPart_167 rfl (lv_at hl 3 rfl) ?_
                        refine lv_iload_n hx hb dX6_putPart_168 rfl (lv_at hl 5 rfl) ?_
                        have hac_104 : mfr [29, 31, 32, 33, 35, 42, 43] [20, 21, 22, 23, 24, 25, 26, 27, 28, 34, 41] I F J F_61 := (hfJ.tr (hf62.mono (by decide) (by decide)))
                        refine mk_callv (As := [.int (iz p1)]) (rest := []) ⟨hx, hb, hml, hown, hts⟩ (k_putSigns2 l dC dI mo ma cs J F_61 p1 H.size hB62 hp62.1 (fun e => by rw [(hac_104.2 5 (by decide))]; exact hn e) (by omega)) (cwV 1 hts (kx_gV kq_10_mprint_16 kq_10_mprint_17 kq_10_mprint_18 kq_04_msmall_6 kq_10_mprint_19 rfl) rfl rfl rfl (by decide +kernel) ⟨Nat.le_of_ble_eq_true rfl, Nat.le_of_ble_eq_true rfl⟩) hP hD hK hG hZ hS hA rfl hl.1 rfl (Nat.le_of_ble_eq_true rfl) dX6_putPart_169 ⟨Nat.le_of_ble_eq_true rfl, Nat.le_of_ble_eq_true rfl⟩ (fun I_107 F_108 H locs hq_106 hP hD hS => ?_)
                        try dsimp only at hq_106
                        have hX109 := hq_106.2.2.2
                        rw [pt_wM_fr (hac_104.2 4 (by decide)) (hac_104.2 5 (by decide))] at hX109
                        have hq_106 := (⟨hq_106.1, hq_106.2.1, hq_106.2.2.1⟩ : _ ∧ _ ∧ _)
                        obtain ⟨hB110, hf110, hd110⟩ := hq_106
                        have hp110 := mPS.put hp62 hf110 hd110
                        have hY109 := pt_X_app hXs hX109
                        refine lv_goto (tgt := 203) hx hb dX6_putPart_172 (by decide) ?_
                        refine lv_goto (tgt := 19) hx hb dX6_putPart_203 (by decide) ?_
                        exact ih19 (k + 2) I_107 F_108 ⟨hB110, ((hfJ.tr (hf62.mono (by decide) (by decide))).tr (hf110.mono (by decide) (by decide))), hp110, by omega, ⟨Y9 ++ (pt_mw (pt_wM F p1) (pt_pM (I 1) F p1) (pt_sM (I 1) F p1) (pt_of pt) (pt_gM I F p1)) (F 36 (k + 1)), pt_X_eq hY109 (by rw [pt_l_app, pt_mw_119 (show F 36 (k + 1) = 119 by omega) (show ¬ pt_of pt = 0 from (by rw [show pt_of pt = 1 from if_pos (by omega)]; decide))]; try rfl), (by rw [hY9, pt_pt_mark hkn h37, if_pos rfl, hmw, List.append_assoc])⟩, (hnb2.symm.trans hnb), hft2⟩ (by omega) _ _ hP hD hS ls (lv_sub hl [1, 3, 4, 5] rfl)
                  · skip
                    refine lv_aload_n hx hb dX6_putPart_109 rfl (lv_at hl 3 rfl) ?_
                    refine lv_iload hx hb dX6_putPart_110 (lv_at hl 2 rfl) ?_
                    refine lv_bipush (v := iz 110) hx hb dX6_putPart_112 (by decide) ?_
                    refine ki_icmp_ne (tgt := 122) hx hb dX6_putPart_114 (by decide) (by omega) (by omega) (by omega) (by omega) (fun c_111 => ?_) (fun c_111 => ?_)
                    · skip
                      refine lv_iload hx hb dX6_putPart_122 (lv_at hl 2 rfl) ?_
                      refine lv_bipush (v := iz 37) hx hb dX6_putPart_124 (by decide) ?_
                      refine ki_icmp_ne (tgt := 134) hx hb dX6_putPart_126 (by decide) (by omega) (by omega) (by omega) (by omega) (fun c_112 => ?_) (fun c_112 => ?_)
                      · skip
                        refine lv_iload hx hb dX6_putPart_134 (lv_at hl 0 rfl) ?_
                        refine lv_iconst (v := iz 2) hx hb dX6_putPart_136 (by decide) ?_
                        refine ki_icmp_ge (tgt := 148) hx hb dX6_putPart_137 (by decide) (by omega) (by omega) (by omega) (by omega) (fun c_113 => ?_) (fun c_113 => ?_)
                        · skip
                          refine lv_iload hx hb dX6_putPart_148 (lv_at hl 0 rfl) ?_
                          have hac_114 : mfr [29, 31, 32, 33, 35, 42, 43] [20, 21, 22, 23, 24, 25, 26, 27, 28, 34, 41] I F J F_61 := (hfJ.tr (hf62.mono (by decide) (by decide)))
                          refine mk_callv (As := [.int (iz z_58)]) (rest := []) ⟨hx, hb, hml, hown, hts⟩ (k_put2 l dC dI mo ma cs J F_61 z_58 H.size hB62 hp62.1) (cwV 1 hts (kx_gV kq_09_mput_12 kq_09_mput_13 kq_09_mput_14 kq_04_msmall_6 kq_09_mput_15 rfl) rfl rfl rfl (by decide +kernel) ⟨Nat.le_of_ble_eq_true rfl, Nat.le_of_ble_eq_true rfl⟩) hP hD hK hG hZ hS hA rfl hl.1 rfl (Nat.le_of_ble_eq_true rfl) dX6_putPart_150 ⟨Nat.le_of_ble_eq_true rfl, Nat.le_of_ble_eq_true rfl⟩ (fun I_117 F_118 H locs hq_116 hP hD hS => ?_)
                          try dsimp only at hq_116
                          have hX119 := hq_116.2.2.2
                          have hq_116 := (⟨hq_116.1, hq_116.2.1, hq_116.2.2.1⟩ : _ ∧ _ ∧ _)
                          obtain ⟨hB120, hf120, hd120⟩ := hq_116
                          have hp120 := mPS.put hp62 hf120 hd120
                          have hY119 := pt_X_app hXs hX119
                          refine lv_goto (tgt := 203) hx hb dX6_putPart_153 (by decide) ?_
                          refine lv_goto (tgt := 19) hx hb dX6_putPart_203 (by decide) ?_
                          exact ih19 (k + 2) I_117 F_118 ⟨hB120, ((hfJ.tr (hf62.mono (by decide) (by decide))).tr (hf120.mono (by decide) (by decide))), hp120, by omega, ⟨Y9 ++ (pt_mw (pt_wM F p1) (pt_pM (I 1) F p1) (pt_sM (I 1) F p1) (pt_of pt) (pt_gM I F p1)) (F 36 (k + 1)), pt_X_eq hY119 (by rw [pt_l_app, pt_mw_103b (show F 36 (k + 1) = 103 by omega) (by rw [← hgM]; omega)]; rw [← hgM]; try rfl), (by rw [hY9, pt_pt_mark hkn h37, if_pos rfl, hmw, List.append_assoc])⟩, (hnb2.symm.trans hnb), hft2⟩ (by omega) _ _ hP hD hS ls (lv_sub hl [1, 3, 4, 5] rfl)
                        · skip
                          refine lv_bipush (v := iz 48) hx hb dX6_putPart_140 (by decide) ?_
                          refine lv_iload hx hb dX6_putPart_142 (lv_at hl 0 rfl) ?_
                          refine ki_iadd hx hb dX6_putPart_144 ?_
                          refine lv_goto (tgt := 150) hx hb dX6_putPart_145 (by decide) ?_
                          have hac_121 : mfr [29, 31, 32, 33, 35, 42, 43] [20, 21, 22, 23, 24, 25, 26, 27, 28, 34, 41] I F J F_61 := (hfJ.tr (hf62.mono (by decide) (by decide)))
                          refine mk_callv (As := [.int (iz (48 + z_58))]) (rest := []) ⟨hx, hb, hml, hown, hts⟩ (k_put2 l dC dI mo ma cs J F_61 (48 + z_58) H.size hB62 hp62.1) (cwV 1 hts (kx_gV kq_09_mput_12 kq_09_mput_13 kq_09_mput_14 kq_04_msmall_6 kq_09_mput_15 rfl) rfl rfl rfl (by decide +kernel) ⟨Nat.le_of_ble_eq_true rfl, Nat.le_of_ble_eq_true rfl⟩) hP hD hK hG hZ hS hA rfl hl.1 rfl (Nat.le_of_ble_eq_true rfl) dX6_putPart_150 ⟨Nat.le_of_ble_eq_true rfl, Nat.le_of_ble_eq_true rfl⟩ (fun I_124 F_125 H locs hq_123 hP hD hS => ?_)
                          try dsimp only at hq_123
                          have hX126 := hq_123.2.2.2
                          have hq_123 := (⟨hq_123.1, hq_123.2.1, hq_123.2.2.1⟩ : _ ∧ _ ∧ _)
                          obtain ⟨hB127, hf127, hd127⟩ := hq_123
                          have hp127 := mPS.put hp62 hf127 hd127
                          have hY126 := pt_X_app hXs hX126
                          refine lv_goto (tgt := 203) hx hb dX6_putPart_153 (by decide) ?_
                          refine lv_goto (tgt := 19) hx hb dX6_putPart_203 (by decide) ?_
                          exact ih19 (k + 2) I_124 F_125 ⟨hB127, ((hfJ.tr (hf62.mono (by decide) (by decide))).tr (hf127.mono (by decide) (by decide))), hp127, by omega, ⟨Y9 ++ (pt_mw (pt_wM F p1) (pt_pM (I 1) F p1) (pt_sM (I 1) F p1) (pt_of pt) (pt_gM I F p1)) (F 36 (k + 1)), pt_X_eq hY126 (by rw [pt_l_app, pt_mw_103a (show F 36 (k + 1) = 103 by omega) (by rw [← hgM]; omega)]; rw [← hgM]; try rfl), (by rw [hY9, pt_pt_mark hkn h37, if_pos rfl, hmw, List.append_assoc])⟩, (hnb2.symm.trans hnb), hft2⟩ (by omega) _ _ hP hD hS ls (lv_sub hl [1, 3, 4, 5] rfl)
                      · omega
                    · omega
          · skip
            refine lv_aload_n hx hb dX6_putPart_44 rfl (lv_at hl 2 rfl) ?_
            refine lv_iload hx hb dX6_putPart_45 (lv_at hl 0 rfl) ?_
            have hac_128 : mfr [29, 31, 32, 33, 35, 42, 43] [20, 21, 22, 23, 24, 25, 26, 27, 28, 34, 41] I F J G := hfJ
            refine mk_callv (As := [.int (iz (G 36 k))]) (rest := []) ⟨hx, hb, hml, hown, hts⟩ (k_put2 l dC dI mo ma cs J G (G 36 k) H.size hBJ hpJ.1) (cwV 1 hts (kx_gV kq_09_mput_12 kq_09_mput_13 kq_09_mput_14 kq_04_msmall_6 kq_09_mput_15 rfl) rfl rfl rfl (by decide +kernel) ⟨Nat.le_of_ble_eq_true rfl, Nat.le_of_ble_eq_true rfl⟩) hP hD hK hG hZ hS hA rfl hl.1 rfl (Nat.le_of_ble_eq_true rfl) dX6_putPart_47 ⟨Nat.le_of_ble_eq_true rfl, Nat.le_of_ble_eq_true rfl⟩ (fun I_131 F_132 H locs hq_130 hP hD hS => ?_)
            try dsimp only at hq_130
            have hX133 := hq_130.2.2.2
            have hq_130 := (⟨hq_130.1, hq_130.2.1, hq_130.2.2.1⟩ : _ ∧ _ ∧ _)
            obtain ⟨hB134, hf134, hd134⟩ := hq_130
            have hp134 := mPS.put hpJ hf134 hd134
            have hY133 := pt_X_app hX9 hX133
            refine lv_iinc (v := iz (k + 1)) (lv' := [(3, .int (iz (k + 1))), (4, .int (iz (G 36 k))), (0, .ref mo), (1, .int (iz pt)), (2, .int (iz p1))]) hx hb dX6_putPart_50 hl (k := 1) rfl (iz_add k 1) (by decide) rfl (fun ls hl => ?_)
            refine lv_goto (tgt := 203) hx hb dX6_putPart_53 (by decide) ?_
            refine lv_goto (tgt := 19) hx hb dX6_putPart_203 (by decide) ?_
            exact ih19 (k + 1) I_131 F_132 ⟨hB134, (hfJ.tr (hf134.mono (by decide) (by decide))), hp134, by omega, ⟨Y9 ++ [F 36 k], pt_X_eq hY133 (by rw [pt_l_app, ← e36]; rfl), (by rw [hY9, pt_pt_sign hkn h124 (show ¬ F 36 k = 37 by omega), if_pos rfl, List.append_assoc])⟩, ((pt_nb_sign hkn h124 (show ¬ F 36 k = 37 by omega)).symm.trans hnb), ((pt_ft_sign hkn h124 (show ¬ F 36 k = 37 by omega)).symm.trans hft9)⟩ (by omega) _ _ hP hD hS ls (lv_sub hl [0, 2, 3, 4] rfl)
    exact lp19 _ ((F 38 (pt - 1)) + 1) I F ⟨hB, mfr.rf, hps, (by have h9 := (hBr.1 pt (by omega) (by omega)).1; rw [show pt_st (F 38) pt = ((F 38 (pt - 1)) + 1) from if_neg (by omega)] at h9; omega), ⟨[], pt_X_eq hX0 rfl, (by rw [List.nil_append]; have h9 := pt_Br_part hBr (pt_mw (pt_wM F p1) (pt_pM (I 1) F p1) (pt_sM (I 1) F p1) (pt_of pt) (pt_gM I F p1)) hpt.1 hpt.2; rw [show pt_st (F 38) pt = ((F 38 (pt - 1)) + 1) from if_neg (by omega)] at h9; exact h9)⟩, (by have h9 := (hBr.1 pt (by omega) (by omega)).2; rw [show pt_st (F 38) pt = ((F 38 (pt - 1)) + 1) from if_neg (by omega)] at h9; exact h9), (by have h9 := hBr.2.2.2 pt (by omega) (by omega); rw [show pt_st (F 38) pt = ((F 38 (pt - 1)) + 1) from if_neg (by omega)] at h9; exact h9)⟩ (Nat.lt_succ_self _) _ _ hP hD hS ls (lv_sub hl [0, 1, 2, 3] rfl)
  · skip
    refine lv_iconst (v := iz 0) hx hb dX6_putPart_4 (by decide) ?_
    refine lv_goto (tgt := 18) hx hb dX6_putPart_5 (by decide) ?_
    refine lv_istore_n (lv' := [(3, .int (iz 0)), (0, .ref mo), (1, .int (iz pt)), (2, .int (iz p1))]) hx hb dX6_putPart_18 rfl hl (by decide) rfl (fun ls hl => ?_)
    have lp19 : ∀ (n : Nat) (k : Int) (J : Nat → Int) (G : Nat → Int → Int), ((mB J G) ∧ (mfr [29, 31, 32, 33, 35, 42, 43] [20, 21, 22, 23, 24, 25, 26, 27, 28, 34, 41] I F J G) ∧ (mPS J G) ∧ (0 ≤ k ∧ k ≤ I 37) ∧ (∃ Y9, pt_X (F 41) (I 42) (I 43) (pt_l Y9) (G 41) (J 42) (J 43) ∧ pt_PM I F pt p1 = Y9 ++ pt_pt (F 36) (I 37) (pt_mw (pt_wM F p1) (pt_pM (I 1) F p1) (pt_sM (I 1) F p1) (pt_of pt) (pt_gM I F p1)) pt (I 37 - k).toNat k pt) ∧ (pt_nb (F 36) (I 37) (I 37 - k).toNat k = F 38 pt) ∧ (pt_ft (F 36) (I 37) (I 37 - k).toNat k pt = -1)) → (F 38 pt - k).toNat < n → ∀ (H : Heap) (locs : List Loc), va_P (dC, dI) kxCl (mW mo ma cs J G) H → va_D A (mW mo ma cs J G) → va_S A s.heap H locs → ∀ ls : Array Slot, lv_has ls 6 [(3, .int (iz k)), (0, .ref mo), (1, .int (iz pt)), (2, .int (iz p1))] → W p l e (headSpec [.code yX6_putPart cX6_putPart 6 none] ({ frames := 5, cells := 0, slots := 0, locals := 111 })).room s m ([.ref mo, .int (iz pt), .int (iz p1)] : List Value).toArray below meth c H locs 0 0 QQ (F0 m 19 ls []) := by
      intro n
      induction n with
      | zero => intro k J G hinv hm; exact absurd hm (Nat.not_lt_zero _)
      | succ n ih19 =>
        intro k J G hinv hm H locs hP hD hS ls hl
        obtain ⟨hBJ, hfJ, hpJ, hk, hXJ, hnb, hft9⟩ := hinv
        obtain ⟨Y9, hX9, hY9⟩ := hXJ
        have e38 := congrFun (hfJ.2 38 (by decide)) pt
        have hge := pt_nb_ge (f := F 36) (n := I 37) (I 37 - k).toNat k
        refine lv_iload_n hx hb dX6_putPart_19 rfl (lv_at hl 0 rfl) ?_
        refine lv_aload_n hx hb dX6_putPart_20 rfl (lv_at hl 1 rfl) ?_
        refine va_get (D := (dC, dI)) (ci := 6) (v := .ref (ma 38)) (C := RX6) (T := TX6) (N := 44) hx hb hts kt_X6 hown hK hP 0 rfl rfl 38 (by decide) (kx_word hG kq_09_mput_5 rfl) (fun _ h9 => h9) rfl dX6_putPart_21 ?_
        refine lv_iload_n hx hb dX6_putPart_24 rfl (lv_at hl 2 rfl) ?_
        refine ki_iald (F := G 38) hx hb hK hP 26 25 rfl rfl (by omega) (by omega) (by decide) dX6_putPart_25 ?_
        have hbd_135 := hBJ.2 38 pt
        refine ki_icmp_ge (tgt := 206) hx hb dX6_putPart_26 (by decide) (by omega) (by omega) (by omega) (by omega) (fun c_136 => ?_) (fun c_136 => ?_)
        · skip
          rw [← hQe]
          exact mk_ret hx hb hr hlocks hP hD hK hS dX6_putPart_206 (⟨hBJ, hfJ, hpJ, pt_X_eq hX9 (by rw [hY9, pt_pt_at (by rw [hnb]; omega), List.append_nil])⟩)
        · skip
          have e36 := congrFun (hfJ.2 36 (by decide)) k
          have hkn : k < I 37 := by omega
          have h124 : ¬ F 36 k = 124 := fun h9 => by have h8 := pt_nb_bar (f := F 36) (n := I 37) hkn h9; omega
          refine lv_aload_n hx hb dX6_putPart_29 rfl (lv_at hl 1 rfl) ?_
          refine va_get (D := (dC, dI)) (ci := 6) (v := .ref (ma 36)) (C := RX6) (T := TX6) (N := 44) hx hb hts kt_X6 hown hK hP 0 rfl rfl 36 (by decide) (kx_word hG kq_04_msmall_20 rfl) (fun _ h9 => h9) rfl dX6_putPart_30 ?_
          refine lv_iload_n hx hb dX6_putPart_33 rfl (lv_at hl 0 rfl) ?_
          refine ki_iald (F := G 36) hx hb hK hP 25 24 rfl rfl (by omega) (by omega) (by decide) dX6_putPart_34 ?_
          have hbd_137 := hBJ.2 36 k
          refine lv_istore (lv' := [(4, .int (iz (G 36 k))), (3, .int (iz k)), (0, .ref mo), (1, .int (iz pt)), (2, .int (iz p1))]) hx hb dX6_putPart_35 hl (by decide) rfl (fun ls hl => ?_)
          refine lv_iload hx hb dX6_putPart_37 (lv_at hl 0 rfl) ?_
          refine lv_bipush (v := iz 37) hx hb dX6_putPart_39 (by decide) ?_
          refine ki_icmp_eq (tgt := 56) hx hb dX6_putPart_41 (by decide) (by omega) (by omega) (by omega) (by omega) (fun c_138 => ?_) (fun c_138 => ?_)
          · skip
            have e37 := congrFun (hfJ.2 36 (by decide)) (k + 1)
            have h37 : F 36 k = 37 := by omega
            obtain ⟨⟨hk1, hmk⟩, hft2⟩ := pt_ft_ok (by omega) hkn h37 hft9
            have hnb2 := pt_nb_mark (f := F 36) (n := I 37) hkn h37
            have hge2 := pt_nb_ge (f := F 36) (n := I 37) (I 37 - (k + 2)).toNat (k + 2)
            have hmw : pt_gt (F 36) (I 37) (k + 1) = F 36 (k + 1) := if_pos hk1
            replace hmk := fun (_ : Unit) => hmk
            refine lv_aload_n hx hb dX6_putPart_56 rfl (lv_at hl 2 rfl) ?_
            refine va_get (D := (dC, dI)) (ci := 6) (v := .ref (ma 36)) (C := RX6) (T := TX6) (N := 44) hx hb hts kt_X6 hown hK hP 0 rfl rfl 36 (by decide) (kx_word hG kq_04_msmall_20 rfl) (fun _ h9 => h9) rfl dX6_putPart_57 ?_
            refine lv_iload_n hx hb dX6_putPart_60 rfl (lv_at hl 1 rfl) ?_
            refine lv_iconst (v := iz 1) hx hb dX6_putPart_61 (by decide) ?_
            refine ki_iadd hx hb dX6_putPart_62 ?_
            refine ki_iald (F := G 36) hx hb hK hP 25 24 rfl rfl (by omega) (by omega) (by decide) dX6_putPart_63 ?_
            have hbd_139 := hBJ.2 36 (k + 1)
            refine lv_istore (lv' := [(4, .int (iz (G 36 (k + 1)))), (3, .int (iz k)), (0, .ref mo), (1, .int (iz pt)), (2, .int (iz p1))]) hx hb dX6_putPart_64 hl (by decide) rfl (fun ls hl => ?_)
            refine lv_iload_n hx hb dX6_putPart_66 rfl (lv_at hl 1 rfl) ?_
            refine lv_iconst (v := iz 2) hx hb dX6_putPart_67 (by decide) ?_
            refine ki_iadd hx hb dX6_putPart_68 ?_
            refine lv_istore_n (lv' := [(3, .int (iz (k + 2))), (4, .int (iz (G 36 (k + 1)))), (0, .ref mo), (1, .int (iz pt)), (2, .int (iz p1))]) hx hb dX6_putPart_69 rfl hl (by decide) rfl (fun ls hl => ?_)
            refine lv_iload hx hb dX6_putPart_70 (lv_at hl 1 rfl) ?_
            refine lv_bipush (v := iz 103) hx hb dX6_putPart_72 (by decide) ?_
            refine ki_icmp_ne (tgt := 85) hx hb dX6_putPart_74 (by decide) (by omega) (by omega) (by omega) (by omega) (fun c_140 => ?_) (fun c_140 => ?_)
            · skip
              refine lv_iconst (v := iz 0) hx hb dX6_putPart_85 (by decide) ?_
              refine lv_istore (lv' := [(5, .int (iz 0)), (3, .int (iz (k + 2))), (4, .int (iz (G 36 (k + 1)))), (0, .ref mo), (1, .int (iz pt)), (2, .int (iz p1))]) hx hb dX6_putPart_86 hl (by decide) rfl (fun ls hl => ?_)
              refine lv_iload hx hb dX6_putPart_88 (lv_at hl 2 rfl) ?_
              refine lv_bipush (v := iz 110) hx hb dX6_putPart_90 (by decide) ?_
              refine ki_icmp_eq (tgt := 109) hx hb dX6_putPart_92 (by decide) (by omega) (by omega) (by omega) (by omega) (fun c_141 => ?_) (fun c_141 => ?_)
              · skip
                refine lv_aload_n hx hb dX6_putPart_109 rfl (lv_at hl 3 rfl) ?_
                refine lv_iload hx hb dX6_putPart_110 (lv_at hl 2 rfl) ?_
                refine lv_bipush (v := iz 110) hx hb dX6_putPart_112 (by decide) ?_
                refine ki_icmp_ne (tgt := 122) hx hb dX6_putPart_114 (by decide) (by omega) (by omega) (by omega) (by omega) (fun c_142 => ?_) (fun c_142 => ?_)
                · omega
                · skip
                  refine lv_bipush (v := iz 10) hx hb dX6_putPart_117 (by decide) ?_
                  refine lv_goto (tgt := 150) hx hb dX6_putPart_119 (by decide) ?_
                  have hac_143 : mfr [29, 31, 32, 33, 35, 42, 43] [20, 21, 22, 23, 24, 25, 26, 27, 28, 34, 41] I F J G := hfJ
                  refine mk_callv (As := [.int (iz 10)]) (rest := []) ⟨hx, hb, hml, hown, hts⟩ (k_put2 l dC dI mo ma cs J G 10 H.size hBJ hpJ.1) (cwV 1 hts (kx_gV kq_09_mput_12 kq_09_mput_13 kq_09_mput_14 kq_04_msmall_6 kq_09_mput_15 rfl) rfl rfl rfl (by decide +kernel) ⟨Nat.le_of_ble_eq_true rfl, Nat.le_of_ble_eq_true rfl⟩) hP hD hK hG hZ hS hA rfl hl.1 rfl (Nat.le_of_ble_eq_true rfl) dX6_putPart_150 ⟨Nat.le_of_ble_eq_true rfl, Nat.le_of_ble_eq_true rfl⟩ (fun I_146 F_147 H locs hq_145 hP hD hS => ?_)
                  try dsimp only at hq_145
                  have hX148 := hq_145.2.2.2
                  have hq_145 := (⟨hq_145.1, hq_145.2.1, hq_145.2.2.1⟩ : _ ∧ _ ∧ _)
                  obtain ⟨hB149, hf149, hd149⟩ := hq_145
                  have hp149 := mPS.put hpJ hf149 hd149
                  have hY148 := pt_X_app hX9 hX148
                  refine lv_goto (tgt := 203) hx hb dX6_putPart_153 (by decide) ?_
                  refine lv_goto (tgt := 19) hx hb dX6_putPart_203 (by decide) ?_
                  exact ih19 (k + 2) I_146 F_147 ⟨hB149, (hfJ.tr (hf149.mono (by decide) (by decide))), hp149, by omega, ⟨Y9 ++ (pt_mw (pt_wM F p1) (pt_pM (I 1) F p1) (pt_sM (I 1) F p1) (pt_of pt) (pt_gM I F p1)) (F 36 (k + 1)), pt_X_eq hY148 (by rw [pt_l_app, pt_mw_110 (show F 36 (k + 1) = 110 by omega)]; try rfl), (by rw [hY9, pt_pt_mark hkn h37, if_pos rfl, hmw, List.append_assoc])⟩, (hnb2.symm.trans hnb), hft2⟩ (by omega) _ _ hP hD hS ls (lv_sub hl [1, 3, 4, 5] rfl)
              · skip
                refine lv_iload hx hb dX6_putPart_95 (lv_at hl 2 rfl) ?_
                refine lv_bipush (v := iz 37) hx hb dX6_putPart_97 (by decide) ?_
                refine ki_icmp_eq (tgt := 109) hx hb dX6_putPart_99 (by decide) (by omega) (by omega) (by omega) (by omega) (fun c_150 => ?_) (fun c_150 => ?_)
                · skip
                  refine lv_aload_n hx hb dX6_putPart_109 rfl (lv_at hl 3 rfl) ?_
                  refine lv_iload hx hb dX6_putPart_110 (lv_at hl 2 rfl) ?_
                  refine lv_bipush (v := iz 110) hx hb dX6_putPart_112 (by decide) ?_
                  refine ki_icmp_ne (tgt := 122) hx hb dX6_putPart_114 (by decide) (by omega) (by omega) (by omega) (by omega) (fun c_151 => ?_) (fun c_151 => ?_)
                  · skip
                    refine lv_iload hx hb dX6_putPart_122 (lv_at hl 2 rfl) ?_
                    refine lv_bipush (v := iz 37) hx hb dX6_putPart_124 (by decide) ?_
                    refine ki_icmp_ne (tgt := 134) hx hb dX6_putPart_126 (by decide) (by omega) (by omega) (by omega) (by omega) (fun c_152 => ?_) (fun c_152 => ?_)
                    · omega
                    · skip
                      refine lv_bipush (v := iz 37) hx hb dX6_putPart_129 (by decide) ?_
                      refine lv_goto (tgt := 150) hx hb dX6_putPart_131 (by decide) ?_
                      have hac_153 : mfr [29, 31, 32, 33, 35, 42, 43] [20, 21, 22, 23, 24, 25, 26, 27, 28, 34, 41] I F J G := hfJ
                      refine mk_callv (As := [.int (iz 37)]) (rest := []) ⟨hx, hb, hml, hown, hts⟩ (k_put2 l dC dI mo ma cs J G 37 H.size hBJ hpJ.1) (cwV 1 hts (kx_gV kq_09_mput_12 kq_09_mput_13 kq_09_mput_14 kq_04_msmall_6 kq_09_mput_15 rfl) rfl rfl rfl (by decide +kernel) ⟨Nat.le_of_ble_eq_true rfl, Nat.le_of_ble_eq_true rfl⟩) hP hD hK hG hZ hS hA rfl hl.1 rfl (Nat.le_of_ble_eq_true rfl) dX6_putPart_150 ⟨Nat.le_of_ble_eq_true rfl, Nat.le_of_ble_eq_true rfl⟩ (fun I_156 F_157 H locs hq_155 hP hD hS => ?_)
                      try dsimp only at hq_155
                      have hX158 := hq_155.2.2.2
                      have hq_155 := (⟨hq_155.1, hq_155.2.1, hq_155.2.2.1⟩ : _ ∧ _ ∧ _)
                      obtain ⟨hB159, hf159, hd159⟩ := hq_155
                      have hp159 := mPS.put hpJ hf159 hd159
                      have hY158 := pt_X_app hX9 hX158
                      refine lv_goto (tgt := 203) hx hb dX6_putPart_153 (by decide) ?_
                      refine lv_goto (tgt := 19) hx hb dX6_putPart_203 (by decide) ?_
                      exact ih19 (k + 2) I_156 F_157 ⟨hB159, (hfJ.tr (hf159.mono (by decide) (by decide))), hp159, by omega, ⟨Y9 ++ (pt_mw (pt_wM F p1) (pt_pM (I 1) F p1) (pt_sM (I 1) F p1) (pt_of pt) (pt_gM I F p1)) (F 36 (k + 1)), pt_X_eq hY158 (by rw [pt_l_app, pt_mw_37 (show F 36 (k + 1) = 37 by omega)]; try rfl), (by rw [hY9, pt_pt_mark hkn h37, if_pos rfl, hmw, List.append_assoc])⟩, (hnb2.symm.trans hnb), hft2⟩ (by omega) _ _ hP hD hS ls (lv_sub hl [1, 3, 4, 5] rfl)
                  · omega
                · skip
                  refine lv_iload hx hb dX6_putPart_102 (lv_at hl 2 rfl) ?_
                  refine lv_bipush (v := iz 103) hx hb dX6_putPart_104 (by decide) ?_
                  refine ki_icmp_ne (tgt := 156) hx hb dX6_putPart_106 (by decide) (by omega) (by omega) (by omega) (by omega) (fun c_160 => ?_) (fun c_160 => ?_)
                  · skip
                    refine lv_iload_n hx hb dX6_putPart_156 rfl (lv_at hl 4 rfl) ?_
                    refine ki_if_le (tgt := 175) hx hb dX6_putPart_157 (by decide) (by omega) (by omega) (fun c_161 => ?_) (fun c_161 => ?_)
                    · skip
                      refine lv_iload_n hx hb dX6_putPart_175 rfl (lv_at hl 4 rfl) ?_
                      refine ki_if_le (tgt := 194) hx hb dX6_putPart_176 (by decide) (by omega) (by omega) (fun c_162 => ?_) (fun c_162 => ?_)
                      · skip
                        refine lv_iload_n hx hb dX6_putPart_194 rfl (lv_at hl 4 rfl) ?_
                        refine ki_if_le (tgt := 203) hx hb dX6_putPart_195 (by decide) (by omega) (by omega) (fun c_163 => ?_) (fun c_163 => ?_)
                        · skip
                          refine lv_goto (tgt := 19) hx hb dX6_putPart_203 (by decide) ?_
                          exact ih19 (k + 2) J G ⟨hBJ, hfJ, hpJ, by omega, ⟨Y9 ++ (pt_mw (pt_wM F p1) (pt_pM (I 1) F p1) (pt_sM (I 1) F p1) (pt_of pt) (pt_gM I F p1)) (F 36 (k + 1)), pt_X_eq hX9 (by rw [pt_l_app, pt_mw_0 (show ¬ F 36 (k + 1) = 37 by omega) (show ¬ F 36 (k + 1) = 110 by omega) (show ¬ F 36 (k + 1) = 103 by omega) (Or.inl (show pt_of pt = 0 from if_neg (by omega)))]; exact List.append_nil _), (by rw [hY9, pt_pt_mark hkn h37, if_pos rfl, hmw, List.append_assoc])⟩, (hnb2.symm.trans hnb), hft2⟩ (by omega) _ _ hP hD hS ls (lv_sub hl [1, 3, 4, 5] rfl)
                        · omega
                      · omega
                    · skip
                      refine lv_iload hx hb dX6_putPart_160 (lv_at hl 2 rfl) ?_
                      refine lv_bipush (v := iz 119) hx hb dX6_putPart_162 (by decide) ?_
                      refine ki_icmp_ne (tgt := 175) hx hb dX6_putPart_164 (by decide) (by omega) (by omega) (by omega) (by omega) (fun c_164 => ?_) (fun c_164 => ?_)
                      · skip
                        refine lv_iload_n hx hb dX6_putPart_175 rfl (lv_at hl 4 rfl) ?_
                        refine ki_if_le (tgt := 194) hx hb dX6_putPart_176 (by decide) (by omega) (by omega) (fun c_165 => ?_) (fun c_165 => ?_)
                        · omega
                        · skip
                          refine lv_iload hx hb dX6_putPart_179 (lv_at hl 2 rfl) ?_
                          refine lv_bipush (v := iz 112) hx hb dX6_putPart_181 (by decide) ?_
                          refine ki_icmp_ne (tgt := 194) hx hb dX6_putPart_183 (by decide) (by omega) (by omega) (by omega) (by omega) (fun c_166 => ?_) (fun c_166 => ?_)
                          · skip
                            refine lv_iload_n hx hb dX6_putPart_194 rfl (lv_at hl 4 rfl) ?_
                            refine ki_if_le (tgt := 203) hx hb dX6_putPart_195 (by decide) (by omega) (by omega) (fun c_167 => ?_) (fun c_167 => ?_)
                            · omega
                            · skip
                              refine lv_aload_n hx hb dX6_putPart_198 rfl (lv_at hl 3 rfl) ?_
                              refine lv_iload_n hx hb dX6_putPart_199 rfl (lv_at hl 5 rfl) ?_
                              have hac_168 : mfr [29, 31, 32, 33, 35, 42, 43] [20, 21, 22, 23, 24, 25, 26, 27, 28, 34, 41] I F J G := hfJ
                              refine mk_callv (As := [.int (iz p1)]) (rest := []) ⟨hx, hb, hml, hown, hts⟩ (k_putShown2 l dC dI mo ma cs J G p1 H.size hBJ (by rw [(hac_168.1 1 (by decide))]; exact hc) (fun e => by rw [(hac_168.2 5 (by decide))]; exact hn e) (fun e => by rw [(hac_168.2 13 (by decide))]; exact hmy e) (by rw [(hac_168.1 1 (by decide))]; exact mSm.fr hsm (hac_168.2 17 (by decide)) (hac_168.2 2 (by decide))) (fun e k x1 x2 x3 x4 => by rw [(hac_168.1 1 (by decide))] at x2 ⊢; rw [(hac_168.2 13 (by decide))] at x4; rw [(hac_168.2 12 (by decide))]; exact hse e k x1 x2 x3 x4) (by rw [(hac_168.1 1 (by decide)), (hac_168.2 13 (by decide))]; exact hsu) hpJ.1 (by omega) (by omega)) (cwV 1 hts (kx_gV kq_10_mprint_20 kq_10_mprint_21 kq_10_mprint_22 kq_04_msmall_6 kq_10_mprint_23 rfl) rfl rfl rfl (by decide +kernel) ⟨Nat.le_of_ble_eq_true rfl, Nat.le_of_ble_eq_true rfl⟩) hP hD hK hG hZ hS hA rfl hl.1 rfl (Nat.le_of_ble_eq_true rfl) dX6_putPart_200 ⟨Nat.le_of_ble_eq_true rfl, Nat.le_of_ble_eq_true rfl⟩ (fun I_171 F_172 H locs hq_170 hP hD hS => ?_)
                              try dsimp only at hq_170
                              have hX173 := hq_170.2.2.2
                              rw [pt_sM_fr (hac_168.1 1 (by decide)) (hac_168.2 4 (by decide)) (hac_168.2 5 (by decide)) (hac_168.2 17 (by decide)) (hac_168.2 13 (by decide)) (hac_168.2 12 (by decide))] at hX173
                              have hq_170 := (⟨hq_170.1, hq_170.2.1, hq_170.2.2.1⟩ : _ ∧ _ ∧ _)
                              obtain ⟨hB174, hf174, hd174⟩ := hq_170
                              have hp174 := mPS.shw hpJ hf174 hd174
                              have hY173 := pt_X_app hX9 hX173
                              refine lv_goto (tgt := 19) hx hb dX6_putPart_203 (by decide) ?_
                              exact ih19 (k + 2) I_171 F_172 ⟨hB174, (hfJ.tr (hf174.mono (by decide) (by decide))), hp174, by omega, ⟨Y9 ++ (pt_mw (pt_wM F p1) (pt_pM (I 1) F p1) (pt_sM (I 1) F p1) (pt_of pt) (pt_gM I F p1)) (F 36 (k + 1)), pt_X_eq hY173 (by rw [pt_l_app, pt_mw_115 (show F 36 (k + 1) = 115 from (by have h9 := hmk (); omega)) (show ¬ pt_of pt = 0 from (by rw [show pt_of pt = 1 from if_pos (by omega)]; decide))]; try rfl), (by rw [hY9, pt_pt_mark hkn h37, if_pos rfl, hmw, List.append_assoc])⟩, (hnb2.symm.trans hnb), hft2⟩ (by omega) _ _ hP hD hS ls (lv_sub hl [1, 3, 4, 5] rfl)
                          · skip
                            refine lv_aload_n hx hb dX6_putPart_186 rfl (lv_at hl 3 rfl) ?_
                            refine lv_iload_n hx hb dX6_putPart_187 rfl (lv_at hl 5 rfl) ?_
                            have hac_175 : mfr [29, 31, 32, 33, 35, 42, 43] [20, 21, 22, 23, 24, 25, 26, 27, 28, 34, 41] I F J G := hfJ
                            refine mk_callv (As := [.int (iz p1)]) (rest := []) ⟨hx, hb, hml, hown, hts⟩ (k_putAll2 l dC dI mo ma cs J G p1 H.size hBJ (by rw [(hac_175.1 1 (by decide))]; exact hc) (fun e => by rw [(hac_175.2 10 (by decide)), (hac_175.2 11 (by decide))]; exact hln e) (fun j => by rw [(hac_175.2 7 (by decide)), (hac_175.2 8 (by decide))]; exact hmf j) hpJ (by omega) (by omega) (by intro e a b x hx; rw [lo_R_fr (hac_175.2 6 (by decide)) (hac_175.2 7 (by decide)) (hac_175.2 8 (by decide)) (hac_175.2 9 (by decide)) (hac_175.2 10 (by decide)) (hac_175.2 11 (by decide))] at hx; exact hRv e a (by have h9 := hac_175.1 1 (by decide); have h8 : e < J 1 := b; omega) x hx)) (cwV 1 hts (kx_gV kq_10_mprint_24 kq_10_mprint_25 kq_10_mprint_26 kq_04_msmall_6 kq_10_mprint_27 rfl) rfl rfl rfl (by decide +kernel) ⟨Nat.le_of_ble_eq_true rfl, Nat.le_of_ble_eq_true rfl⟩) hP hD hK hG hZ hS hA rfl hl.1 rfl (Nat.le_of_ble_eq_true rfl) dX6_putPart_188 ⟨Nat.le_of_ble_eq_true rfl, Nat.le_of_ble_eq_true rfl⟩ (fun I_178 F_179 H locs hq_177 hP hD hS => ?_)
                            try dsimp only at hq_177
                            have hX180 := hq_177.2.2.2
                            rw [pt_pM_fr (hac_175.1 1 (by decide)) (hac_175.2 17 (by decide)) (hac_175.2 6 (by decide)) (hac_175.2 7 (by decide)) (hac_175.2 8 (by decide)) (hac_175.2 9 (by decide)) (hac_175.2 10 (by decide)) (hac_175.2 11 (by decide))] at hX180
                            have hq_177 := (⟨hq_177.1, hq_177.2.1, hq_177.2.2.1⟩ : _ ∧ _ ∧ _)
                            obtain ⟨hB181, hf181, hp181⟩ := hq_177
                            have hY180 := pt_X_app hX9 hX180
                            refine lv_goto (tgt := 203) hx hb dX6_putPart_191 (by decide) ?_
                            refine lv_goto (tgt := 19) hx hb dX6_putPart_203 (by decide) ?_
                            exact ih19 (k + 2) I_178 F_179 ⟨hB181, (hfJ.tr (hf181.mono (by decide) (by decide))), hp181, by omega, ⟨Y9 ++ (pt_mw (pt_wM F p1) (pt_pM (I 1) F p1) (pt_sM (I 1) F p1) (pt_of pt) (pt_gM I F p1)) (F 36 (k + 1)), pt_X_eq hY180 (by rw [pt_l_app, pt_mw_112 (show F 36 (k + 1) = 112 by omega) (show ¬ pt_of pt = 0 from (by rw [show pt_of pt = 1 from if_pos (by omega)]; decide))]; try rfl), (by rw [hY9, pt_pt_mark hkn h37, if_pos rfl, hmw, List.append_assoc])⟩, (hnb2.symm.trans hnb), hft2⟩ (by omega) _ _ hP hD hS ls (lv_sub hl [1, 3, 4, 5] rfl)
                      · skip
                        refine lv_aload_n hx hb dX6_putPart_167 rfl (lv_at hl 3 rfl) ?_
                        refine lv_iload_n hx hb dX6_putPart_168 rfl (lv_at hl 5 rfl) ?_
                        have hac_182 : mfr [29, 31, 32, 33, 35, 42, 43] [20, 21, 22, 23, 24, 25, 26, 27, 28, 34, 41] I F J G := hfJ
                        refine mk_callv (As := [.int (iz p1)]) (rest := []) ⟨hx, hb, hml, hown, hts⟩ (k_putSigns2 l dC dI mo ma cs J G p1 H.size hBJ hpJ.1 (fun e => by rw [(hac_182.2 5 (by decide))]; exact hn e) (by omega)) (cwV 1 hts (kx_gV kq_10_mprint_16 kq_10_mprint_17 kq_10_mprint_18 kq_04_msmall_6 kq_10_mprint_19 rfl) rfl rfl rfl (by decide +kernel) ⟨Nat.le_of_ble_eq_true rfl, Nat.le_of_ble_eq_true rfl⟩) hP hD hK hG hZ hS hA rfl hl.1 rfl (Nat.le_of_ble_eq_true rfl) dX6_putPart_169 ⟨Nat.le_of_ble_eq_true rfl, Nat.le_of_ble_eq_true rfl⟩ (fun I_185 F_186 H locs hq_184 hP hD hS => ?_)
                        try dsimp only at hq_184
                        have hX187 := hq_184.2.2.2
                        rw [pt_wM_fr (hac_182.2 4 (by decide)) (hac_182.2 5 (by decide))] at hX187
                        have hq_184 := (⟨hq_184.1, hq_184.2.1, hq_184.2.2.1⟩ : _ ∧ _ ∧ _)
                        obtain ⟨hB188, hf188, hd188⟩ := hq_184
                        have hp188 := mPS.put hpJ hf188 hd188
                        have hY187 := pt_X_app hX9 hX187
                        refine lv_goto (tgt := 203) hx hb dX6_putPart_172 (by decide) ?_
                        refine lv_goto (tgt := 19) hx hb dX6_putPart_203 (by decide) ?_
                        exact ih19 (k + 2) I_185 F_186 ⟨hB188, (hfJ.tr (hf188.mono (by decide) (by decide))), hp188, by omega, ⟨Y9 ++ (pt_mw (pt_wM F p1) (pt_pM (I 1) F p1) (pt_sM (I 1) F p1) (pt_of pt) (pt_gM I F p1)) (F 36 (k + 1)), pt_X_eq hY187 (by rw [pt_l_app, pt_mw_119 (show F 36 (k + 1) = 119 by omega) (show ¬ pt_of pt = 0 from (by rw [show pt_of pt = 1 from if_pos (by omega)]; decide))]; try rfl), (by rw [hY9, pt_pt_mark hkn h37, if_pos rfl, hmw, List.append_assoc])⟩, (hnb2.symm.trans hnb), hft2⟩ (by omega) _ _ hP hD hS ls (lv_sub hl [1, 3, 4, 5] rfl)
                  · omega
            · skip
              refine lv_aload_n hx hb dX6_putPart_77 rfl (lv_at hl 2 rfl) ?_
              refine lv_iload_n hx hb dX6_putPart_78 rfl (lv_at hl 4 rfl) ?_
              have hac_189 : mfr [29, 31, 32, 33, 35, 42, 43] [20, 21, 22, 23, 24, 25, 26, 27, 28, 34, 41] I F J G := hfJ
              refine mk_calli (As := [.int (iz p1)]) (rest := []) ⟨hx, hb, hml, hown, hts⟩ (k_groupOf2 l dC dI mo ma cs J G p1 H.size hBJ (by rw [(hac_189.1 1 (by decide))]; exact hc) (fun e => by rw [(hac_189.2 5 (by decide))]; exact hn e) (hlv.fr (hac_189.1 1 (by decide)) (hac_189.2 2 (by decide)) (hac_189.2 3 (by decide))) (by rw [(hac_189.1 1 (by decide))]; exact mSm.fr hsm (hac_189.2 17 (by decide)) (hac_189.2 2 (by decide))) (by rw [hac_189.1 1 (by decide)]; exact h0) (by intro e a b; have h9 := hsgs e a (by have h9 := hac_189.1 1 (by decide); have h8 : e < J 1 := b; omega); intro i c d; rw [hac_189.2 5 (by decide)] at d; rw [hac_189.2 4 (by decide)]; exact h9 i c d) (by rw [hac_189.1 14 (by decide)]; exact hdg) (by rw [hac_189.1 15 (by decide)]; exact hwd)) (cwV 1 hts (kx_gV kq_10_mprint_28 kq_10_mprint_29 kq_10_mprint_30 kq_04_msmall_6 kq_10_mprint_31 rfl) rfl rfl rfl (by decide +kernel) ⟨Nat.le_of_ble_eq_true rfl, Nat.le_of_ble_eq_true rfl⟩) hP hD hK hG hZ hS hA rfl hl.1 rfl (Nat.le_of_ble_eq_true rfl) dX6_putPart_79 ⟨Nat.le_of_ble_eq_true rfl, Nat.le_of_ble_eq_true rfl⟩ (fun z_190 I_192 F_193 H locs hq_191 hP hD hS => ?_)
              try dsimp only at hq_191
              have hgr := hq_191.2.2.2.2
              have hfs := hq_191.2.2.1
              have hq_191 := (⟨hq_191.1, hq_191.2.1, hq_191.2.2.1, hq_191.2.2.2.1⟩ : _ ∧ _ ∧ _ ∧ _)
              obtain ⟨rfl, hB194, hf194, hr194⟩ := hq_191
              have hp194 := mPS.scr hpJ hf194
              have hgM : z_190 = pt_gM I F p1 := (show z_190 = pt_gM J G p1 from hgr).trans (pt_gM_fr (hac_189.1 14 (by decide)) (hac_189.1 15 (by decide)) (hac_189.2 2 (by decide)) (hac_189.2 3 (by decide)) (hac_189.2 17 (by decide)) (hac_189.2 4 (by decide)) (hac_189.2 5 (by decide)))
              have hgrg : z_190 = 0 ∨ z_190 = 1 ∨ 97 ≤ z_190 := by rw [hgM]; exact sn_g_rg _
              replace hgr := fun (_ : Unit) => hgr
              have hXs : pt_X (F 41) (I 42) (I 43) (pt_l Y9) (F_193 41) (J 42) (J 43) := (by rw [hfs.2 41 (by decide)]; exact hX9)
              refine lv_goto (tgt := 86) hx hb dX6_putPart_82 (by decide) ?_
              refine lv_istore (lv' := [(5, .int (iz z_190)), (3, .int (iz (k + 2))), (4, .int (iz (G 36 (k + 1)))), (0, .ref mo), (1, .int (iz pt)), (2, .int (iz p1))]) hx hb dX6_putPart_86 hl (by decide) rfl (fun ls hl => ?_)
              refine lv_iload hx hb dX6_putPart_88 (lv_at hl 2 rfl) ?_
              refine lv_bipush (v := iz 110) hx hb dX6_putPart_90 (by decide) ?_
              refine ki_icmp_eq (tgt := 109) hx hb dX6_putPart_92 (by decide) (by omega) (by omega) (by omega) (by omega) (fun c_195 => ?_) (fun c_195 => ?_)
              · skip
                refine lv_aload_n hx hb dX6_putPart_109 rfl (lv_at hl 3 rfl) ?_
                refine lv_iload hx hb dX6_putPart_110 (lv_at hl 2 rfl) ?_
                refine lv_bipush (v := iz 110) hx hb dX6_putPart_112 (by decide) ?_
                refine ki_icmp_ne (tgt := 122) hx hb dX6_putPart_114 (by decide) (by omega) (by omega) (by omega) (by omega) (fun c_196 => ?_) (fun c_196 => ?_)
                · omega
                · skip
                  refine lv_bipush (v := iz 10) hx hb dX6_putPart_117 (by decide) ?_
                  refine lv_goto (tgt := 150) hx hb dX6_putPart_119 (by decide) ?_
                  have hac_197 : mfr [29, 31, 32, 33, 35, 42, 43] [20, 21, 22, 23, 24, 25, 26, 27, 28, 34, 41] I F J F_193 := (hfJ.tr (hf194.mono (by decide) (by decide)))
                  refine mk_callv (As := [.int (iz 10)]) (rest := []) ⟨hx, hb, hml, hown, hts⟩ (k_put2 l dC dI mo ma cs J F_193 10 H.size hB194 hp194.1) (cwV 1 hts (kx_gV kq_09_mput_12 kq_09_mput_13 kq_09_mput_14 kq_04_msmall_6 kq_09_mput_15 rfl) rfl rfl rfl (by decide +kernel) ⟨Nat.le_of_ble_eq_true rfl, Nat.le_of_ble_eq_true rfl⟩) hP hD hK hG hZ hS hA rfl hl.1 rfl (Nat.le_of_ble_eq_true rfl) dX6_putPart_150 ⟨Nat.le_of_ble_eq_true rfl, Nat.le_of_ble_eq_true rfl⟩ (fun I_200 F_201 H locs hq_199 hP hD hS => ?_)
                  try dsimp only at hq_199
                  have hX202 := hq_199.2.2.2
                  have hq_199 := (⟨hq_199.1, hq_199.2.1, hq_199.2.2.1⟩ : _ ∧ _ ∧ _)
                  obtain ⟨hB203, hf203, hd203⟩ := hq_199
                  have hp203 := mPS.put hp194 hf203 hd203
                  have hY202 := pt_X_app hXs hX202
                  refine lv_goto (tgt := 203) hx hb dX6_putPart_153 (by decide) ?_
                  refine lv_goto (tgt := 19) hx hb dX6_putPart_203 (by decide) ?_
                  exact ih19 (k + 2) I_200 F_201 ⟨hB203, ((hfJ.tr (hf194.mono (by decide) (by decide))).tr (hf203.mono (by decide) (by decide))), hp203, by omega, ⟨Y9 ++ (pt_mw (pt_wM F p1) (pt_pM (I 1) F p1) (pt_sM (I 1) F p1) (pt_of pt) (pt_gM I F p1)) (F 36 (k + 1)), pt_X_eq hY202 (by rw [pt_l_app, pt_mw_110 (show F 36 (k + 1) = 110 by omega)]; try rfl), (by rw [hY9, pt_pt_mark hkn h37, if_pos rfl, hmw, List.append_assoc])⟩, (hnb2.symm.trans hnb), hft2⟩ (by omega) _ _ hP hD hS ls (lv_sub hl [1, 3, 4, 5] rfl)
              · skip
                refine lv_iload hx hb dX6_putPart_95 (lv_at hl 2 rfl) ?_
                refine lv_bipush (v := iz 37) hx hb dX6_putPart_97 (by decide) ?_
                refine ki_icmp_eq (tgt := 109) hx hb dX6_putPart_99 (by decide) (by omega) (by omega) (by omega) (by omega) (fun c_204 => ?_) (fun c_204 => ?_)
                · skip
                  refine lv_aload_n hx hb dX6_putPart_109 rfl (lv_at hl 3 rfl) ?_
                  refine lv_iload hx hb dX6_putPart_110 (lv_at hl 2 rfl) ?_
                  refine lv_bipush (v := iz 110) hx hb dX6_putPart_112 (by decide) ?_
                  refine ki_icmp_ne (tgt := 122) hx hb dX6_putPart_114 (by decide) (by omega) (by omega) (by omega) (by omega) (fun c_205 => ?_) (fun c_205 => ?_)
                  · skip
                    refine lv_iload hx hb dX6_putPart_122 (lv_at hl 2 rfl) ?_
                    refine lv_bipush (v := iz 37) hx hb dX6_putPart_124 (by decide) ?_
                    refine ki_icmp_ne (tgt := 134) hx hb dX6_putPart_126 (by decide) (by omega) (by omega) (by omega) (by omega) (fun c_206 => ?_) (fun c_206 => ?_)
                    · omega
                    · skip
                      refine lv_bipush (v := iz 37) hx hb dX6_putPart_129 (by decide) ?_
                      refine lv_goto (tgt := 150) hx hb dX6_putPart_131 (by decide) ?_
                      have hac_207 : mfr [29, 31, 32, 33, 35, 42, 43] [20, 21, 22, 23, 24, 25, 26, 27, 28, 34, 41] I F J F_193 := (hfJ.tr (hf194.mono (by decide) (by decide)))
                      refine mk_callv (As := [.int (iz 37)]) (rest := []) ⟨hx, hb, hml, hown, hts⟩ (k_put2 l dC dI mo ma cs J F_193 37 H.size hB194 hp194.1) (cwV 1 hts (kx_gV kq_09_mput_12 kq_09_mput_13 kq_09_mput_14 kq_04_msmall_6 kq_09_mput_15 rfl) rfl rfl rfl (by decide +kernel) ⟨Nat.le_of_ble_eq_true rfl, Nat.le_of_ble_eq_true rfl⟩) hP hD hK hG hZ hS hA rfl hl.1 rfl (Nat.le_of_ble_eq_true rfl) dX6_putPart_150 ⟨Nat.le_of_ble_eq_true rfl, Nat.le_of_ble_eq_true rfl⟩ (fun I_210 F_211 H locs hq_209 hP hD hS => ?_)
                      try dsimp only at hq_209
                      have hX212 := hq_209.2.2.2
                      have hq_209 := (⟨hq_209.1, hq_209.2.1, hq_209.2.2.1⟩ : _ ∧ _ ∧ _)
                      obtain ⟨hB213, hf213, hd213⟩ := hq_209
                      have hp213 := mPS.put hp194 hf213 hd213
                      have hY212 := pt_X_app hXs hX212
                      refine lv_goto (tgt := 203) hx hb dX6_putPart_153 (by decide) ?_
                      refine lv_goto (tgt := 19) hx hb dX6_putPart_203 (by decide) ?_
                      exact ih19 (k + 2) I_210 F_211 ⟨hB213, ((hfJ.tr (hf194.mono (by decide) (by decide))).tr (hf213.mono (by decide) (by decide))), hp213, by omega, ⟨Y9 ++ (pt_mw (pt_wM F p1) (pt_pM (I 1) F p1) (pt_sM (I 1) F p1) (pt_of pt) (pt_gM I F p1)) (F 36 (k + 1)), pt_X_eq hY212 (by rw [pt_l_app, pt_mw_37 (show F 36 (k + 1) = 37 by omega)]; try rfl), (by rw [hY9, pt_pt_mark hkn h37, if_pos rfl, hmw, List.append_assoc])⟩, (hnb2.symm.trans hnb), hft2⟩ (by omega) _ _ hP hD hS ls (lv_sub hl [1, 3, 4, 5] rfl)
                  · omega
                · skip
                  refine lv_iload hx hb dX6_putPart_102 (lv_at hl 2 rfl) ?_
                  refine lv_bipush (v := iz 103) hx hb dX6_putPart_104 (by decide) ?_
                  refine ki_icmp_ne (tgt := 156) hx hb dX6_putPart_106 (by decide) (by omega) (by omega) (by omega) (by omega) (fun c_214 => ?_) (fun c_214 => ?_)
                  · skip
                    refine lv_iload_n hx hb dX6_putPart_156 rfl (lv_at hl 4 rfl) ?_
                    refine ki_if_le (tgt := 175) hx hb dX6_putPart_157 (by decide) (by omega) (by omega) (fun c_215 => ?_) (fun c_215 => ?_)
                    · skip
                      refine lv_iload_n hx hb dX6_putPart_175 rfl (lv_at hl 4 rfl) ?_
                      refine ki_if_le (tgt := 194) hx hb dX6_putPart_176 (by decide) (by omega) (by omega) (fun c_216 => ?_) (fun c_216 => ?_)
                      · skip
                        refine lv_iload_n hx hb dX6_putPart_194 rfl (lv_at hl 4 rfl) ?_
                        refine ki_if_le (tgt := 203) hx hb dX6_putPart_195 (by decide) (by omega) (by omega) (fun c_217 => ?_) (fun c_217 => ?_)
                        · skip
                          refine lv_goto (tgt := 19) hx hb dX6_putPart_203 (by decide) ?_
                          exact ih19 (k + 2) J F_193 ⟨hB194, (hfJ.tr (hf194.mono (by decide) (by decide))), hp194, by omega, ⟨Y9 ++ (pt_mw (pt_wM F p1) (pt_pM (I 1) F p1) (pt_sM (I 1) F p1) (pt_of pt) (pt_gM I F p1)) (F 36 (k + 1)), pt_X_eq hXs (by rw [pt_l_app, pt_mw_0 (show ¬ F 36 (k + 1) = 37 by omega) (show ¬ F 36 (k + 1) = 110 by omega) (show ¬ F 36 (k + 1) = 103 by omega) (Or.inl (show pt_of pt = 0 from if_neg (by omega)))]; exact List.append_nil _), (by rw [hY9, pt_pt_mark hkn h37, if_pos rfl, hmw, List.append_assoc])⟩, (hnb2.symm.trans hnb), hft2⟩ (by omega) _ _ hP hD hS ls (lv_sub hl [1, 3, 4, 5] rfl)
                        · omega
                      · omega
                    · skip
                      refine lv_iload hx hb dX6_putPart_160 (lv_at hl 2 rfl) ?_
                      refine lv_bipush (v := iz 119) hx hb dX6_putPart_162 (by decide) ?_
                      refine ki_icmp_ne (tgt := 175) hx hb dX6_putPart_164 (by decide) (by omega) (by omega) (by omega) (by omega) (fun c_218 => ?_) (fun c_218 => ?_)
                      · skip
                        refine lv_iload_n hx hb dX6_putPart_175 rfl (lv_at hl 4 rfl) ?_
                        refine ki_if_le (tgt := 194) hx hb dX6_putPart_176 (by decide) (by omega) (by omega) (fun c_219 => ?_) (fun c_219 => ?_)
                        · omega
                        · skip
                          refine lv_iload hx hb dX6_putPart_179 (lv_at hl 2 rfl) ?_
                          refine lv_bipush (v := iz 112) hx hb dX6_putPart_181 (by decide) ?_
                          refine ki_icmp_ne (tgt := 194) hx hb dX6_putPart_183 (by decide) (by omega) (by omega) (by omega) (by omega) (fun c_220 => ?_) (fun c_220 => ?_)
                          · skip
                            refine lv_iload_n hx hb dX6_putPart_194 rfl (lv_at hl 4 rfl) ?_
                            refine ki_if_le (tgt := 203) hx hb dX6_putPart_195 (by decide) (by omega) (by omega) (fun c_221 => ?_) (fun c_221 => ?_)
                            · omega
                            · skip
                              refine lv_aload_n hx hb dX6_putPart_198 rfl (lv_at hl 3 rfl) ?_
                              refine lv_iload_n hx hb dX6_putPart_199 rfl (lv_at hl 5 rfl) ?_
                              have hac_222 : mfr [29, 31, 32, 33, 35, 42, 43] [20, 21, 22, 23, 24, 25, 26, 27, 28, 34, 41] I F J F_193 := (hfJ.tr (hf194.mono (by decide) (by decide)))
                              refine mk_callv (As := [.int (iz p1)]) (rest := []) ⟨hx, hb, hml, hown, hts⟩ (k_putShown2 l dC dI mo ma cs J F_193 p1 H.size hB194 (by rw [(hac_222.1 1 (by decide))]; exact hc) (fun e => by rw [(hac_222.2 5 (by decide))]; exact hn e) (fun e => by rw [(hac_222.2 13 (by decide))]; exact hmy e) (by rw [(hac_222.1 1 (by decide))]; exact mSm.fr hsm (hac_222.2 17 (by decide)) (hac_222.2 2 (by decide))) (fun e k x1 x2 x3 x4 => by rw [(hac_222.1 1 (by decide))] at x2 ⊢; rw [(hac_222.2 13 (by decide))] at x4; rw [(hac_222.2 12 (by decide))]; exact hse e k x1 x2 x3 x4) (by rw [(hac_222.1 1 (by decide)), (hac_222.2 13 (by decide))]; exact hsu) hp194.1 (by omega) (by omega)) (cwV 1 hts (kx_gV kq_10_mprint_20 kq_10_mprint_21 kq_10_mprint_22 kq_04_msmall_6 kq_10_mprint_23 rfl) rfl rfl rfl (by decide +kernel) ⟨Nat.le_of_ble_eq_true rfl, Nat.le_of_ble_eq_true rfl⟩) hP hD hK hG hZ hS hA rfl hl.1 rfl (Nat.le_of_ble_eq_true rfl) dX6_putPart_200 ⟨Nat.le_of_ble_eq_true rfl, Nat.le_of_ble_eq_true rfl⟩ (fun I_225 F_226 H locs hq_224 hP hD hS => ?_)
                              try dsimp only at hq_224
                              have hX227 := hq_224.2.2.2
                              rw [pt_sM_fr (hac_222.1 1 (by decide)) (hac_222.2 4 (by decide)) (hac_222.2 5 (by decide)) (hac_222.2 17 (by decide)) (hac_222.2 13 (by decide)) (hac_222.2 12 (by decide))] at hX227
                              have hq_224 := (⟨hq_224.1, hq_224.2.1, hq_224.2.2.1⟩ : _ ∧ _ ∧ _)
                              obtain ⟨hB228, hf228, hd228⟩ := hq_224
                              have hp228 := mPS.shw hp194 hf228 hd228
                              have hY227 := pt_X_app hXs hX227
                              refine lv_goto (tgt := 19) hx hb dX6_putPart_203 (by decide) ?_
                              exact ih19 (k + 2) I_225 F_226 ⟨hB228, ((hfJ.tr (hf194.mono (by decide) (by decide))).tr (hf228.mono (by decide) (by decide))), hp228, by omega, ⟨Y9 ++ (pt_mw (pt_wM F p1) (pt_pM (I 1) F p1) (pt_sM (I 1) F p1) (pt_of pt) (pt_gM I F p1)) (F 36 (k + 1)), pt_X_eq hY227 (by rw [pt_l_app, pt_mw_115 (show F 36 (k + 1) = 115 from (by have h9 := hmk (); omega)) (show ¬ pt_of pt = 0 from (by rw [show pt_of pt = 1 from if_pos (by omega)]; decide))]; try rfl), (by rw [hY9, pt_pt_mark hkn h37, if_pos rfl, hmw, List.append_assoc])⟩, (hnb2.symm.trans hnb), hft2⟩ (by omega) _ _ hP hD hS ls (lv_sub hl [1, 3, 4, 5] rfl)
                          · skip
                            refine lv_aload_n hx hb dX6_putPart_186 rfl (lv_at hl 3 rfl) ?_
                            refine lv_iload_n hx hb dX6_putPart_187 rfl (lv_at hl 5 rfl) ?_
                            have hac_229 : mfr [29, 31, 32, 33, 35, 42, 43] [20, 21, 22, 23, 24, 25, 26, 27, 28, 34, 41] I F J F_193 := (hfJ.tr (hf194.mono (by decide) (by decide)))
                            refine mk_callv (As := [.int (iz p1)]) (rest := []) ⟨hx, hb, hml, hown, hts⟩ (k_putAll2 l dC dI mo ma cs J F_193 p1 H.size hB194 (by rw [(hac_229.1 1 (by decide))]; exact hc) (fun e => by rw [(hac_229.2 10 (by decide)), (hac_229.2 11 (by decide))]; exact hln e) (fun j => by rw [(hac_229.2 7 (by decide)), (hac_229.2 8 (by decide))]; exact hmf j) hp194 (by omega) (by omega) (by intro e a b x hx; rw [lo_R_fr (hac_229.2 6 (by decide)) (hac_229.2 7 (by decide)) (hac_229.2 8 (by decide)) (hac_229.2 9 (by decide)) (hac_229.2 10 (by decide)) (hac_229.2 11 (by decide))] at hx; exact hRv e a (by have h9 := hac_229.1 1 (by decide); have h8 : e < J 1 := b; omega) x hx)) (cwV 1 hts (kx_gV kq_10_mprint_24 kq_10_mprint_25 kq_10_mprint_26 kq_04_msmall_6 kq_10_mprint_27 rfl) rfl rfl rfl (by decide +kernel) ⟨Nat.le_of_ble_eq_true rfl, Nat.le_of_ble_eq_true rfl⟩) hP hD hK hG hZ hS hA rfl hl.1 rfl (Nat.le_of_ble_eq_true rfl) dX6_putPart_188 ⟨Nat.le_of_ble_eq_true rfl, Nat.le_of_ble_eq_true rfl⟩ (fun I_232 F_233 H locs hq_231 hP hD hS => ?_)
                            try dsimp only at hq_231
                            have hX234 := hq_231.2.2.2
                            rw [pt_pM_fr (hac_229.1 1 (by decide)) (hac_229.2 17 (by decide)) (hac_229.2 6 (by decide)) (hac_229.2 7 (by decide)) (hac_229.2 8 (by decide)) (hac_229.2 9 (by decide)) (hac_229.2 10 (by decide)) (hac_229.2 11 (by decide))] at hX234
                            have hq_231 := (⟨hq_231.1, hq_231.2.1, hq_231.2.2.1⟩ : _ ∧ _ ∧ _)
                            obtain ⟨hB235, hf235, hp235⟩ := hq_231
                            have hY234 := pt_X_app hXs hX234
                            refine lv_goto (tgt := 203) hx hb dX6_putPart_191 (by decide) ?_
                            refine lv_goto (tgt := 19) hx hb dX6_putPart_203 (by decide) ?_
                            exact ih19 (k + 2) I_232 F_233 ⟨hB235, ((hfJ.tr (hf194.mono (by decide) (by decide))).tr (hf235.mono (by decide) (by decide))), hp235, by omega, ⟨Y9 ++ (pt_mw (pt_wM F p1) (pt_pM (I 1) F p1) (pt_sM (I 1) F p1) (pt_of pt) (pt_gM I F p1)) (F 36 (k + 1)), pt_X_eq hY234 (by rw [pt_l_app, pt_mw_112 (show F 36 (k + 1) = 112 by omega) (show ¬ pt_of pt = 0 from (by rw [show pt_of pt = 1 from if_pos (by omega)]; decide))]; try rfl), (by rw [hY9, pt_pt_mark hkn h37, if_pos rfl, hmw, List.append_assoc])⟩, (hnb2.symm.trans hnb), hft2⟩ (by omega) _ _ hP hD hS ls (lv_sub hl [1, 3, 4, 5] rfl)
                      · skip
                        refine lv_aload_n hx hb dX6_putPart_167 rfl (lv_at hl 3 rfl) ?_
                        refine lv_iload_n hx hb dX6_putPart_168 rfl (lv_at hl 5 rfl) ?_
                        have hac_236 : mfr [29, 31, 32, 33, 35, 42, 43] [20, 21, 22, 23, 24, 25, 26, 27, 28, 34, 41] I F J F_193 := (hfJ.tr (hf194.mono (by decide) (by decide)))
                        refine mk_callv (As := [.int (iz p1)]) (rest := []) ⟨hx, hb, hml, hown, hts⟩ (k_putSigns2 l dC dI mo ma cs J F_193 p1 H.size hB194 hp194.1 (fun e => by rw [(hac_236.2 5 (by decide))]; exact hn e) (by omega)) (cwV 1 hts (kx_gV kq_10_mprint_16 kq_10_mprint_17 kq_10_mprint_18 kq_04_msmall_6 kq_10_mprint_19 rfl) rfl rfl rfl (by decide +kernel) ⟨Nat.le_of_ble_eq_true rfl, Nat.le_of_ble_eq_true rfl⟩) hP hD hK hG hZ hS hA rfl hl.1 rfl (Nat.le_of_ble_eq_true rfl) dX6_putPart_169 ⟨Nat.le_of_ble_eq_true rfl, Nat.le_of_ble_eq_true rfl⟩ (fun I_239 F_240 H locs hq_238 hP hD hS => ?_)
                        try dsimp only at hq_238
                        have hX241 := hq_238.2.2.2
                        rw [pt_wM_fr (hac_236.2 4 (by decide)) (hac_236.2 5 (by decide))] at hX241
                        have hq_238 := (⟨hq_238.1, hq_238.2.1, hq_238.2.2.1⟩ : _ ∧ _ ∧ _)
                        obtain ⟨hB242, hf242, hd242⟩ := hq_238
                        have hp242 := mPS.put hp194 hf242 hd242
                        have hY241 := pt_X_app hXs hX241
                        refine lv_goto (tgt := 203) hx hb dX6_putPart_172 (by decide) ?_
                        refine lv_goto (tgt := 19) hx hb dX6_putPart_203 (by decide) ?_
                        exact ih19 (k + 2) I_239 F_240 ⟨hB242, ((hfJ.tr (hf194.mono (by decide) (by decide))).tr (hf242.mono (by decide) (by decide))), hp242, by omega, ⟨Y9 ++ (pt_mw (pt_wM F p1) (pt_pM (I 1) F p1) (pt_sM (I 1) F p1) (pt_of pt) (pt_gM I F p1)) (F 36 (k + 1)), pt_X_eq hY241 (by rw [pt_l_app, pt_mw_119 (show F 36 (k + 1) = 119 by omega) (show ¬ pt_of pt = 0 from (by rw [show pt_of pt = 1 from if_pos (by omega)]; decide))]; try rfl), (by rw [hY9, pt_pt_mark hkn h37, if_pos rfl, hmw, List.append_assoc])⟩, (hnb2.symm.trans hnb), hft2⟩ (by omega) _ _ hP hD hS ls (lv_sub hl [1, 3, 4, 5] rfl)
                  · skip
                    refine lv_aload_n hx hb dX6_putPart_109 rfl (lv_at hl 3 rfl) ?_
                    refine lv_iload hx hb dX6_putPart_110 (lv_at hl 2 rfl) ?_
                    refine lv_bipush (v := iz 110) hx hb dX6_putPart_112 (by decide) ?_
                    refine ki_icmp_ne (tgt := 122) hx hb dX6_putPart_114 (by decide) (by omega) (by omega) (by omega) (by omega) (fun c_243 => ?_) (fun c_243 => ?_)
                    · skip
                      refine lv_iload hx hb dX6_putPart_122 (lv_at hl 2 rfl) ?_
                      refine lv_bipush (v := iz 37) hx hb dX6_putPart_124 (by decide) ?_
                      refine ki_icmp_ne (tgt := 134) hx hb dX6_putPart_126 (by decide) (by omega) (by omega) (by omega) (by omega) (fun c_244 => ?_) (fun c_244 => ?_)
                      · skip
                        refine lv_iload hx hb dX6_putPart_134 (lv_at hl 0 rfl) ?_
                        refine lv_iconst (v := iz 2) hx hb dX6_putPart_136 (by decide) ?_
                        refine ki_icmp_ge (tgt := 148) hx hb dX6_putPart_137 (by decide) (by omega) (by omega) (by omega) (by omega) (fun c_245 => ?_) (fun c_245 => ?_)
                        · skip
                          refine lv_iload hx hb dX6_putPart_148 (lv_at hl 0 rfl) ?_
                          have hac_246 : mfr [29, 31, 32, 33, 35, 42, 43] [20, 21, 22, 23, 24, 25, 26, 27, 28, 34, 41] I F J F_193 := (hfJ.tr (hf194.mono (by decide) (by decide)))
                          refine mk_callv (As := [.int (iz z_190)]) (rest := []) ⟨hx, hb, hml, hown, hts⟩ (k_put2 l dC dI mo ma cs J F_193 z_190 H.size hB194 hp194.1) (cwV 1 hts (kx_gV kq_09_mput_12 kq_09_mput_13 kq_09_mput_14 kq_04_msmall_6 kq_09_mput_15 rfl) rfl rfl rfl (by decide +kernel) ⟨Nat.le_of_ble_eq_true rfl, Nat.le_of_ble_eq_true rfl⟩) hP hD hK hG hZ hS hA rfl hl.1 rfl (Nat.le_of_ble_eq_true rfl) dX6_putPart_150 ⟨Nat.le_of_ble_eq_true rfl, Nat.le_of_ble_eq_true rfl⟩ (fun I_249 F_250 H locs hq_248 hP hD hS => ?_)
                          try dsimp only at hq_248
                          have hX251 := hq_248.2.2.2
                          have hq_248 := (⟨hq_248.1, hq_248.2.1, hq_248.2.2.1⟩ : _ ∧ _ ∧ _)
                          obtain ⟨hB252, hf252, hd252⟩ := hq_248
                          have hp252 := mPS.put hp194 hf252 hd252
                          have hY251 := pt_X_app hXs hX251
                          refine lv_goto (tgt := 203) hx hb dX6_putPart_153 (by decide) ?_
                          refine lv_goto (tgt := 19) hx hb dX6_putPart_203 (by decide) ?_
                          exact ih19 (k + 2) I_249 F_250 ⟨hB252, ((hfJ.tr (hf194.mono (by decide) (by decide))).tr (hf252.mono (by decide) (by decide))), hp252, by omega, ⟨Y9 ++ (pt_mw (pt_wM F p1) (pt_pM (I 1) F p1) (pt_sM (I 1) F p1) (pt_of pt) (pt_gM I F p1)) (F 36 (k + 1)), pt_X_eq hY251 (by rw [pt_l_app, pt_mw_103b (show F 36 (k + 1) = 103 by omega) (by rw [← hgM]; omega)]; rw [← hgM]; try rfl), (by rw [hY9, pt_pt_mark hkn h37, if_pos rfl, hmw, List.append_assoc])⟩, (hnb2.symm.trans hnb), hft2⟩ (by omega) _ _ hP hD hS ls (lv_sub hl [1, 3, 4, 5] rfl)
                        · skip
                          refine lv_bipush (v := iz 48) hx hb dX6_putPart_140 (by decide) ?_
                          refine lv_iload hx hb dX6_putPart_142 (lv_at hl 0 rfl) ?_
                          refine ki_iadd hx hb dX6_putPart_144 ?_
                          refine lv_goto (tgt := 150) hx hb dX6_putPart_145 (by decide) ?_
                          have hac_253 : mfr [29, 31, 32, 33, 35, 42, 43] [20, 21, 22, 23, 24, 25, 26, 27, 28, 34, 41] I F J F_193 := (hfJ.tr (hf194.mono (by decide) (by decide)))
                          refine mk_callv (As := [.int (iz (48 + z_190))]) (rest := []) ⟨hx, hb, hml, hown, hts⟩ (k_put2 l dC dI mo ma cs J F_193 (48 + z_190) H.size hB194 hp194.1) (cwV 1 hts (kx_gV kq_09_mput_12 kq_09_mput_13 kq_09_mput_14 kq_04_msmall_6 kq_09_mput_15 rfl) rfl rfl rfl (by decide +kernel) ⟨Nat.le_of_ble_eq_true rfl, Nat.le_of_ble_eq_true rfl⟩) hP hD hK hG hZ hS hA rfl hl.1 rfl (Nat.le_of_ble_eq_true rfl) dX6_putPart_150 ⟨Nat.le_of_ble_eq_true rfl, Nat.le_of_ble_eq_true rfl⟩ (fun I_256 F_257 H locs hq_255 hP hD hS => ?_)
                          try dsimp only at hq_255
                          have hX258 := hq_255.2.2.2
                          have hq_255 := (⟨hq_255.1, hq_255.2.1, hq_255.2.2.1⟩ : _ ∧ _ ∧ _)
                          obtain ⟨hB259, hf259, hd259⟩ := hq_255
                          have hp259 := mPS.put hp194 hf259 hd259
                          have hY258 := pt_X_app hXs hX258
                          refine lv_goto (tgt := 203) hx hb dX6_putPart_153 (by decide) ?_
                          refine lv_goto (tgt := 19) hx hb dX6_putPart_203 (by decide) ?_
                          exact ih19 (k + 2) I_256 F_257 ⟨hB259, ((hfJ.tr (hf194.mono (by decide) (by decide))).tr (hf259.mono (by decide) (by decide))), hp259, by omega, ⟨Y9 ++ (pt_mw (pt_wM F p1) (pt_pM (I 1) F p1) (pt_sM (I 1) F p1) (pt_of pt) (pt_gM I F p1)) (F 36 (k + 1)), pt_X_eq hY258 (by rw [pt_l_app, pt_mw_103a (show F 36 (k + 1) = 103 by omega) (by rw [← hgM]; omega)]; rw [← hgM]; try rfl), (by rw [hY9, pt_pt_mark hkn h37, if_pos rfl, hmw, List.append_assoc])⟩, (hnb2.symm.trans hnb), hft2⟩ (by omega) _ _ hP hD hS ls (lv_sub hl [1, 3, 4, 5] rfl)
                      · omega
                    · omega
          · skip
            refine lv_aload_n hx hb dX6_putPart_44 rfl (lv_at hl 2 rfl) ?_
            refine lv_iload hx hb dX6_putPart_45 (lv_at hl 0 rfl) ?_
            have hac_260 : mfr [29, 31, 32, 33, 35, 42, 43] [20, 21, 22, 23, 24, 25, 26, 27, 28, 34, 41] I F J G := hfJ
            refine mk_callv (As := [.int (iz (G 36 k))]) (rest := []) ⟨hx, hb, hml, hown, hts⟩ (k_put2 l dC dI mo ma cs J G (G 36 k) H.size hBJ hpJ.1) (cwV 1 hts (kx_gV kq_09_mput_12 kq_09_mput_13 kq_09_mput_14 kq_04_msmall_6 kq_09_mput_15 rfl) rfl rfl rfl (by decide +kernel) ⟨Nat.le_of_ble_eq_true rfl, Nat.le_of_ble_eq_true rfl⟩) hP hD hK hG hZ hS hA rfl hl.1 rfl (Nat.le_of_ble_eq_true rfl) dX6_putPart_47 ⟨Nat.le_of_ble_eq_true rfl, Nat.le_of_ble_eq_true rfl⟩ (fun I_263 F_264 H locs hq_262 hP hD hS => ?_)
            try dsimp only at hq_262
            have hX265 := hq_262.2.2.2
            have hq_262 := (⟨hq_262.1, hq_262.2.1, hq_262.2.2.1⟩ : _ ∧ _ ∧ _)
            obtain ⟨hB266, hf266, hd266⟩ := hq_262
            have hp266 := mPS.put hpJ hf266 hd266
            have hY265 := pt_X_app hX9 hX265
            refine lv_iinc (v := iz (k + 1)) (lv' := [(3, .int (iz (k + 1))), (4, .int (iz (G 36 k))), (0, .ref mo), (1, .int (iz pt)), (2, .int (iz p1))]) hx hb dX6_putPart_50 hl (k := 1) rfl (iz_add k 1) (by decide) rfl (fun ls hl => ?_)
            refine lv_goto (tgt := 203) hx hb dX6_putPart_53 (by decide) ?_
            refine lv_goto (tgt := 19) hx hb dX6_putPart_203 (by decide) ?_
            exact ih19 (k + 1) I_263 F_264 ⟨hB266, (hfJ.tr (hf266.mono (by decide) (by decide))), hp266, by omega, ⟨Y9 ++ [F 36 k], pt_X_eq hY265 (by rw [pt_l_app, ← e36]; rfl), (by rw [hY9, pt_pt_sign hkn h124 (show ¬ F 36 k = 37 by omega), if_pos rfl, List.append_assoc])⟩, ((pt_nb_sign hkn h124 (show ¬ F 36 k = 37 by omega)).symm.trans hnb), ((pt_ft_sign hkn h124 (show ¬ F 36 k = 37 by omega)).symm.trans hft9)⟩ (by omega) _ _ hP hD hS ls (lv_sub hl [0, 2, 3, 4] rfl)
    exact lp19 _ 0 I F ⟨hB, mfr.rf, hps, (by have h9 := (hBr.1 pt (by omega) (by omega)).1; rw [show pt_st (F 38) pt = 0 from if_pos (by omega)] at h9; omega), ⟨[], pt_X_eq hX0 rfl, (by rw [List.nil_append]; have h9 := pt_Br_part hBr (pt_mw (pt_wM F p1) (pt_pM (I 1) F p1) (pt_sM (I 1) F p1) (pt_of pt) (pt_gM I F p1)) hpt.1 hpt.2; rw [show pt_st (F 38) pt = 0 from if_pos (by omega)] at h9; exact h9)⟩, (by have h9 := (hBr.1 pt (by omega) (by omega)).2; rw [show pt_st (F 38) pt = 0 from if_pos (by omega)] at h9; exact h9), (by have h9 := hBr.2.2.2 pt (by omega) (by omega); rw [show pt_st (F 38) pt = 0 from if_pos (by omega)] at h9; exact h9)⟩ (Nat.lt_succ_self _) _ _ hP hD hS ls (lv_sub hl [0, 1, 2, 3] rfl)
set_option maxHeartbeats 4000000 in
set_option maxRecDepth 100000 in
theorem k_print3 (l : Launch) (dC : Nat → ClassId) (dI : Nat → Nat → Nat) (mo : Nat) (ma : Nat → Nat) (cs : Nat → ClassId) (I : Nat → Int) (F : Nat → Int → Int) (sz : Nat) (hI : mIv I F) (hKb : mKb I F) (hRv : ∀ e, 0 ≤ e → e < I 1 → ∀ x, x ∈ lo_R F e → lo_v x) : mMi l yX6_print (.code yX6_print cX6_print 5 (some .int)) 6 136 dC dI mo ma cs I F [.ref mo] sz (fun (r : Int) (I' : Nat → Int) (F' : Nat → Int → Int) => mWk I F I' F' ∧ mKb I' F' ∧ ((0 ≤ pt_ft (F 36) (I 37) (I 37).toNat 0 0 ∧ I' 0 = 0 ∧ r = -1 - pt_ft (F 36) (I 37) (I 37).toNat 0 0 ∧ I' 40 = I 40 ∧ F' 39 = F 39) ∨ (pt_ft (F 36) (I 37) (I 37).toNat 0 0 = -1 ∧ I' 16 = 1 ∧ ((I' 0 = 1 ∧ 6000 < (pt_aM I' F' (I' 19).toNat).length ∧ I' 40 = I 40 ∧ F' 39 = F 39) ∨ (I' 0 = 0 ∧ r = I' 40 ∧ pt_h (pt_l (pt_aM I' F' (I' 19).toNat)) (F' 39) (I' 40) 0))))) := by
  refine Met.ofW (cc := cX6_print) (maxL := 5) (ret := (some .int)) (by decide) rfl ?_
  intro p e s m args below meth c s₁ B hml hv
  obtain ⟨rfl, hsz, hP, hK, hD0, hG, hZ⟩ := hv
  have hx := B.exec
  have hb := B.bytes
  have hr := B.returns
  have hts := kx_hts (a := ([.ref mo] : List Value).toArray) hG
  have hown : s.vm.findClass RX6 = some m.cls := findClass_of_methodNamed B.named
  have hlocks := B.notSynchronized
  subst hsz
  have hD := hD0.self (sz := s.heap.size)
  generalize hAe : va_A (mW mo ma cs I F) s.heap.size = A at hD hZ ⊢
  have hA : ∀ q : Nat, s.heap.size ≤ q → A q := fun q h => by rw [← hAe]; exact Or.inr h
  have hS : va_S A s.heap s.heap [] := va_S.rf
  have hl := lv_entry ([.ref mo]) (n := 5) (Nat.le_of_ble_eq_true rfl)
  rw [lg_entry_eq]
  generalize (lg_sl ([.ref mo]) ++ List.replicate (5 - (lg_sl ([.ref mo])).length) Slot.unset).toArray = ls at hl ⊢
  have hl : lv_has ls 5 [(0, .ref mo)] := hl
  generalize hQe : MQ below (mQi dC dI mo ma cs A (fun (r : Int) (I' : Nat → Int) (F' : Nat → Int → Int) => mWk I F I' F' ∧ mKb I' F' ∧ ((0 ≤ pt_ft (F 36) (I 37) (I 37).toNat 0 0 ∧ I' 0 = 0 ∧ r = -1 - pt_ft (F 36) (I 37) (I 37).toNat 0 0 ∧ I' 40 = I 40 ∧ F' 39 = F 39) ∨ (pt_ft (F 36) (I 37) (I 37).toNat 0 0 = -1 ∧ I' 16 = 1 ∧ ((I' 0 = 1 ∧ 6000 < (pt_aM I' F' (I' 19).toNat).length ∧ I' 40 = I 40 ∧ F' 39 = F 39) ∨ (I' 0 = 0 ∧ r = I' 40 ∧ pt_h (pt_l (pt_aM I' F' (I' 19).toNat)) (F' 39) (I' 40) 0)))))) ([.ref mo] : List Value).toArray s 0 0 A = QQ
  have hW0 : mWk I F I F := mWk.rf hI
  have hc0 := hI.hc
  refine lv_aload_n hx hb dX6_print_0 rfl (lv_at hl 0 rfl) ?_
  refine mk_calli (As := []) (rest := []) ⟨hx, hb, hml, hown, hts⟩ (k_findFault2 l dC dI mo ma cs I F  s.heap.size hI.hB hI.hst) (cwV 0 hts (kx_gV kq_11_mask_8 kq_11_mask_9 kq_11_mask_10 kq_04_msmall_6 kq_11_mask_11 rfl) rfl rfl rfl (by decide +kernel) ⟨Nat.le_of_ble_eq_true rfl, Nat.le_of_ble_eq_true rfl⟩) hP hD hK hG hZ hS hA rfl hl.1 rfl (Nat.le_of_ble_eq_true rfl) dX6_print_1 ⟨Nat.le_of_ble_eq_true rfl, Nat.le_of_ble_eq_true rfl⟩ (fun z_1 I_3 F_4 H locs hq_2 hP hD hS => ?_)
  try dsimp only at hq_2
  obtain ⟨hft, hBr1⟩ := hq_2.2.2.2.2.2
  have hff := hq_2.2.2.1
  have hfi := hq_2.1
  have hq_2 := (⟨hq_2.1, hq_2.2.1, hq_2.2.2.1, hq_2.2.2.2.1, hq_2.2.2.2.2.1⟩ : _ ∧ _ ∧ _ ∧ _ ∧ _)
  have hkb5 : mKb I_3 F_4 := (by have h9 := hq_2.2.2.1; rw [← hq_2.1]; exact hKb.fr h9 (by decide) (by decide))
  have hk6 : mWk I F I_3 F_4 ∧ _ := mWk.ff hI hq_2.1 hq_2.2.1 hq_2.2.2.1
  have hI6 : mIv I_3 F_4 := hI.go hk6.1
  have hw6 : mWk _ _ I_3 F_4 := hW0.tr hk6.1
  have e166 := hk6.2.1
  have e196 := hk6.2.2
  have hc6 := hI6.hc
  have hx6a := hk6.1.2.1.1 1 (by decide)
  have hrf := hq_2.2.2.2.1
  have hbr0 : z_1 = -1 → mBr 4 I_3 F_4 := fun h9 => by have h8 := hq_2.2.2.2.2 h9; rw [← hq_2.1]; exact h8
  refine lv_istore_n (lv' := [(1, .int (iz z_1)), (0, .ref mo)]) hx hb dX6_print_4 rfl hl (by decide) rfl (fun ls hl => ?_)
  refine lv_iload_n hx hb dX6_print_5 rfl (lv_at hl 0 rfl) ?_
  refine lv_iconst (v := iz (-1)) hx hb dX6_print_6 (by decide) ?_
  refine ki_icmp_eq (tgt := 19) hx hb dX6_print_7 (by decide) (by omega) (by omega) (by omega) (by omega) (fun c_7 => ?_) (fun c_7 => ?_)
  · skip
    have hbr1 := hbr0 (by omega)
    refine lv_aload_n hx hb dX6_print_19 rfl (lv_at hl 1 rfl) ?_
    refine mk_callv (As := []) (rest := []) ⟨hx, hb, hml, hown, hts⟩ (k_look2 l dC dI mo ma cs I_3 F_4  H.size hI6.hB hI6.hc hI6.hn hI6.hlv hI6.hkn hI6.hk01 hkb5.2 hkb5.1.1 hkb5.1.2.1 hkb5.1.2.2.1 hkb5.1.2.2.2) (cwV 0 hts (kx_gV kq_11_mask_0 kq_11_mask_1 kq_11_mask_2 kq_04_msmall_6 kq_11_mask_3 rfl) rfl rfl rfl (by decide +kernel) ⟨Nat.le_of_ble_eq_true rfl, Nat.le_of_ble_eq_true rfl⟩) hP hD hK hG hZ hS hA rfl hl.1 rfl (Nat.le_of_ble_eq_true rfl) dX6_print_20 ⟨Nat.le_of_ble_eq_true rfl, Nat.le_of_ble_eq_true rfl⟩ (fun I_10 F_11 H locs hq_9 hP hD hS => ?_)
    try dsimp only at hq_9
    have hlk := hq_9.1.2.1
    obtain ⟨hq_9, hkr13⟩ := hq_9
    have hkb13 : mKb I_10 F_11 := hkb5.look hq_9.2.1 (by decide) hkr13
    have hk14 : mWk I_3 F_4 I_10 F_11 := mWk.look hI6 hq_9
    have hI14 : mIv I_10 F_11 := hI6.go hk14
    have hw14 : mWk _ _ I_10 F_11 := hw6.tr hk14
    have e1614 : I_10 16 = 1 := hq_9.2.2.1
    have hc14 := hI14.hc
    obtain ⟨hsmL, hszL, hrwL⟩ := hI14.hkn (by omega)
    have hbr14 : mBr 4 I_10 F_11 := hbr1.eq (hq_9.2.1.1 37 (by decide)) (hq_9.2.1.2 38 (by decide))
    have hBr2 : pt_Br (F_11 36) (I_10 37) (F_11 38) := pt_Br_fr (hBr1 (by omega)) ((hlk.2 36 (by decide)).trans (hff.2 36 (by decide))) ((hlk.1 37 (by decide)).trans (congrFun hfi 37).symm) (hlk.2 38 (by decide))
    have hRv2 : ∀ e, 0 ≤ e → e < I_10 1 → ∀ x, x ∈ lo_R F_11 e → lo_v x := fun e a b x hx => (by rw [lo_R_fr (hlk.2 6 (by decide)) (hlk.2 7 (by decide)) (hlk.2 8 (by decide)) (hlk.2 9 (by decide)) (hlk.2 10 (by decide)) (hlk.2 11 (by decide)), lo_R_fr (hff.2 6 (by decide)) (hff.2 7 (by decide)) (hff.2 8 (by decide)) (hff.2 9 (by decide)) (hff.2 10 (by decide)) (hff.2 11 (by decide))] at hx; exact hRv e a (by have h9 := hlk.1 1 (by decide); have h8 := congrFun hfi 1; omega) x hx)
    have h40a : I_10 40 = I 40 := (hlk.1 40 (by decide)).trans (congrFun hfi 40).symm
    have h39a : F_11 39 = F 39 := (hlk.2 39 (by decide)).trans (hff.2 39 (by decide))
    refine lv_aload_n hx hb dX6_print_23 rfl (lv_at hl 1 rfl) ?_
    refine lv_iconst (v := iz 0) hx hb dX6_print_24 (by decide) ?_
    refine va_put (D := (dC, dI)) (ci := 6) (v := .int (iz 0)) (ty := .int) (C := RX6) (T := TX6) (N := 44) hx hb hts kt_X6 tyX6 tyX6_ok nmX6 hown hK hP hD hS 0 rfl rfl 42 (by decide) (kx_word hG kq_09_mput_9 rfl) (fun _ h9 => h9) rfl (by decide +kernel) rfl rfl (Nat.le_of_ble_eq_true rfl) dX6_print_25 (fun H locs hP hD hS => ?_)
    have hP : va_P (dC, dI) kxCl (mW mo ma cs (va_up I_10 42 0) F_11) H := hP
    have hD : va_D A (mW mo ma cs (va_up I_10 42 0) F_11) := hD
    refine lv_aload_n hx hb dX6_print_28 rfl (lv_at hl 1 rfl) ?_
    refine lv_iconst (v := iz 0) hx hb dX6_print_29 (by decide) ?_
    refine va_put (D := (dC, dI)) (ci := 6) (v := .int (iz 0)) (ty := .boolean) (C := RX6) (T := TX6) (N := 44) hx hb hts kt_X6 tyX6 tyX6_ok nmX6 hown hK hP hD hS 0 rfl rfl 43 (by decide) (kx_word hG kq_09_mput_11 rfl) (fun _ h9 => h9) rfl (by decide +kernel) (mz_bool (Or.inl rfl)).1 (mz_bool (Or.inl rfl)).2 (Nat.le_of_ble_eq_true rfl) dX6_print_30 (fun H locs hP hD hS => ?_)
    have hP : va_P (dC, dI) kxCl (mW mo ma cs (va_up (va_up I_10 42 0) 43 0) F_11) H := hP
    have hD : va_D A (mW mo ma cs (va_up (va_up I_10 42 0) 43 0) F_11) := hD
    refine lv_iconst (v := iz (-1)) hx hb dX6_print_33 (by decide) ?_
    refine lv_istore_n (lv' := [(2, .int (iz (-1))), (1, .int (iz z_1)), (0, .ref mo)]) hx hb dX6_print_34 rfl hl (by decide) rfl (fun ls hl => ?_)
    refine lv_iconst (v := iz 0) hx hb dX6_print_35 (by decide) ?_
    refine lv_istore_n (lv' := [(3, .int (iz 0)), (2, .int (iz (-1))), (1, .int (iz z_1)), (0, .ref mo)]) hx hb dX6_print_36 rfl hl (by decide) rfl (fun ls hl => ?_)
    have hk15 : mWk _ _ (va_up I_10 42 0) F_11 ∧ _ := mWk.u42 hI14
    have hI15 : mIv (va_up I_10 42 0) F_11 := hI14.go hk15.1
    have hw15 : mWk _ _ (va_up I_10 42 0) F_11 := hw14.tr hk15.1
    have e1615 : (va_up I_10 42 0) 16 = _ := hk15.2.1
    have e1915 : (va_up I_10 42 0) 19 = _ := hk15.2.2
    have e115 : (va_up I_10 42 0) 1 = _ := hk15.1.2.1.1 1 (by decide)
    have hbr15 : mBr 4 (va_up I_10 42 0) F_11 := hbr14.eq rfl rfl
    have hk16 : mWk _ _ (va_up (va_up I_10 42 0) 43 0) F_11 ∧ _ := mWk.u43 hI15
    have hI16 : mIv (va_up (va_up I_10 42 0) 43 0) F_11 := hI15.go hk16.1
    have hw16 : mWk _ _ (va_up (va_up I_10 42 0) 43 0) F_11 := hw15.tr hk16.1
    have e1616 : (va_up (va_up I_10 42 0) 43 0) 16 = _ := hk16.2.1
    have e1916 : (va_up (va_up I_10 42 0) 43 0) 19 = _ := hk16.2.2
    have e116 : (va_up (va_up I_10 42 0) 43 0) 1 = _ := hk16.1.2.1.1 1 (by decide)
    have hbr16 : mBr 4 (va_up (va_up I_10 42 0) 43 0) F_11 := hbr15.eq rfl rfl
    have hkb17 : mKb (va_up I_10 42 0) F_11 := hkb13.ui 42 (by decide) _
    have hkb18 : mKb (va_up (va_up I_10 42 0) 43 0) F_11 := hkb17.ui 43 (by decide) _
    have lp37 : ∀ (n : Nat) (gv iv : Int) (J : Nat → Int) (G : Nat → Int → Int), ((mIv J G) ∧ (mWk I F J G) ∧ (J 16 = 1) ∧ (mBr 4 J G) ∧ (-2147483648 ≤ gv ∧ gv < 2147483648) ∧ (0 ≤ iv ∧ iv ≤ 64) ∧ (mKb J G) ∧ (pt_Br (G 36) (J 37) (G 38)) ∧ (∀ e, 0 ≤ e → e < J 1 → ∀ x, x ∈ lo_R G e → lo_v x) ∧ (J 40 = I 40) ∧ (G 39 = F 39) ∧ (gv = pt_gb (G 2) (pt_gM J G) (G 18) iv.toNat) ∧ (pt_h (pt_l (pt_aM J G iv.toNat)) (G 41) (J 42) (J 43)) ∧ (iv ≤ J 19)) → (J 19 - iv).toNat < n → ∀ (H : Heap) (locs : List Loc), va_P (dC, dI) kxCl (mW mo ma cs J G) H → va_D A (mW mo ma cs J G) → va_S A s.heap H locs → ∀ ls : Array Slot, lv_has ls 5 [(3, .int (iz iv)), (2, .int (iz gv)), (1, .int (iz z_1)), (0, .ref mo)] → W p l e (headSpec [.code yX6_print cX6_print 5 (some .int)] ({ frames := 6, cells := 0, slots := 0, locals := 136 })).room s m ([.ref mo] : List Value).toArray below meth c H locs 0 0 QQ (F0 m 37 ls []) := by
      intro n
      induction n with
      | zero => intro gv iv J G hinv hm; exact absurd hm (Nat.not_lt_zero _)
      | succ n ih37 =>
        intro gv iv J G hinv hm H locs hP hD hS ls hl
        obtain ⟨hIJ, hwJ, h16, hbJ, hgv, hiv, hbK, hBrJ, hRvJ, h40J, h39J, hgvJ, hXJ, hiv2⟩ := hinv
        obtain ⟨hsmJ, hszJ, hrwJ⟩ := hIJ.hkn h16
        have hcJ := hIJ.hc
        refine lv_iload_n hx hb dX6_print_37 rfl (lv_at hl 0 rfl) ?_
        refine lv_aload_n hx hb dX6_print_38 rfl (lv_at hl 3 rfl) ?_
        refine va_get (D := (dC, dI)) (ci := 6) (v := .int (iz (J 19))) (C := RX6) (T := TX6) (N := 44) hx hb hts kt_X6 hown hK hP 0 rfl rfl 19 (by decide) (kx_word hG kq_07_mlook_0 rfl) (fun _ h9 => h9) rfl dX6_print_39 ?_
        have hbd_19 := hIJ.hB.1 19
        refine ki_icmp_ge (tgt := 108) hx hb dX6_print_42 (by decide) (by omega) (by omega) (by omega) (by omega) (fun c_20 => ?_) (fun c_20 => ?_)
        · skip
          refine lv_aload_n hx hb dX6_print_108 rfl (lv_at hl 3 rfl) ?_
          refine lv_aload_n hx hb dX6_print_109 rfl (lv_at hl 3 rfl) ?_
          refine va_get (D := (dC, dI)) (ci := 6) (v := .int (iz (J 43))) (C := RX6) (T := TX6) (N := 44) hx hb hts kt_X6 hown hK hP 0 rfl rfl 43 (by decide) (kx_word hG kq_09_mput_11 rfl) (fun _ h9 => h9) rfl dX6_print_110 ?_
          have hbd_21 := hIJ.hB.1 43
          have ho9 : J 43 = 0 ∨ J 43 = 1 := hIJ.hps.1.2.2
          rcases ho9 with ho9 | ho9
          · refine ki_is (show iz (J 43) = iz 0 by rw [ho9]) ?_
            refine lv_iconst (v := iz 0) hx hb dX6_print_113 (by decide) ?_
            refine lv_iconst (v := iz 0) hx hb dX6_print_114 (by decide) ?_
            refine mk_calli (As := [.int (iz 0), .int (iz 0), .int (iz 0)]) (rest := []) ⟨hx, hb, hml, hown, hts⟩ (k_refused0 l dC dI mo ma cs J G  H.size ) (cwV 3 hts (kx_gV kq_04_msmall_8 kq_04_msmall_9 kq_04_msmall_10 kq_04_msmall_6 kq_04_msmall_11 rfl) rfl rfl rfl (by decide +kernel) ⟨Nat.le_of_ble_eq_true rfl, Nat.le_of_ble_eq_true rfl⟩) hP hD hK hG hZ hS hA rfl hl.1 rfl (Nat.le_of_ble_eq_true rfl) dX6_print_115 ⟨Nat.le_of_ble_eq_true rfl, Nat.le_of_ble_eq_true rfl⟩ (fun z_22 I_24 F_25 H locs hq_23 hP hD hS => ?_)
            try dsimp only at hq_23
            obtain ⟨rfl, rfl, rfl⟩ := hq_23
            refine ki_if_eq (tgt := 123) hx hb dX6_print_118 (by decide) (by omega) (by omega) (fun c_26 => ?_) (fun c_26 => ?_)
            · skip
              refine lv_iconst (v := iz 0) hx hb dX6_print_123 (by decide) ?_
              refine lv_istore_n (lv' := [(3, .int (iz 0)), (2, .int (iz gv)), (1, .int (iz z_1)), (0, .ref mo)]) hx hb dX6_print_124 rfl hl (by decide) rfl (fun ls hl => ?_)
              have hk27 : mWk _ _ (va_up J 0 0) G ∧ _ := mWk.thr hIJ (v := 0) (by omega)
              have hI27 : mIv (va_up J 0 0) G := hIJ.go hk27.1
              have hw27 : mWk _ _ (va_up J 0 0) G := hwJ.tr hk27.1
              have e1627 : (va_up J 0 0) 16 = _ := hk27.2.1
              have e1927 : (va_up J 0 0) 19 = _ := hk27.2.2
              have e127 : (va_up J 0 0) 1 = _ := hk27.1.2.1.1 1 (by decide)
              have hbr27 : mBr 4 (va_up J 0 0) G := hbJ.eq rfl rfl
              have hkb28 : mKb (va_up J 0 0) G := hbK.ui 0 (by decide) _
              have lp125 : ∀ (n : Nat) (kv : Int) (G1 : Nat → Int → Int), ((mIv (va_up J 0 0) G1) ∧ (mWk I F (va_up J 0 0) G1) ∧ (0 ≤ kv ∧ kv ≤ 6000 ∧ kv ≤ (va_up J 0 0) 42) ∧ (mKb (va_up J 0 0) G1) ∧ (∀ i, 0 ≤ i → i < kv → G1 39 i = G 41 i) ∧ (∀ k9, ¬ k9 = 39 → G1 k9 = G k9)) → ((va_up J 0 0) 42 - kv).toNat < n → ∀ (H : Heap) (locs : List Loc), va_P (dC, dI) kxCl (mW mo ma cs (va_up J 0 0) G1) H → va_D A (mW mo ma cs (va_up J 0 0) G1) → va_S A s.heap H locs → ∀ ls : Array Slot, lv_has ls 5 [(3, .int (iz kv)), (2, .int (iz gv)), (1, .int (iz z_1)), (0, .ref mo)] → W p l e (headSpec [.code yX6_print cX6_print 5 (some .int)] ({ frames := 6, cells := 0, slots := 0, locals := 136 })).room s m ([.ref mo] : List Value).toArray below meth c H locs 0 0 QQ (F0 m 125 ls []) := by
                intro n
                induction n with
                | zero => intro kv G1 hinv hm; exact absurd hm (Nat.not_lt_zero _)
                | succ n ih125 =>
                  intro kv G1 hinv hm H locs hP hD hS ls hl
                  obtain ⟨hIG, hwG, hkv, hbG, hcp, hco⟩ := hinv
                  have hd9 := hIG.hps.1
                  have hd9a : 0 ≤ (va_up J 0 0) 42 := hd9.1
                  have hd9b : (va_up J 0 0) 42 ≤ 6000 := hd9.2.1
                  have hd9c : (va_up J 0 0) 42 = J 42 := rfl
                  refine lv_iload_n hx hb dX6_print_125 rfl (lv_at hl 0 rfl) ?_
                  refine lv_aload_n hx hb dX6_print_126 rfl (lv_at hl 3 rfl) ?_
                  refine va_get (D := (dC, dI)) (ci := 6) (v := .int (iz ((va_up J 0 0) 42))) (C := RX6) (T := TX6) (N := 44) hx hb hts kt_X6 hown hK hP 0 rfl rfl 42 (by decide) (kx_word hG kq_09_mput_9 rfl) (fun _ h9 => h9) rfl dX6_print_127 ?_
                  have hbd_29 := hIG.hB.1 42
                  refine ki_icmp_ge (tgt := 151) hx hb dX6_print_130 (by decide) (by omega) (by omega) (by omega) (by omega) (fun c_30 => ?_) (fun c_30 => ?_)
                  · skip
                    refine lv_aload_n hx hb dX6_print_151 rfl (lv_at hl 3 rfl) ?_
                    refine lv_aload_n hx hb dX6_print_152 rfl (lv_at hl 3 rfl) ?_
                    refine va_get (D := (dC, dI)) (ci := 6) (v := .int (iz ((va_up J 0 0) 42))) (C := RX6) (T := TX6) (N := 44) hx hb hts kt_X6 hown hK hP 0 rfl rfl 42 (by decide) (kx_word hG kq_09_mput_9 rfl) (fun _ h9 => h9) rfl dX6_print_153 ?_
                    refine va_put (D := (dC, dI)) (ci := 6) (v := .int (iz ((va_up J 0 0) 42))) (ty := .int) (C := RX6) (T := TX6) (N := 44) hx hb hts kt_X6 tyX6 tyX6_ok nmX6 hown hK hP hD hS 0 rfl rfl 40 (by decide) (kx_word hG kq_11_mask_12 rfl) (fun _ h9 => h9) rfl (by decide +kernel) rfl rfl (Nat.le_of_ble_eq_true rfl) dX6_print_156 (fun H locs hP hD hS => ?_)
                    have hP : va_P (dC, dI) kxCl (mW mo ma cs (va_up (va_up J 0 0) 40 ((va_up J 0 0) 42)) G1) H := hP
                    have hD : va_D A (mW mo ma cs (va_up (va_up J 0 0) 40 ((va_up J 0 0) 42)) G1) := hD
                    refine lv_aload_n hx hb dX6_print_159 rfl (lv_at hl 3 rfl) ?_
                    refine va_get (D := (dC, dI)) (ci := 6) (v := .int (iz ((va_up J 0 0) 42))) (C := RX6) (T := TX6) (N := 44) hx hb hts kt_X6 hown hK hP 0 rfl rfl 40 (by decide) (kx_word hG kq_11_mask_12 rfl) (fun _ h9 => h9) rfl dX6_print_160 ?_
                    have hk31 : mWk _ _ (va_up (va_up J 0 0) 40 ((va_up J 0 0) 42)) G1 ∧ _ := mWk.u40 hIG
                    have hI31 : mIv (va_up (va_up J 0 0) 40 ((va_up J 0 0) 42)) G1 := hIG.go hk31.1
                    have hw31 : mWk _ _ (va_up (va_up J 0 0) 40 ((va_up J 0 0) 42)) G1 := hwG.tr hk31.1
                    have e1631 : (va_up (va_up J 0 0) 40 ((va_up J 0 0) 42)) 16 = _ := hk31.2.1
                    have e1931 : (va_up (va_up J 0 0) 40 ((va_up J 0 0) 42)) 19 = _ := hk31.2.2
                    have e131 : (va_up (va_up J 0 0) 40 ((va_up J 0 0) 42)) 1 = _ := hk31.1.2.1.1 1 (by decide)
                    have hkb32 : mKb (va_up (va_up J 0 0) 40 ((va_up J 0 0) 42)) G1 := hbG.ui 40 (by decide) _
                    rw [← hQe]
                    exact mk_ireti hx hb hr hlocks hP hD hK hS dX6_print_163 (⟨hw31, hkb32, Or.inr ⟨by omega, (show J 16 = 1 from h16), Or.inr ⟨rfl, rfl, (by have f9 : mfr [0, 40] [39] J G (va_up (va_up J 0 0) 40 ((va_up J 0 0) 42)) G1 := ⟨fun k9 h9 => (by have h7 : ¬ k9 = 0 := fun e9 => h9 (by rw [e9]; decide); have h6 : ¬ k9 = 40 := fun e9 => h9 (by rw [e9]; decide); rw [va_up_ne _ _ h6, va_up_ne _ _ h7]), fun k9 h9 => hco k9 (fun e9 => h9 (by rw [e9]; decide))⟩; have e9 := (pt_PM_fr f9 (by decide) (by decide)).2.2; rw [e9]; show pt_h (pt_l (pt_aM J G (J 19).toNat)) (G1 39) (J 42) 0; rw [show (J 19).toNat = iv.toNat by omega]; have h8 := hXJ; rw [show J 43 = 0 by omega] at h8; exact pt_h_cp h8 (fun i a b => hcp i a (by omega)))⟩⟩⟩)
                  · skip
                    refine lv_aload_n hx hb dX6_print_133 rfl (lv_at hl 3 rfl) ?_
                    refine va_get (D := (dC, dI)) (ci := 6) (v := .ref (ma 39)) (C := RX6) (T := TX6) (N := 44) hx hb hts kt_X6 hown hK hP 0 rfl rfl 39 (by decide) (kx_word hG kq_11_mask_13 rfl) (fun _ h9 => h9) rfl dX6_print_134 ?_
                    refine lv_iload_n hx hb dX6_print_137 rfl (lv_at hl 0 rfl) ?_
                    refine lv_aload_n hx hb dX6_print_138 rfl (lv_at hl 3 rfl) ?_
                    refine va_get (D := (dC, dI)) (ci := 6) (v := .ref (ma 41)) (C := RX6) (T := TX6) (N := 44) hx hb hts kt_X6 hown hK hP 0 rfl rfl 41 (by decide) (kx_word hG kq_09_mput_10 rfl) (fun _ h9 => h9) rfl dX6_print_139 ?_
                    refine lv_iload_n hx hb dX6_print_142 rfl (lv_at hl 0 rfl) ?_
                    refine ki_bald (F := G1 41) hx hb hK hP 28 27 rfl rfl (by omega) (by omega) (by decide) dX6_print_143 ?_
                    have hbd_33 := hIG.hB.2 41 kv
                    refine ki_bast (F := G1 39) hx hb hK hP hD hS 27 26 rfl rfl (by omega) (by omega) (by decide) dX6_print_144 (fun H locs hP hD hS => ?_)
                    have hP : va_P (dC, dI) kxCl (mW mo ma cs (va_up J 0 0) (va_up G1 39 (upI (G1 39) kv (vp_nar .byte (iz (G1 41 kv))).toInt))) H := hP
                    have hD : va_D A (mW mo ma cs (va_up J 0 0) (va_up G1 39 (upI (G1 39) kv (vp_nar .byte (iz (G1 41 kv))).toInt))) := hD
                    refine lv_iinc (v := iz (kv + 1)) (lv' := [(3, .int (iz (kv + 1))), (2, .int (iz gv)), (1, .int (iz z_1)), (0, .ref mo)]) hx hb dX6_print_145 hl (k := 0) rfl (iz_add kv 1) (by decide) rfl (fun ls hl => ?_)
                    refine lv_goto (tgt := 125) hx hb dX6_print_148 (by decide) ?_
                    have hk34 : mWk _ _ (va_up J 0 0) (va_up G1 39 (upI (G1 39) kv (vp_nar .byte (iz (G1 41 kv))).toInt)) ∧ _ := mWk.u39 hIG kv (iz_lo _) (iz_hi _)
                    have hI34 : mIv (va_up J 0 0) (va_up G1 39 (upI (G1 39) kv (vp_nar .byte (iz (G1 41 kv))).toInt)) := hIG.go hk34.1
                    have hw34 : mWk _ _ (va_up J 0 0) (va_up G1 39 (upI (G1 39) kv (vp_nar .byte (iz (G1 41 kv))).toInt)) := hwG.tr hk34.1
                    have hkb35 : mKb (va_up J 0 0) (va_up G1 39 (upI (G1 39) kv (vp_nar .byte (iz (G1 41 kv))).toInt)) := hbG.uf 39 (by decide) _
                    exact ih125 (kv + 1) (va_up G1 39 (upI (G1 39) kv (vp_nar .byte (iz (G1 41 kv))).toInt)) ⟨hI34, hw34, by omega, hkb35, (fun i a b => by show upI (G1 39) kv ((vp_nar .byte (iz (G1 41 kv))).toInt) i = G 41 i; by_cases c9 : i = kv; (rw [c9, upI_self, hco 41 (by decide)]; exact pt_h_nar hXJ (by omega) (by omega)); (rw [upI_ne _ _ c9]; exact hcp i a (by omega))), (fun k9 h9 => by show va_up G1 39 _ k9 = G k9; rw [va_up_ne _ _ h9]; exact hco k9 h9)⟩ (by omega) _ _ hP hD hS ls (lv_sub hl [0, 1, 2, 3] rfl)
              exact lp125 _ 0 G ⟨hI27, hw27, ⟨by omega, by omega, hIJ.hps.1.1⟩, hkb28, fun i a b => absurd b (by omega), fun _ _ => rfl⟩ (Nat.lt_succ_self _) _ _ hP hD hS ls (lv_sub hl [0, 1, 2, 3] rfl)
            · omega
          · refine ki_is (show iz (J 43) = iz 1 by rw [ho9]) ?_
            refine lv_iconst (v := iz 0) hx hb dX6_print_113 (by decide) ?_
            refine lv_iconst (v := iz 0) hx hb dX6_print_114 (by decide) ?_
            refine mk_calli (As := [.int (iz 1), .int (iz 0), .int (iz 0)]) (rest := []) ⟨hx, hb, hml, hown, hts⟩ (k_refused1 l dC dI mo ma cs J G 0 0 H.size (by omega) (by omega) (by omega) (by omega)) (cwV 3 hts (kx_gV kq_04_msmall_8 kq_04_msmall_9 kq_04_msmall_10 kq_04_msmall_6 kq_04_msmall_11 rfl) rfl rfl rfl (by decide +kernel) ⟨Nat.le_of_ble_eq_true rfl, Nat.le_of_ble_eq_true rfl⟩) hP hD hK hG hZ hS hA rfl hl.1 rfl (Nat.le_of_ble_eq_true rfl) dX6_print_115 ⟨Nat.le_of_ble_eq_true rfl, Nat.le_of_ble_eq_true rfl⟩ (fun z_36 I_38 F_39 H locs hq_37 hP hD hS => ?_)
            try dsimp only at hq_37
            obtain ⟨rfl, rfl, rfl⟩ := hq_37
            refine ki_if_eq (tgt := 123) hx hb dX6_print_118 (by decide) (by omega) (by omega) (fun c_40 => ?_) (fun c_40 => ?_)
            · omega
            · skip
              refine lv_iconst (v := iz 0) hx hb dX6_print_121 (by decide) ?_
              have hk41 : mWk _ _ (va_up J 0 1) G ∧ _ := mWk.thr hIJ (v := 1) (by omega)
              have hI41 : mIv (va_up J 0 1) G := hIJ.go hk41.1
              have hw41 : mWk _ _ (va_up J 0 1) G := hwJ.tr hk41.1
              have e1641 : (va_up J 0 1) 16 = _ := hk41.2.1
              have e1941 : (va_up J 0 1) 19 = _ := hk41.2.2
              have e141 : (va_up J 0 1) 1 = _ := hk41.1.2.1.1 1 (by decide)
              have hbr41 : mBr 4 (va_up J 0 1) G := hbJ.eq rfl rfl
              have hkb42 : mKb (va_up J 0 1) G := hbK.ui 0 (by decide) _
              rw [← hQe]
              exact mk_ireti hx hb hr hlocks hP hD hK hS dX6_print_122 (⟨hw41, hkb42, Or.inr ⟨by omega, (show J 16 = 1 from h16), Or.inl ⟨rfl, (by have e9 := (pt_PM_fr (I := J) (F := G) (J := (va_up J 0 1)) (G := G) (SI := [0]) (SF := []) (mfr.upI mfr.rf (by decide) _) (by decide) (by decide)).2.2; rw [e9]; show 6000 < (pt_aM J G (J 19).toNat).length; rw [show (J 19).toNat = iv.toNat by omega]; rcases hXJ.2.2 with h9 | h9; (have h8 := h9.2; rw [pt_l_len] at h8; exact h8); omega), h40J, h39J⟩⟩⟩)
        · skip
          have hrw9 := hrwJ iv (by omega) (by omega)
          have hfx0 : mfr [29, 31, 32, 33, 35, 42, 43] [20, 21, 22, 23, 24, 25, 26, 27, 28, 34, 41] J G J G := mfr.rf
          have hpw0 := pt_X_nil (G 41) (J 42) (J 43)
          refine lv_aload_n hx hb dX6_print_45 rfl (lv_at hl 3 rfl) ?_
          refine va_get (D := (dC, dI)) (ci := 6) (v := .ref (ma 18)) (C := RX6) (T := TX6) (N := 44) hx hb hts kt_X6 hown hK hP 0 rfl rfl 18 (by decide) (kx_word hG kq_07_mlook_1 rfl) (fun _ h9 => h9) rfl dX6_print_46 ?_
          refine lv_iload_n hx hb dX6_print_49 rfl (lv_at hl 0 rfl) ?_
          refine ki_iald (F := G 18) hx hb hK hP 14 13 rfl rfl (by omega) (by omega) (by decide) dX6_print_50 ?_
          have hbd_43 := hIJ.hB.2 18 iv
          refine lv_istore (lv' := [(4, .int (iz (G 18 iv))), (3, .int (iz iv)), (2, .int (iz gv)), (1, .int (iz z_1)), (0, .ref mo)]) hx hb dX6_print_51 hl (by decide) rfl (fun ls hl => ?_)
          have hlv9 := hIJ.hlv (G 18 iv) (by omega) (by omega)
          refine lv_aload_n hx hb dX6_print_53 rfl (lv_at hl 4 rfl) ?_
          refine va_get (D := (dC, dI)) (ci := 6) (v := .ref (ma 2)) (C := RX6) (T := TX6) (N := 44) hx hb hts kt_X6 hown hK hP 0 rfl rfl 2 (by decide) (kx_word hG kq_04_msmall_12 rfl) (fun _ h9 => h9) rfl dX6_print_54 ?_
          refine lv_iload hx hb dX6_print_57 (lv_at hl 0 rfl) ?_
          refine ki_iald (F := G 2) hx hb hK hP 1 0 rfl rfl (by omega) (by omega) (by decide) dX6_print_59 ?_
          have hbd_44 := hIJ.hB.2 2 (G 18 iv)
          refine ki_if_ne (tgt := 87) hx hb dX6_print_60 (by decide) (by omega) (by omega) (fun c_45 => ?_) (fun c_45 => ?_)
          · skip
            refine lv_aload_n hx hb dX6_print_87 rfl (lv_at hl 4 rfl) ?_
            refine lv_iconst (v := iz 1) hx hb dX6_print_88 (by decide) ?_
            refine lv_aload_n hx hb dX6_print_89 rfl (lv_at hl 4 rfl) ?_
            refine va_get (D := (dC, dI)) (ci := 6) (v := .ref (ma 2)) (C := RX6) (T := TX6) (N := 44) hx hb hts kt_X6 hown hK hP 0 rfl rfl 2 (by decide) (kx_word hG kq_04_msmall_12 rfl) (fun _ h9 => h9) rfl dX6_print_90 ?_
            refine lv_iload hx hb dX6_print_93 (lv_at hl 0 rfl) ?_
            refine ki_iald (F := G 2) hx hb hK hP 1 0 rfl rfl (by omega) (by omega) (by decide) dX6_print_95 ?_
            refine ki_iadd hx hb dX6_print_96 ?_
            refine lv_iload hx hb dX6_print_97 (lv_at hl 0 rfl) ?_
            refine mk_callv (As := [.int (iz (1 + (G 2 (G 18 iv)))), .int (iz (G 18 iv))]) (rest := []) ⟨hx, hb, hml, hown, hts⟩ (k_putPart2 l dC dI mo ma cs J G (1 + (G 2 (G 18 iv))) (G 18 iv) H.size hIJ.hB hIJ.hc hIJ.hn hIJ.hln hIJ.hmy hIJ.hmf hIJ.hlv (hIJ.hkn (by omega)).1 hIJ.hse hIJ.hsu hIJ.hst hbJ hIJ.hps (by omega) (by omega) (fun e a b x hx => (by rw [lo_R_fr (hfx0.2 6 (by decide)) (hfx0.2 7 (by decide)) (hfx0.2 8 (by decide)) (hfx0.2 9 (by decide)) (hfx0.2 10 (by decide)) (hfx0.2 11 (by decide))] at hx; exact hRvJ e a (by have h9 := hfx0.1 1 (by decide); have h8 : e < J 1 := b; omega) x hx)) (pt_Br_fr hBrJ (hfx0.2 36 (by decide)) (hfx0.1 37 (by decide)) (hfx0.2 38 (by decide))) hbK.1.2.1 hbK.1.2.2.1 hbK.1.2.2.2) (cwV 2 hts (kx_gV kq_11_mask_14 kq_11_mask_15 kq_11_mask_16 kq_04_msmall_6 kq_11_mask_17 rfl) rfl rfl rfl (by decide +kernel) ⟨Nat.le_of_ble_eq_true rfl, Nat.le_of_ble_eq_true rfl⟩) hP hD hK hG hZ hS hA rfl hl.1 rfl (Nat.le_of_ble_eq_true rfl) dX6_print_99 ⟨Nat.le_of_ble_eq_true rfl, Nat.le_of_ble_eq_true rfl⟩ (fun I_48 F_49 H locs hq_47 hP hD hS => ?_)
            try dsimp only at hq_47
            have hXp50 := hq_47.2.2.2
            have hpf50 := hq_47.2.1
            have hq_47 := (⟨hq_47.1, hq_47.2.1, hq_47.2.2.1⟩ : _ ∧ _ ∧ _)
            have hkb51 : mKb I_48 F_49 := hbK.fr hq_47.2.1 (by decide) (by decide)
            have hk52 : mWk J G I_48 F_49 ∧ _ := mWk.part hIJ hq_47
            have hI52 : mIv I_48 F_49 := hIJ.go hk52.1
            have hw52 : mWk _ _ I_48 F_49 := hwJ.tr hk52.1
            have e1652 := hk52.2.1
            have e1952 := hk52.2.2
            have f252 := congrFun (hk52.1.2.1.2 2 (by decide)) (G 18 iv)
            have hc52 := hI52.hc
            have hx52a := hk52.1.2.1.1 1 (by decide)
            have hbr53 : mBr 4 I_48 F_49 := hbJ.kp hq_47.2.1 (by decide)
            rw [(pt_PM_fr hfx0 (by decide) (by decide)).1] at hXp50
            have hfx_54 : mfr [29, 31, 32, 33, 35, 42, 43] [20, 21, 22, 23, 24, 25, 26, 27, 28, 34, 41] J G I_48 F_49 := hfx0.tr (hpf50.mono (by decide) (by decide))
            have hpw50 := pt_X_app hpw0 hXp50
            refine lv_iinc (v := iz (iv + 1)) (lv' := [(3, .int (iz (iv + 1))), (4, .int (iz (G 18 iv))), (2, .int (iz gv)), (1, .int (iz z_1)), (0, .ref mo)]) hx hb dX6_print_102 hl (k := 1) rfl (iz_add iv 1) (by decide) rfl (fun ls hl => ?_)
            refine lv_goto (tgt := 37) hx hb dX6_print_105 (by decide) ?_
            exact ih37 gv (iv + 1) I_48 F_49 ⟨hI52, hw52, by omega, hbr53, by omega, by omega, hkb51, (pt_Br_fr hBrJ (hfx_54.2 36 (by decide)) (hfx_54.1 37 (by decide)) (hfx_54.2 38 (by decide))), (fun e a b x hx => (by rw [lo_R_fr (hfx_54.2 6 (by decide)) (hfx_54.2 7 (by decide)) (hfx_54.2 8 (by decide)) (hfx_54.2 9 (by decide)) (hfx_54.2 10 (by decide)) (hfx_54.2 11 (by decide))] at hx; exact hRvJ e a (by have h9 := hfx_54.1 1 (by decide); have h8 : e < I_48 1 := b; omega) x hx)), ((hfx_54.1 40 (by decide)).trans h40J), ((hfx_54.2 39 (by decide)).trans h39J), (by rw [(pt_PM_fr hfx_54 (by decide) (by decide)).2.1, hfx_54.2 2 (by decide), hfx_54.2 18 (by decide), pt_gb_s (show 0 ≤ iv by omega)]; rw [if_neg (show ¬ G 2 (G 18 iv) = 0 by omega)]; exact hgvJ), (by rw [(pt_PM_fr hfx_54 (by decide) (by decide)).2.2]; show pt_h (pt_l (pt_al (pt_PM J G) (G 2) (pt_gM J G) (G 18) (iv + 1).toNat)) (F_49 41) (I_48 42) (I_48 43); rw [pt_al_s (show 0 ≤ iv by omega), if_neg (show ¬ (G 2 (G 18 iv) = 0 ∧ ¬ pt_gM J G (G 18 iv) = _) from (fun h9 => absurd h9.1 (by omega))), pt_l_app, pt_l_app]; have h9 := hpw50 _ hXJ; have e9 : 1 + (G 2 (G 18 iv)) = 1 + G 2 (G 18 iv) := (by rw [congrFun (hfx0.2 2 (by decide)) (G 18 iv)]); rw [e9] at h9; first | exact h9 | (simp only [List.append_assoc, List.nil_append] at h9 ⊢; exact h9) | (simp only [List.append_assoc, List.nil_append, List.append_nil] at h9 ⊢; exact h9)), (by rw [hfx_54.1 19 (by decide)]; omega)⟩ (by omega) _ _ hP hD hS ls (lv_sub hl [0, 2, 3, 4] rfl)
          · skip
            refine lv_aload_n hx hb dX6_print_63 rfl (lv_at hl 4 rfl) ?_
            refine lv_iload hx hb dX6_print_64 (lv_at hl 0 rfl) ?_
            refine mk_calli (As := [.int (iz (G 18 iv))]) (rest := []) ⟨hx, hb, hml, hown, hts⟩ (k_groupOf2 l dC dI mo ma cs J G (G 18 iv) H.size hIJ.hB hIJ.hc hIJ.hn hIJ.hlv (hIJ.hkn (by omega)).1 (by omega) hbK.1.2.1 hbK.1.2.2.1 hbK.1.2.2.2) (cwV 1 hts (kx_gV kq_10_mprint_28 kq_10_mprint_29 kq_10_mprint_30 kq_04_msmall_6 kq_10_mprint_31 rfl) rfl rfl rfl (by decide +kernel) ⟨Nat.le_of_ble_eq_true rfl, Nat.le_of_ble_eq_true rfl⟩) hP hD hK hG hZ hS hA rfl hl.1 rfl (Nat.le_of_ble_eq_true rfl) dX6_print_66 ⟨Nat.le_of_ble_eq_true rfl, Nat.le_of_ble_eq_true rfl⟩ (fun z_55 I_57 F_58 H locs hq_56 hP hD hS => ?_)
            try dsimp only at hq_56
            have hgr59 := hq_56.2.2.2.2
            have hgf59 := hq_56.2.2.1
            have hgi59 := hq_56.1
            have hq_56 := (⟨hq_56.1, hq_56.2.1, hq_56.2.2.1, hq_56.2.2.2.1⟩ : _ ∧ _ ∧ _ ∧ _)
            have hkb60 : mKb I_57 F_58 := (by have h9 := hq_56.2.2.1; rw [← hq_56.1]; exact hbK.fr h9 (by decide) (by decide))
            have hk61 : mWk J G I_57 F_58 ∧ _ := mWk.scr hIJ hq_56.1 hq_56.2.1 hq_56.2.2.1
            have hI61 : mIv I_57 F_58 := hIJ.go hk61.1
            have hw61 : mWk _ _ I_57 F_58 := hwJ.tr hk61.1
            have e1661 := hk61.2.1
            have e1961 := hk61.2.2
            have f261 := congrFun (hk61.1.2.1.2 2 (by decide)) (G 18 iv)
            have hc61 := hI61.hc
            have hx61a := hk61.1.2.1.1 1 (by decide)
            have hrg_62 := hq_56.2.2.2
            have hbr62x : mBr 4 I_57 F_58 := hbJ.eq (congrFun hq_56.1.symm 37) (hq_56.2.2.1.2 38 (by decide))
            have hgg59 : mfr [] [20, 21, 22, 23, 24] J G I_57 F_58 := (by rw [← hgi59]; exact hgf59)
            have hgM59 : z_55 = pt_gM J G (G 18 iv) := (show z_55 = pt_gM J G (G 18 iv) from hgr59).trans (congrFun (pt_PM_fr hfx0 (by decide) (by decide)).2.1 _)
            replace hgr59 := fun (_ : Unit) => hgr59
            have hfx_63 : mfr [29, 31, 32, 33, 35, 42, 43] [20, 21, 22, 23, 24, 25, 26, 27, 28, 34, 41] J G I_57 F_58 := hfx0.tr (hgg59.mono (by decide) (by decide))
            have hpw59 : pt_X (G 41) (J 42) (J 43) ([]) (F_58 41) (I_57 42) (I_57 43) := (by rw [hgg59.2 41 (by decide), hgg59.1 42 (by decide), hgg59.1 43 (by decide)]; exact hpw0)
            refine lv_iload_n hx hb dX6_print_69 rfl (lv_at hl 2 rfl) ?_
            refine ki_icmp_eq (tgt := 87) hx hb dX6_print_70 (by decide) (by omega) (by omega) (by omega) (by omega) (fun c_64 => ?_) (fun c_64 => ?_)
            · skip
              refine lv_aload_n hx hb dX6_print_87 rfl (lv_at hl 4 rfl) ?_
              refine lv_iconst (v := iz 1) hx hb dX6_print_88 (by decide) ?_
              refine lv_aload_n hx hb dX6_print_89 rfl (lv_at hl 4 rfl) ?_
              refine va_get (D := (dC, dI)) (ci := 6) (v := .ref (ma 2)) (C := RX6) (T := TX6) (N := 44) hx hb hts kt_X6 hown hK hP 0 rfl rfl 2 (by decide) (kx_word hG kq_04_msmall_12 rfl) (fun _ h9 => h9) rfl dX6_print_90 ?_
              refine lv_iload hx hb dX6_print_93 (lv_at hl 0 rfl) ?_
              refine ki_iald (F := F_58 2) hx hb hK hP 1 0 rfl rfl (by omega) (by omega) (by decide) dX6_print_95 ?_
              have hbd_65 := hI61.hB.2 2 (G 18 iv)
              refine ki_iadd hx hb dX6_print_96 ?_
              refine lv_iload hx hb dX6_print_97 (lv_at hl 0 rfl) ?_
              refine mk_callv (As := [.int (iz (1 + (F_58 2 (G 18 iv)))), .int (iz (G 18 iv))]) (rest := []) ⟨hx, hb, hml, hown, hts⟩ (k_putPart2 l dC dI mo ma cs I_57 F_58 (1 + (F_58 2 (G 18 iv))) (G 18 iv) H.size hI61.hB hI61.hc hI61.hn hI61.hln hI61.hmy hI61.hmf hI61.hlv (hI61.hkn (by omega)).1 hI61.hse hI61.hsu hI61.hst hbr62x hI61.hps (by omega) (by omega) (fun e a b x hx => (by rw [lo_R_fr (hfx_63.2 6 (by decide)) (hfx_63.2 7 (by decide)) (hfx_63.2 8 (by decide)) (hfx_63.2 9 (by decide)) (hfx_63.2 10 (by decide)) (hfx_63.2 11 (by decide))] at hx; exact hRvJ e a (by have h9 := hfx_63.1 1 (by decide); have h8 : e < I_57 1 := b; omega) x hx)) (pt_Br_fr hBrJ (hfx_63.2 36 (by decide)) (hfx_63.1 37 (by decide)) (hfx_63.2 38 (by decide))) hkb60.1.2.1 hkb60.1.2.2.1 hkb60.1.2.2.2) (cwV 2 hts (kx_gV kq_11_mask_14 kq_11_mask_15 kq_11_mask_16 kq_04_msmall_6 kq_11_mask_17 rfl) rfl rfl rfl (by decide +kernel) ⟨Nat.le_of_ble_eq_true rfl, Nat.le_of_ble_eq_true rfl⟩) hP hD hK hG hZ hS hA rfl hl.1 rfl (Nat.le_of_ble_eq_true rfl) dX6_print_99 ⟨Nat.le_of_ble_eq_true rfl, Nat.le_of_ble_eq_true rfl⟩ (fun I_68 F_69 H locs hq_67 hP hD hS => ?_)
              try dsimp only at hq_67
              have hXp70 := hq_67.2.2.2
              have hpf70 := hq_67.2.1
              have hq_67 := (⟨hq_67.1, hq_67.2.1, hq_67.2.2.1⟩ : _ ∧ _ ∧ _)
              have hkb71 : mKb I_68 F_69 := hkb60.fr hq_67.2.1 (by decide) (by decide)
              have hk72 : mWk I_57 F_58 I_68 F_69 ∧ _ := mWk.part hI61 hq_67
              have hI72 : mIv I_68 F_69 := hI61.go hk72.1
              have hw72 : mWk _ _ I_68 F_69 := hw61.tr hk72.1
              have e1672 := hk72.2.1
              have e1972 := hk72.2.2
              have f272 := congrFun (hk72.1.2.1.2 2 (by decide)) (G 18 iv)
              have hc72 := hI72.hc
              have hx72a := hk72.1.2.1.1 1 (by decide)
              have hbr73 : mBr 4 I_68 F_69 := hbr62x.kp hq_67.2.1 (by decide)
              rw [(pt_PM_fr hfx_63 (by decide) (by decide)).1] at hXp70
              have hfx_74 : mfr [29, 31, 32, 33, 35, 42, 43] [20, 21, 22, 23, 24, 25, 26, 27, 28, 34, 41] J G I_68 F_69 := hfx_63.tr (hpf70.mono (by decide) (by decide))
              have hpw70 := pt_X_app hpw59 hXp70
              refine lv_iinc (v := iz (iv + 1)) (lv' := [(3, .int (iz (iv + 1))), (4, .int (iz (G 18 iv))), (2, .int (iz gv)), (1, .int (iz z_1)), (0, .ref mo)]) hx hb dX6_print_102 hl (k := 1) rfl (iz_add iv 1) (by decide) rfl (fun ls hl => ?_)
              refine lv_goto (tgt := 37) hx hb dX6_print_105 (by decide) ?_
              exact ih37 gv (iv + 1) I_68 F_69 ⟨hI72, hw72, by omega, hbr73, by omega, by omega, hkb71, (pt_Br_fr hBrJ (hfx_74.2 36 (by decide)) (hfx_74.1 37 (by decide)) (hfx_74.2 38 (by decide))), (fun e a b x hx => (by rw [lo_R_fr (hfx_74.2 6 (by decide)) (hfx_74.2 7 (by decide)) (hfx_74.2 8 (by decide)) (hfx_74.2 9 (by decide)) (hfx_74.2 10 (by decide)) (hfx_74.2 11 (by decide))] at hx; exact hRvJ e a (by have h9 := hfx_74.1 1 (by decide); have h8 : e < I_68 1 := b; omega) x hx)), ((hfx_74.1 40 (by decide)).trans h40J), ((hfx_74.2 39 (by decide)).trans h39J), (by rw [(pt_PM_fr hfx_74 (by decide) (by decide)).2.1, hfx_74.2 2 (by decide), hfx_74.2 18 (by decide), pt_gb_s (show 0 ≤ iv by omega)]; rw [if_pos (show G 2 (G 18 iv) = 0 by omega)]; rw [← hgM59]; omega), (by rw [(pt_PM_fr hfx_74 (by decide) (by decide)).2.2]; show pt_h (pt_l (pt_al (pt_PM J G) (G 2) (pt_gM J G) (G 18) (iv + 1).toNat)) (F_69 41) (I_68 42) (I_68 43); rw [pt_al_s (show 0 ≤ iv by omega), if_neg (show ¬ (G 2 (G 18 iv) = 0 ∧ ¬ pt_gM J G (G 18 iv) = _) from (fun h9 => by have h8 := h9.2; rw [← hgM59, ← hgvJ] at h8; omega)), pt_l_app, pt_l_app]; have h9 := hpw70 _ hXJ; have e9 : 1 + (F_58 2 (G 18 iv)) = 1 + G 2 (G 18 iv) := (by rw [congrFun (hfx_63.2 2 (by decide)) (G 18 iv)]); rw [e9] at h9; first | exact h9 | (simp only [List.append_assoc, List.nil_append] at h9 ⊢; exact h9) | (simp only [List.append_assoc, List.nil_append, List.append_nil] at h9 ⊢; exact h9)), (by rw [hfx_74.1 19 (by decide)]; omega)⟩ (by omega) _ _ hP hD hS ls (lv_sub hl [0, 2, 3, 4] rfl)
            · skip
              refine lv_aload_n hx hb dX6_print_73 rfl (lv_at hl 4 rfl) ?_
              refine lv_iload hx hb dX6_print_74 (lv_at hl 0 rfl) ?_
              refine mk_calli (As := [.int (iz (G 18 iv))]) (rest := []) ⟨hx, hb, hml, hown, hts⟩ (k_groupOf2 l dC dI mo ma cs I_57 F_58 (G 18 iv) H.size hI61.hB hI61.hc hI61.hn hI61.hlv (hI61.hkn (by omega)).1 (by omega) hkb60.1.2.1 hkb60.1.2.2.1 hkb60.1.2.2.2) (cwV 1 hts (kx_gV kq_10_mprint_28 kq_10_mprint_29 kq_10_mprint_30 kq_04_msmall_6 kq_10_mprint_31 rfl) rfl rfl rfl (by decide +kernel) ⟨Nat.le_of_ble_eq_true rfl, Nat.le_of_ble_eq_true rfl⟩) hP hD hK hG hZ hS hA rfl hl.1 rfl (Nat.le_of_ble_eq_true rfl) dX6_print_76 ⟨Nat.le_of_ble_eq_true rfl, Nat.le_of_ble_eq_true rfl⟩ (fun z_75 I_77 F_78 H locs hq_76 hP hD hS => ?_)
              try dsimp only at hq_76
              have hgr79 := hq_76.2.2.2.2
              have hgf79 := hq_76.2.2.1
              have hgi79 := hq_76.1
              have hq_76 := (⟨hq_76.1, hq_76.2.1, hq_76.2.2.1, hq_76.2.2.2.1⟩ : _ ∧ _ ∧ _ ∧ _)
              have hkb80 : mKb I_77 F_78 := (by have h9 := hq_76.2.2.1; rw [← hq_76.1]; exact hkb60.fr h9 (by decide) (by decide))
              have hk81 : mWk I_57 F_58 I_77 F_78 ∧ _ := mWk.scr hI61 hq_76.1 hq_76.2.1 hq_76.2.2.1
              have hI81 : mIv I_77 F_78 := hI61.go hk81.1
              have hw81 : mWk _ _ I_77 F_78 := hw61.tr hk81.1
              have e1681 := hk81.2.1
              have e1981 := hk81.2.2
              have f281 := congrFun (hk81.1.2.1.2 2 (by decide)) (G 18 iv)
              have hc81 := hI81.hc
              have hx81a := hk81.1.2.1.1 1 (by decide)
              have hrg_82 := hq_76.2.2.2
              have hbr82x : mBr 4 I_77 F_78 := hbr62x.eq (congrFun hq_76.1.symm 37) (hq_76.2.2.1.2 38 (by decide))
              have hgg79 : mfr [] [20, 21, 22, 23, 24] I_57 F_58 I_77 F_78 := (by rw [← hgi79]; exact hgf79)
              have hgM79 : z_75 = pt_gM J G (G 18 iv) := (show z_75 = pt_gM I_57 F_58 (G 18 iv) from hgr79).trans (congrFun (pt_PM_fr hfx_63 (by decide) (by decide)).2.1 _)
              replace hgr79 := fun (_ : Unit) => hgr79
              have hfx_83 : mfr [29, 31, 32, 33, 35, 42, 43] [20, 21, 22, 23, 24, 25, 26, 27, 28, 34, 41] J G I_77 F_78 := hfx_63.tr (hgg79.mono (by decide) (by decide))
              have hpw79 : pt_X (G 41) (J 42) (J 43) ([]) (F_78 41) (I_77 42) (I_77 43) := (by rw [hgg79.2 41 (by decide), hgg79.1 42 (by decide), hgg79.1 43 (by decide)]; exact hpw59)
              refine lv_istore_n (lv' := [(2, .int (iz z_75)), (4, .int (iz (G 18 iv))), (3, .int (iz iv)), (1, .int (iz z_1)), (0, .ref mo)]) hx hb dX6_print_79 rfl hl (by decide) rfl (fun ls hl => ?_)
              refine lv_aload_n hx hb dX6_print_80 rfl (lv_at hl 4 rfl) ?_
              refine lv_iconst (v := iz 0) hx hb dX6_print_81 (by decide) ?_
              refine lv_iload hx hb dX6_print_82 (lv_at hl 1 rfl) ?_
              refine mk_callv (As := [.int (iz 0), .int (iz (G 18 iv))]) (rest := []) ⟨hx, hb, hml, hown, hts⟩ (k_putPart2 l dC dI mo ma cs I_77 F_78 0 (G 18 iv) H.size hI81.hB hI81.hc hI81.hn hI81.hln hI81.hmy hI81.hmf hI81.hlv (hI81.hkn (by omega)).1 hI81.hse hI81.hsu hI81.hst hbr82x hI81.hps (by omega) (by omega) (fun e a b x hx => (by rw [lo_R_fr (hfx_83.2 6 (by decide)) (hfx_83.2 7 (by decide)) (hfx_83.2 8 (by decide)) (hfx_83.2 9 (by decide)) (hfx_83.2 10 (by decide)) (hfx_83.2 11 (by decide))] at hx; exact hRvJ e a (by have h9 := hfx_83.1 1 (by decide); have h8 : e < I_77 1 := b; omega) x hx)) (pt_Br_fr hBrJ (hfx_83.2 36 (by decide)) (hfx_83.1 37 (by decide)) (hfx_83.2 38 (by decide))) hkb80.1.2.1 hkb80.1.2.2.1 hkb80.1.2.2.2) (cwV 2 hts (kx_gV kq_11_mask_14 kq_11_mask_15 kq_11_mask_16 kq_04_msmall_6 kq_11_mask_17 rfl) rfl rfl rfl (by decide +kernel) ⟨Nat.le_of_ble_eq_true rfl, Nat.le_of_ble_eq_true rfl⟩) hP hD hK hG hZ hS hA rfl hl.1 rfl (Nat.le_of_ble_eq_true rfl) dX6_print_84 ⟨Nat.le_of_ble_eq_true rfl, Nat.le_of_ble_eq_true rfl⟩ (fun I_86 F_87 H locs hq_85 hP hD hS => ?_)
              try dsimp only at hq_85
              have hXp88 := hq_85.2.2.2
              have hpf88 := hq_85.2.1
              have hq_85 := (⟨hq_85.1, hq_85.2.1, hq_85.2.2.1⟩ : _ ∧ _ ∧ _)
              have hkb89 : mKb I_86 F_87 := hkb80.fr hq_85.2.1 (by decide) (by decide)
              have hk90 : mWk I_77 F_78 I_86 F_87 ∧ _ := mWk.part hI81 hq_85
              have hI90 : mIv I_86 F_87 := hI81.go hk90.1
              have hw90 : mWk _ _ I_86 F_87 := hw81.tr hk90.1
              have e1690 := hk90.2.1
              have e1990 := hk90.2.2
              have f290 := congrFun (hk90.1.2.1.2 2 (by decide)) (G 18 iv)
              have hc90 := hI90.hc
              have hx90a := hk90.1.2.1.1 1 (by decide)
              have hbr91 : mBr 4 I_86 F_87 := hbr82x.kp hq_85.2.1 (by decide)
              rw [(pt_PM_fr hfx_83 (by decide) (by decide)).1] at hXp88
              have hfx_92 : mfr [29, 31, 32, 33, 35, 42, 43] [20, 21, 22, 23, 24, 25, 26, 27, 28, 34, 41] J G I_86 F_87 := hfx_83.tr (hpf88.mono (by decide) (by decide))
              have hpw88 := pt_X_app hpw79 hXp88
              refine lv_aload_n hx hb dX6_print_87 rfl (lv_at hl 4 rfl) ?_
              refine lv_iconst (v := iz 1) hx hb dX6_print_88 (by decide) ?_
              refine lv_aload_n hx hb dX6_print_89 rfl (lv_at hl 4 rfl) ?_
              refine va_get (D := (dC, dI)) (ci := 6) (v := .ref (ma 2)) (C := RX6) (T := TX6) (N := 44) hx hb hts kt_X6 hown hK hP 0 rfl rfl 2 (by decide) (kx_word hG kq_04_msmall_12 rfl) (fun _ h9 => h9) rfl dX6_print_90 ?_
              refine lv_iload hx hb dX6_print_93 (lv_at hl 1 rfl) ?_
              refine ki_iald (F := F_87 2) hx hb hK hP 1 0 rfl rfl (by omega) (by omega) (by decide) dX6_print_95 ?_
              have hbd_93 := hI90.hB.2 2 (G 18 iv)
              refine ki_iadd hx hb dX6_print_96 ?_
              refine lv_iload hx hb dX6_print_97 (lv_at hl 1 rfl) ?_
              refine mk_callv (As := [.int (iz (1 + (F_87 2 (G 18 iv)))), .int (iz (G 18 iv))]) (rest := []) ⟨hx, hb, hml, hown, hts⟩ (k_putPart2 l dC dI mo ma cs I_86 F_87 (1 + (F_87 2 (G 18 iv))) (G 18 iv) H.size hI90.hB hI90.hc hI90.hn hI90.hln hI90.hmy hI90.hmf hI90.hlv (hI90.hkn (by omega)).1 hI90.hse hI90.hsu hI90.hst hbr91 hI90.hps (by omega) (by omega) (fun e a b x hx => (by rw [lo_R_fr (hfx_92.2 6 (by decide)) (hfx_92.2 7 (by decide)) (hfx_92.2 8 (by decide)) (hfx_92.2 9 (by decide)) (hfx_92.2 10 (by decide)) (hfx_92.2 11 (by decide))] at hx; exact hRvJ e a (by have h9 := hfx_92.1 1 (by decide); have h8 : e < I_86 1 := b; omega) x hx)) (pt_Br_fr hBrJ (hfx_92.2 36 (by decide)) (hfx_92.1 37 (by decide)) (hfx_92.2 38 (by decide))) hkb89.1.2.1 hkb89.1.2.2.1 hkb89.1.2.2.2) (cwV 2 hts (kx_gV kq_11_mask_14 kq_11_mask_15 kq_11_mask_16 kq_04_msmall_6 kq_11_mask_17 rfl) rfl rfl rfl (by decide +kernel) ⟨Nat.le_of_ble_eq_true rfl, Nat.le_of_ble_eq_true rfl⟩) hP hD hK hG hZ hS hA rfl hl.1 rfl (Nat.le_of_ble_eq_true rfl) dX6_print_99 ⟨Nat.le_of_ble_eq_true rfl, Nat.le_of_ble_eq_true rfl⟩ (fun I_96 F_97 H locs hq_95 hP hD hS => ?_)
              try dsimp only at hq_95
              have hXp98 := hq_95.2.2.2
              have hpf98 := hq_95.2.1
              have hq_95 := (⟨hq_95.1, hq_95.2.1, hq_95.2.2.1⟩ : _ ∧ _ ∧ _)
              have hkb99 : mKb I_96 F_97 := hkb89.fr hq_95.2.1 (by decide) (by decide)
              have hk100 : mWk I_86 F_87 I_96 F_97 ∧ _ := mWk.part hI90 hq_95
              have hI100 : mIv I_96 F_97 := hI90.go hk100.1
              have hw100 : mWk _ _ I_96 F_97 := hw90.tr hk100.1
              have e16100 := hk100.2.1
              have e19100 := hk100.2.2
              have f2100 := congrFun (hk100.1.2.1.2 2 (by decide)) (G 18 iv)
              have hc100 := hI100.hc
              have hx100a := hk100.1.2.1.1 1 (by decide)
              have hbr101 : mBr 4 I_96 F_97 := hbr91.kp hq_95.2.1 (by decide)
              rw [(pt_PM_fr hfx_92 (by decide) (by decide)).1] at hXp98
              have hfx_102 : mfr [29, 31, 32, 33, 35, 42, 43] [20, 21, 22, 23, 24, 25, 26, 27, 28, 34, 41] J G I_96 F_97 := hfx_92.tr (hpf98.mono (by decide) (by decide))
              have hpw98 := pt_X_app hpw88 hXp98
              refine lv_iinc (v := iz (iv + 1)) (lv' := [(3, .int (iz (iv + 1))), (2, .int (iz z_75)), (4, .int (iz (G 18 iv))), (1, .int (iz z_1)), (0, .ref mo)]) hx hb dX6_print_102 hl (k := 2) rfl (iz_add iv 1) (by decide) rfl (fun ls hl => ?_)
              refine lv_goto (tgt := 37) hx hb dX6_print_105 (by decide) ?_
              exact ih37 z_75 (iv + 1) I_96 F_97 ⟨hI100, hw100, by omega, hbr101, by omega, by omega, hkb99, (pt_Br_fr hBrJ (hfx_102.2 36 (by decide)) (hfx_102.1 37 (by decide)) (hfx_102.2 38 (by decide))), (fun e a b x hx => (by rw [lo_R_fr (hfx_102.2 6 (by decide)) (hfx_102.2 7 (by decide)) (hfx_102.2 8 (by decide)) (hfx_102.2 9 (by decide)) (hfx_102.2 10 (by decide)) (hfx_102.2 11 (by decide))] at hx; exact hRvJ e a (by have h9 := hfx_102.1 1 (by decide); have h8 : e < I_96 1 := b; omega) x hx)), ((hfx_102.1 40 (by decide)).trans h40J), ((hfx_102.2 39 (by decide)).trans h39J), (by rw [(pt_PM_fr hfx_102 (by decide) (by decide)).2.1, hfx_102.2 2 (by decide), hfx_102.2 18 (by decide), pt_gb_s (show 0 ≤ iv by omega)]; rw [if_pos (show G 2 (G 18 iv) = 0 by omega)]; exact hgM79), (by rw [(pt_PM_fr hfx_102 (by decide) (by decide)).2.2]; show pt_h (pt_l (pt_al (pt_PM J G) (G 2) (pt_gM J G) (G 18) (iv + 1).toNat)) (F_97 41) (I_96 42) (I_96 43); rw [pt_al_s (show 0 ≤ iv by omega), if_pos (show G 2 (G 18 iv) = 0 ∧ ¬ pt_gM J G (G 18 iv) = _ from ⟨by omega, (by rw [← hgM59, ← hgvJ]; omega)⟩), pt_l_app, pt_l_app]; have h9 := hpw98 _ hXJ; have e9 : 1 + (F_87 2 (G 18 iv)) = 1 + G 2 (G 18 iv) := (by rw [congrFun (hfx_92.2 2 (by decide)) (G 18 iv)]); rw [e9] at h9; first | exact h9 | (simp only [List.append_assoc, List.nil_append] at h9 ⊢; exact h9) | (simp only [List.append_assoc, List.nil_append, List.append_nil] at h9 ⊢; exact h9)), (by rw [hfx_102.1 19 (by decide)]; omega)⟩ (by omega) _ _ hP hD hS ls (lv_sub hl [0, 1, 3, 4] rfl)
    exact lp37 _ (-1) 0 (va_up (va_up I_10 42 0) 43 0) F_11 ⟨hI16, hw16, by omega, hbr16, by omega, by omega, hkb18, hBr2, hRv2, h40a, h39a, rfl, (show pt_h [] (F_11 41) 0 0 from pt_h_0 _), hszL.1⟩ (Nat.lt_succ_self _) _ _ hP hD hS ls (lv_sub hl [0, 1, 2, 3] rfl)
  · skip
    refine lv_aload_n hx hb dX6_print_10 rfl (lv_at hl 1 rfl) ?_
    refine lv_iconst (v := iz 0) hx hb dX6_print_11 (by decide) ?_
    refine va_put (D := (dC, dI)) (ci := 6) (v := .int (iz 0)) (ty := .int) (C := RX6) (T := TX6) (N := 44) hx hb hts kt_X6 tyX6 tyX6_ok nmX6 hown hK hP hD hS 0 rfl rfl 0 (by decide) (kx_word hG kq_04_msmall_0 rfl) (fun _ h9 => h9) rfl (by decide +kernel) rfl rfl (Nat.le_of_ble_eq_true rfl) dX6_print_12 (fun H locs hP hD hS => ?_)
    have hP : va_P (dC, dI) kxCl (mW mo ma cs (va_up I_3 0 0) F_4) H := hP
    have hD : va_D A (mW mo ma cs (va_up I_3 0 0) F_4) := hD
    refine lv_iconst (v := iz (-1)) hx hb dX6_print_15 (by decide) ?_
    refine lv_iload_n hx hb dX6_print_16 rfl (lv_at hl 0 rfl) ?_
    refine ki_isub hx hb dX6_print_17 ?_
    have hk103 : mWk _ _ (va_up I_3 0 0) F_4 ∧ _ := mWk.thr hI6 (v := 0) (by omega)
    have hI103 : mIv (va_up I_3 0 0) F_4 := hI6.go hk103.1
    have hw103 : mWk _ _ (va_up I_3 0 0) F_4 := hw6.tr hk103.1
    have e16103 : (va_up I_3 0 0) 16 = _ := hk103.2.1
    have e19103 : (va_up I_3 0 0) 19 = _ := hk103.2.2
    have e1103 : (va_up I_3 0 0) 1 = _ := hk103.1.2.1.1 1 (by decide)
    have hkb104 : mKb (va_up I_3 0 0) F_4 := hkb5.ui 0 (by decide) _
    rw [← hQe]
    exact mk_ireti hx hb hr hlocks hP hD hK hS dX6_print_18 (⟨hw103, hkb104, Or.inl ⟨by omega, rfl, by omega, (show I_3 40 = I 40 from (congrFun hfi 40).symm), hff.2 39 (by decide)⟩⟩)
set_option maxHeartbeats 4000000 in
set_option maxRecDepth 100000 in
theorem k_at3 (l : Launch) (dC : Nat → ClassId) (dI : Nat → Nat → Nat) (mo : Nat) (ma : Nat → Nat) (cs : Nat → ClassId) (I : Nat → Int) (F : Nat → Int → Int) (p0 : Int) (sz : Nat) (hI : mIv I F) (hp01 : -2147483648 ≤ p0) (hp02 : p0 < 2147483648) (hKb : mKb I F) : mMi l yX6_at (.code yX6_at cX6_at 2 (some .int)) 1 23 dC dI mo ma cs I F [.ref mo, .int (iz p0)] sz (fun (r : Int) (I' : Nat → Int) (F' : Nat → Int → Int) => mWk I F I' F' ∧ mKb I' F' ∧ ((I' 0 = 1 ∧ ¬ (0 ≤ p0 ∧ p0 < I 40)) ∨ (I' 0 = 0 ∧ (0 ≤ p0 ∧ p0 < I 40) ∧ r = pt_u (F 39 p0)))) := by
  refine Met.ofW (cc := cX6_at) (maxL := 2) (ret := (some .int)) (by decide) rfl ?_
  intro p e s m args below meth c s₁ B hml hv
  obtain ⟨rfl, hsz, hP, hK, hD0, hG, hZ⟩ := hv
  have hx := B.exec
  have hb := B.bytes
  have hr := B.returns
  have hts := kx_hts (a := ([.ref mo, .int (iz p0)] : List Value).toArray) hG
  have hown : s.vm.findClass RX6 = some m.cls := findClass_of_methodNamed B.named
  have hlocks := B.notSynchronized
  subst hsz
  have hD := hD0.self (sz := s.heap.size)
  generalize hAe : va_A (mW mo ma cs I F) s.heap.size = A at hD hZ ⊢
  have hA : ∀ q : Nat, s.heap.size ≤ q → A q := fun q h => by rw [← hAe]; exact Or.inr h
  have hS : va_S A s.heap s.heap [] := va_S.rf
  have hl := lv_entry ([.ref mo, .int (iz p0)]) (n := 2) (Nat.le_of_ble_eq_true rfl)
  rw [lg_entry_eq]
  generalize (lg_sl ([.ref mo, .int (iz p0)]) ++ List.replicate (2 - (lg_sl ([.ref mo, .int (iz p0)])).length) Slot.unset).toArray = ls at hl ⊢
  have hl : lv_has ls 2 [(0, .ref mo), (1, .int (iz p0))] := hl
  have hW0 : mWk I F I F := mWk.rf hI
  have hc0 := hI.hc
  have hm0 := hI.hmd
  refine lv_aload_n hx hb dX6_at_0 rfl (lv_at hl 0 rfl) ?_
  refine lv_iload_n hx hb dX6_at_1 rfl (lv_at hl 1 rfl) ?_
  refine ki_if_lt (tgt := 13) hx hb dX6_at_2 (by decide) (by omega) (by omega) (fun c_1 => ?_) (fun c_1 => ?_)
  · skip
    refine lv_iconst (v := iz 1) hx hb dX6_at_13 (by decide) ?_
    refine lv_goto (tgt := 18) hx hb dX6_at_14 (by decide) ?_
    refine lv_iconst (v := iz 0) hx hb dX6_at_18 (by decide) ?_
    refine lv_iconst (v := iz 0) hx hb dX6_at_19 (by decide) ?_
    refine mk_calli (As := [.int (iz 1), .int (iz 0), .int (iz 0)]) (rest := []) ⟨hx, hb, hml, hown, hts⟩ (k_refused1 l dC dI mo ma cs I F 0 0 s.heap.size (by omega) (by omega) (by omega) (by omega)) (cwV 3 hts (kx_gV kq_04_msmall_8 kq_04_msmall_9 kq_04_msmall_10 kq_04_msmall_6 kq_04_msmall_11 rfl) rfl rfl rfl (by decide +kernel) ⟨Nat.le_of_ble_eq_true rfl, Nat.le_of_ble_eq_true rfl⟩) hP hD hK hG hZ hS hA rfl hl.1 rfl (Nat.le_of_ble_eq_true rfl) dX6_at_20 ⟨Nat.le_of_ble_eq_true rfl, Nat.le_of_ble_eq_true rfl⟩ (fun z_2 I_4 F_5 H locs hq_3 hP hD hS => ?_)
    try dsimp only at hq_3
    obtain ⟨rfl, rfl, rfl⟩ := hq_3
    refine ki_if_eq (tgt := 30) hx hb dX6_at_23 (by decide) (by omega) (by omega) (fun c_6 => ?_) (fun c_6 => ?_)
    · omega
    · skip
      refine lv_iconst (v := iz 0) hx hb dX6_at_26 (by decide) ?_
      refine lv_goto (tgt := 40) hx hb dX6_at_27 (by decide) ?_
      have hk7 : mWk _ _ (va_up I 0 1) F ∧ _ := mWk.thr hI (v := 1) (by omega)
      have hI7 : mIv (va_up I 0 1) F := hI.go hk7.1
      have hw7 : mWk _ _ (va_up I 0 1) F := hW0.tr hk7.1
      have e167 : (va_up I 0 1) 16 = _ := hk7.2.1
      have e197 : (va_up I 0 1) 19 = _ := hk7.2.2
      have e17 : (va_up I 0 1) 1 = _ := hk7.1.2.1.1 1 (by decide)
      have hkb8 : mKb (va_up I 0 1) F := hKb.ui 0 (by decide) _
      exact mk_ireti hx hb hr hlocks hP hD hK hS dX6_at_40 (⟨hw7, hkb8, Or.inl ⟨rfl, by omega⟩⟩)
  · skip
    refine lv_iload_n hx hb dX6_at_5 rfl (lv_at hl 1 rfl) ?_
    refine lv_aload_n hx hb dX6_at_6 rfl (lv_at hl 0 rfl) ?_
    refine va_get (D := (dC, dI)) (ci := 6) (v := .int (iz (I 40))) (C := RX6) (T := TX6) (N := 44) hx hb hts kt_X6 hown hK hP 0 rfl rfl 40 (by decide) (kx_word hG kq_11_mask_12 rfl) (fun _ h9 => h9) rfl dX6_at_7 ?_
    have hbd_9 := hI.hB.1 40
    refine ki_icmp_lt (tgt := 17) hx hb dX6_at_10 (by decide) (by omega) (by omega) (by omega) (by omega) (fun c_10 => ?_) (fun c_10 => ?_)
    · skip
      refine lv_iconst (v := iz 0) hx hb dX6_at_17 (by decide) ?_
      refine lv_iconst (v := iz 0) hx hb dX6_at_18 (by decide) ?_
      refine lv_iconst (v := iz 0) hx hb dX6_at_19 (by decide) ?_
      refine mk_calli (As := [.int (iz 0), .int (iz 0), .int (iz 0)]) (rest := []) ⟨hx, hb, hml, hown, hts⟩ (k_refused0 l dC dI mo ma cs I F  s.heap.size ) (cwV 3 hts (kx_gV kq_04_msmall_8 kq_04_msmall_9 kq_04_msmall_10 kq_04_msmall_6 kq_04_msmall_11 rfl) rfl rfl rfl (by decide +kernel) ⟨Nat.le_of_ble_eq_true rfl, Nat.le_of_ble_eq_true rfl⟩) hP hD hK hG hZ hS hA rfl hl.1 rfl (Nat.le_of_ble_eq_true rfl) dX6_at_20 ⟨Nat.le_of_ble_eq_true rfl, Nat.le_of_ble_eq_true rfl⟩ (fun z_11 I_13 F_14 H locs hq_12 hP hD hS => ?_)
      try dsimp only at hq_12
      obtain ⟨rfl, rfl, rfl⟩ := hq_12
      refine ki_if_eq (tgt := 30) hx hb dX6_at_23 (by decide) (by omega) (by omega) (fun c_15 => ?_) (fun c_15 => ?_)
      · skip
        refine lv_aload_n hx hb dX6_at_30 rfl (lv_at hl 0 rfl) ?_
        refine va_get (D := (dC, dI)) (ci := 6) (v := .ref (ma 39)) (C := RX6) (T := TX6) (N := 44) hx hb hts kt_X6 hown hK hP 0 rfl rfl 39 (by decide) (kx_word hG kq_11_mask_13 rfl) (fun _ h9 => h9) rfl dX6_at_31 ?_
        refine lv_iload_n hx hb dX6_at_34 rfl (lv_at hl 1 rfl) ?_
        refine ki_bald (F := F 39) hx hb hK hP 27 26 rfl rfl (by omega) (by omega) (by decide) dX6_at_35 ?_
        have hbd_16 := hI.hB.2 39 p0
        refine lv_sipush (v := iz 255) hx hb dX6_at_36 (by decide) ?_
        refine lv_iand hx hb dX6_at_39 ?_
        refine ki_is (z := (iz (F 39 p0) &&& iz 255).toInt) (iz_self _).symm ?_
        have hk17 : mWk _ _ (va_up I 0 0) F ∧ _ := mWk.thr hI (v := 0) (by omega)
        have hI17 : mIv (va_up I 0 0) F := hI.go hk17.1
        have hw17 : mWk _ _ (va_up I 0 0) F := hW0.tr hk17.1
        have e1617 : (va_up I 0 0) 16 = _ := hk17.2.1
        have e1917 : (va_up I 0 0) 19 = _ := hk17.2.2
        have e117 : (va_up I 0 0) 1 = _ := hk17.1.2.1.1 1 (by decide)
        have hkb18 : mKb (va_up I 0 0) F := hKb.ui 0 (by decide) _
        exact mk_ireti hx hb hr hlocks hP hD hK hS dX6_at_40 (⟨hw17, hkb18, Or.inr ⟨rfl, by omega, rfl⟩⟩)
      · omega
    · skip
      refine lv_iconst (v := iz 1) hx hb dX6_at_13 (by decide) ?_
      refine lv_goto (tgt := 18) hx hb dX6_at_14 (by decide) ?_
      refine lv_iconst (v := iz 0) hx hb dX6_at_18 (by decide) ?_
      refine lv_iconst (v := iz 0) hx hb dX6_at_19 (by decide) ?_
      refine mk_calli (As := [.int (iz 1), .int (iz 0), .int (iz 0)]) (rest := []) ⟨hx, hb, hml, hown, hts⟩ (k_refused1 l dC dI mo ma cs I F 0 0 s.heap.size (by omega) (by omega) (by omega) (by omega)) (cwV 3 hts (kx_gV kq_04_msmall_8 kq_04_msmall_9 kq_04_msmall_10 kq_04_msmall_6 kq_04_msmall_11 rfl) rfl rfl rfl (by decide +kernel) ⟨Nat.le_of_ble_eq_true rfl, Nat.le_of_ble_eq_true rfl⟩) hP hD hK hG hZ hS hA rfl hl.1 rfl (Nat.le_of_ble_eq_true rfl) dX6_at_20 ⟨Nat.le_of_ble_eq_true rfl, Nat.le_of_ble_eq_true rfl⟩ (fun z_19 I_21 F_22 H locs hq_20 hP hD hS => ?_)
      try dsimp only at hq_20
      obtain ⟨rfl, rfl, rfl⟩ := hq_20
      refine ki_if_eq (tgt := 30) hx hb dX6_at_23 (by decide) (by omega) (by omega) (fun c_23 => ?_) (fun c_23 => ?_)
      · omega
      · skip
        refine lv_iconst (v := iz 0) hx hb dX6_at_26 (by decide) ?_
        refine lv_goto (tgt := 40) hx hb dX6_at_27 (by decide) ?_
        have hk24 : mWk _ _ (va_up I 0 1) F ∧ _ := mWk.thr hI (v := 1) (by omega)
        have hI24 : mIv (va_up I 0 1) F := hI.go hk24.1
        have hw24 : mWk _ _ (va_up I 0 1) F := hW0.tr hk24.1
        have e1624 : (va_up I 0 1) 16 = _ := hk24.2.1
        have e1924 : (va_up I 0 1) 19 = _ := hk24.2.2
        have e124 : (va_up I 0 1) 1 = _ := hk24.1.2.1.1 1 (by decide)
        have hkb25 : mKb (va_up I 0 1) F := hKb.ui 0 (by decide) _
        exact mk_ireti hx hb hr hlocks hP hD hK hS dX6_at_40 (⟨hw24, hkb25, Or.inl ⟨rfl, by omega⟩⟩)
