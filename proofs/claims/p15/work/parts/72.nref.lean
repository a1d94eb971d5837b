/-! the reference, exact: rows to see, groups, row -/

set_option maxHeartbeats 4000000 in
set_option maxRecDepth 100000 in
theorem k_gatherShown2 (l : Launch) (dC : Nat → ClassId) (dI : Nat → Nat → Nat) (mo : Nat) (ma : Nat → Nat) (cs : Nat → ClassId) (I : Nat → Int) (F : Nat → Int → Int) (p0 : Int) (sz : Nat) (hB : mB I F) (hc : 0 ≤ I 1 ∧ I 1 ≤ 64) (hmy : ∀ e, 0 ≤ F 13 e ∧ F 13 e ≤ 5) (hsm : mSm (I 1) F) (hse : mSe I F) (hsu : sumI (F 13) (I 1).toNat ≤ 64) (hp01 : -2147483648 ≤ p0) (hp02 : p0 < 2147483648) : mMv l yX6_gatherShown (.code yX6_gatherShown cX6_gatherShown 7 none) 0 0 dC dI mo ma cs I F [.ref mo, .int (iz p0)] sz (fun (I' : Nat → Int) (F' : Nat → Int → Int) => mB I' F' ∧ mfr [35] [34] I F I' F' ∧ (0 ≤ I' 35 ∧ I' 35 ≤ 64) ∧ mSh (I 1) I' F' ∧ kf_ls (F' 34) 0 (I' 35).toNat = sn_r (F 17) (F 13) (wr_se F) p0 (I 1).toNat) := by
  refine Met.ofW (cc := cX6_gatherShown) (maxL := 7) (ret := none) (by decide) rfl ?_
  intro p e s m args below meth c s₁ B hml hv
  obtain ⟨rfl, hsz, hP, hK, hD0, hG, hZ⟩ := hv
  have hx := B.exec
  have hb := B.bytes
  have hr := B.returns
  have hts := kx_hts (a := ([.ref mo, .int (iz p0)] : List Value).toArray) hG
  have hown : s.vm.findClass RX6 = some m.cls := findClass_of_methodNamed B.named
  have hlocks := B.notSynchronized
  subst hsz
  have hD := hD0.self (sz := s.heap.size)
  generalize hAe : va_A (mW mo ma cs I F) s.heap.size = A at hD hZ ⊢
  have hA : ∀ q : Nat, s.heap.size ≤ q → A q := fun q h => by rw [← hAe]; exact Or.inr h
  have hS : va_S A s.heap s.heap [] := va_S.rf
  have hl := lv_entry ([.ref mo, .int (iz p0)]) (n := 7) (Nat.le_of_ble_eq_true rfl)
  rw [lg_entry_eq]
  generalize (lg_sl ([.ref mo, .int (iz p0)]) ++ List.replicate (7 - (lg_sl ([.ref mo, .int (iz p0)])).length) Slot.unset).toArray = ls at hl ⊢
  have hl : lv_has ls 7 [(0, .ref mo), (1, .int (iz p0))] := hl
  generalize hQe : MQ below (mQv dC dI mo ma cs A (fun (I' : Nat → Int) (F' : Nat → Int → Int) => mB I' F' ∧ mfr [35] [34] I F I' F' ∧ (0 ≤ I' 35 ∧ I' 35 ≤ 64) ∧ mSh (I 1) I' F' ∧ kf_ls (F' 34) 0 (I' 35).toNat = sn_r (F 17) (F 13) (wr_se F) p0 (I 1).toNat)) ([.ref mo, .int (iz p0)] : List Value).toArray s 0 0 A = QQ
  refine lv_aload_n hx hb dX6_gatherShown_0 rfl (lv_at hl 0 rfl) ?_
  refine lv_iconst (v := iz 0) hx hb dX6_gatherShown_1 (by decide) ?_
  refine va_put (D := (dC, dI)) (ci := 6) (v := .int (iz 0)) (ty := .int) (C := RX6) (T := TX6) (N := 44) hx hb hts kt_X6 tyX6 tyX6_ok nmX6 hown hK hP hD hS 0 rfl rfl 35 (by decide) (kx_word hG kq_09_mput_3 rfl) (fun _ h9 => h9) rfl (by decide +kernel) rfl rfl (Nat.le_of_ble_eq_true rfl) dX6_gatherShown_2 (fun H locs hP hD hS => ?_)
  have hP : va_P (dC, dI) kxCl (mW mo ma cs (va_up I 35 0) F) H := hP
  have hD : va_D A (mW mo ma cs (va_up I 35 0) F) := hD
  refine lv_iconst (v := iz 0) hx hb dX6_gatherShown_5 (by decide) ?_
  refine lv_istore_n (lv' := [(2, .int (iz 0)), (0, .ref mo), (1, .int (iz p0))]) hx hb dX6_gatherShown_6 rfl hl (by decide) rfl (fun ls hl => ?_)
  have lp7 : ∀ (n : Nat) (ev : Int) (J : Nat → Int) (G : Nat → Int → Int), ((mB J G) ∧ (mfr [35] [34] I F J G) ∧ (0 ≤ ev ∧ ev ≤ I 1) ∧ (0 ≤ J 35 ∧ J 35 ≤ sumI (F 13) ev.toNat) ∧ (mSh (I 1) J G) ∧ (kf_ls (G 34) 0 (J 35).toNat = sn_r (F 17) (F 13) (wr_se F) p0 (ev).toNat)) → (I 1 - ev).toNat < n → ∀ (H : Heap) (locs : List Loc), va_P (dC, dI) kxCl (mW mo ma cs J G) H → va_D A (mW mo ma cs J G) → va_S A s.heap H locs → ∀ ls : Array Slot, lv_has ls 7 [(2, .int (iz ev)), (0, .ref mo), (1, .int (iz p0))] → W p l e (headSpec [.code yX6_gatherShown cX6_gatherShown 7 none] ({ frames := 0, cells := 0, slots := 0, locals := 0 })).room s m ([.ref mo, .int (iz p0)] : List Value).toArray below meth c H locs 0 0 QQ (F0 m 7 ls []) := by
    intro n
    induction n with
    | zero => intro ev J G hinv hm; exact absurd hm (Nat.not_lt_zero _)
    | succ n ih7 =>
      intro ev J G hinv hm H locs hP hD hS ls hl
      obtain ⟨hBJ, hfJ, hev, hsh, hsv, hl7⟩ := hinv
      have e1 := hfJ.1 1 (by decide)
      have hme := hmy ev
      refine lv_iload_n hx hb dX6_gatherShown_7 rfl (lv_at hl 0 rfl) ?_
      refine lv_aload_n hx hb dX6_gatherShown_8 rfl (lv_at hl 1 rfl) ?_
      refine va_get (D := (dC, dI)) (ci := 6) (v := .int (iz (J 1))) (C := RX6) (T := TX6) (N := 44) hx hb hts kt_X6 hown hK hP 0 rfl rfl 1 (by decide) (kx_word hG kq_04_msmall_1 rfl) (fun _ h9 => h9) rfl dX6_gatherShown_9 ?_
      have hbd_1 := hBJ.1 1
      refine ki_icmp_ge (tgt := 137) hx hb dX6_gatherShown_12 (by decide) (by omega) (by omega) (by omega) (by omega) (fun c_2 => ?_) (fun c_2 => ?_)
      · skip
        rw [← hQe]
        exact mk_ret hx hb hr hlocks hP hD hK hS dX6_gatherShown_137 (⟨hBJ, hfJ, by rw [show ev = I 1 by omega] at hsh; omega, hsv, (by rw [show (I 1).toNat = ev.toNat by omega]; exact hl7)⟩)
      · skip
        refine lv_iconst (v := iz 0) hx hb dX6_gatherShown_15 (by decide) ?_
        refine lv_istore_n (lv' := [(3, .int (iz 0)), (2, .int (iz ev)), (0, .ref mo), (1, .int (iz p0))]) hx hb dX6_gatherShown_16 rfl hl (by decide) rfl (fun ls hl => ?_)
        have lp17 : ∀ (n : Nat) (k : Int) (J1 : Nat → Int) (G1 : Nat → Int → Int), ((mB J1 G1) ∧ (mfr [35] [34] I F J1 G1) ∧ (0 ≤ k ∧ k ≤ F 13 ev) ∧ (0 ≤ J1 35 ∧ J1 35 ≤ sumI (F 13) ev.toNat + k) ∧ (mSh (I 1) J1 G1) ∧ (k = 0 ∨ F 17 ev = p0) ∧ (kf_ls (G1 34) 0 (J1 35).toNat = sn_s (F 17) (wr_se F) ev (sn_r (F 17) (F 13) (wr_se F) p0 (ev).toNat) k.toNat)) → (F 13 ev - k).toNat < n → ∀ (H : Heap) (locs : List Loc), va_P (dC, dI) kxCl (mW mo ma cs J1 G1) H → va_D A (mW mo ma cs J1 G1) → va_S A s.heap H locs → ∀ ls : Array Slot, lv_has ls 7 [(3, .int (iz k)), (2, .int (iz ev)), (0, .ref mo), (1, .int (iz p0))] → W p l e (headSpec [.code yX6_gatherShown cX6_gatherShown 7 none] ({ frames := 0, cells := 0, slots := 0, locals := 0 })).room s m ([.ref mo, .int (iz p0)] : List Value).toArray below meth c H locs 0 0 QQ (F0 m 17 ls []) := by
          intro n
          induction n with
          | zero => intro k J1 G1 hinv hm; exact absurd hm (Nat.not_lt_zero _)
          | succ n ih17 =>
            intro k J1 G1 hinv hm H locs hP hD hS ls hl
            obtain ⟨hB1, hf1, hk, hs1, hv1, hk0, hl1⟩ := hinv
            have p13 := congrFun (hf1.2 13 (by decide)) ev
            have g1 := hf1.1 1 (by decide)
            have hm1 := sumI_le (fun j => (hmy j).1) (show ev.toNat + 1 ≤ (I 1).toNat by omega)
            have hm2 := sumI_succ (F 13) (show 0 ≤ ev by omega)
            have hm3 : (ev + 1).toNat = ev.toNat + 1 := by omega
            rw [hm3] at hm2
            have p17 := congrFun (hf1.2 17 (by decide)) ev
            replace hk0 := fun (_ : Unit) => hk0
            refine lv_aload_n hx hb dX6_gatherShown_17 rfl (lv_at hl 2 rfl) ?_
            refine va_get (D := (dC, dI)) (ci := 6) (v := .ref (ma 17)) (C := RX6) (T := TX6) (N := 44) hx hb hts kt_X6 hown hK hP 0 rfl rfl 17 (by decide) (kx_word hG kq_06_mway_15 rfl) (fun _ h9 => h9) rfl dX6_gatherShown_18 ?_
            refine lv_iload_n hx hb dX6_gatherShown_21 rfl (lv_at hl 1 rfl) ?_
            refine ki_iald (F := G1 17) hx hb hK hP 13 12 rfl rfl (by omega) (by omega) (by decide) dX6_gatherShown_22 ?_
            have hbd_3 := hB1.2 17 ev
            refine lv_iload_n hx hb dX6_gatherShown_23 rfl (lv_at hl 3 rfl) ?_
            refine ki_icmp_ne (tgt := 131) hx hb dX6_gatherShown_24 (by decide) (by omega) (by omega) (by omega) (by omega) (fun c_4 => ?_) (fun c_4 => ?_)
            · skip
              refine lv_iinc (v := iz (ev + 1)) (lv' := [(2, .int (iz (ev + 1))), (3, .int (iz k)), (0, .ref mo), (1, .int (iz p0))]) hx hb dX6_gatherShown_131 hl (k := 1) rfl (iz_add ev 1) (by decide) rfl (fun ls hl => ?_)
              refine lv_goto (tgt := 7) hx hb dX6_gatherShown_134 (by decide) ?_
              exact ih7 (ev + 1) J1 G1 ⟨hB1, hf1, by omega, by rw [sumI_succ _ (by omega)]; omega, hv1, (by have h9 := hk0 (); rw [sn_r_n (by omega) (show ¬ F 17 ev = p0 by omega)]; have h8 : k = 0 := (by omega); rw [h8] at hl1; exact hl1)⟩ (by omega) _ _ hP hD hS ls (lv_sub hl [0, 2, 3] rfl)
            · skip
              refine lv_iload_n hx hb dX6_gatherShown_27 rfl (lv_at hl 0 rfl) ?_
              refine lv_aload_n hx hb dX6_gatherShown_28 rfl (lv_at hl 2 rfl) ?_
              refine va_get (D := (dC, dI)) (ci := 6) (v := .ref (ma 13)) (C := RX6) (T := TX6) (N := 44) hx hb hts kt_X6 hown hK hP 0 rfl rfl 13 (by decide) (kx_word hG kq_04_msmall_38 rfl) (fun _ h9 => h9) rfl dX6_gatherShown_29 ?_
              refine lv_iload_n hx hb dX6_gatherShown_32 rfl (lv_at hl 1 rfl) ?_
              refine ki_iald (F := G1 13) hx hb hK hP 12 11 rfl rfl (by omega) (by omega) (by decide) dX6_gatherShown_33 ?_
              have hbd_5 := hB1.2 13 ev
              refine ki_icmp_ge (tgt := 131) hx hb dX6_gatherShown_34 (by decide) (by omega) (by omega) (by omega) (by omega) (fun c_6 => ?_) (fun c_6 => ?_)
              · skip
                refine lv_iinc (v := iz (ev + 1)) (lv' := [(2, .int (iz (ev + 1))), (3, .int (iz k)), (0, .ref mo), (1, .int (iz p0))]) hx hb dX6_gatherShown_131 hl (k := 1) rfl (iz_add ev 1) (by decide) rfl (fun ls hl => ?_)
                refine lv_goto (tgt := 7) hx hb dX6_gatherShown_134 (by decide) ?_
                exact ih7 (ev + 1) J1 G1 ⟨hB1, hf1, by omega, by rw [sumI_succ _ (by omega)]; omega, hv1, (by rw [sn_r_y (by omega) (show F 17 ev = p0 by omega), show (F 13 ev).toNat = k.toNat by omega]; exact hl1)⟩ (by omega) _ _ hP hD hS ls (lv_sub hl [0, 2, 3] rfl)
              · skip
                refine lv_aload_n hx hb dX6_gatherShown_37 rfl (lv_at hl 2 rfl) ?_
                refine va_get (D := (dC, dI)) (ci := 6) (v := .ref (ma 17)) (C := RX6) (T := TX6) (N := 44) hx hb hts kt_X6 hown hK hP 0 rfl rfl 17 (by decide) (kx_word hG kq_06_mway_15 rfl) (fun _ h9 => h9) rfl dX6_gatherShown_38 ?_
                refine lv_aload_n hx hb dX6_gatherShown_41 rfl (lv_at hl 2 rfl) ?_
                refine va_get (D := (dC, dI)) (ci := 6) (v := .ref (ma 12)) (C := RX6) (T := TX6) (N := 44) hx hb hts kt_X6 hown hK hP 0 rfl rfl 12 (by decide) (kx_word hG kq_04_msmall_39 rfl) (fun _ h9 => h9) rfl dX6_gatherShown_42 ?_
                refine lv_iconst (v := iz 5) hx hb dX6_gatherShown_45 (by decide) ?_
                refine lv_iload_n hx hb dX6_gatherShown_46 rfl (lv_at hl 1 rfl) ?_
                refine ki_imul hx hb dX6_gatherShown_47 ?_
                refine lv_iload_n hx hb dX6_gatherShown_48 rfl (lv_at hl 0 rfl) ?_
                refine ki_iadd hx hb dX6_gatherShown_49 ?_
                refine ki_iald (F := G1 12) hx hb hK hP 11 10 rfl rfl (by omega) (by omega) (by decide) dX6_gatherShown_50 ?_
                have hbd_7 := hB1.2 12 ((5 * ev) + k)
                have q12 := congrFun (hf1.2 12 (by decide)) ((5 * ev) + k)
                have hsk := hse ev k (by omega) (by omega) (by omega) (by omega)
                have q17 := congrFun (hf1.2 17 (by decide)) (G1 12 ((5 * ev) + k))
                have hsx := hsm (G1 12 ((5 * ev) + k)) (by omega) (by omega)
                have hO9 : F 17 (wr_se F ev k) = G1 17 (G1 12 ((5 * ev) + k)) := by show F 17 (F 12 (5 * ev + k)) = _; rw [q17, q12]
                refine ki_iald (F := G1 17) hx hb hK hP 13 12 rfl rfl (by omega) (by omega) (by decide) dX6_gatherShown_51 ?_
                have hbd_8 := hB1.2 17 (G1 12 ((5 * ev) + k))
                refine lv_istore (lv' := [(4, .int (iz (G1 17 (G1 12 ((5 * ev) + k))))), (3, .int (iz k)), (2, .int (iz ev)), (0, .ref mo), (1, .int (iz p0))]) hx hb dX6_gatherShown_52 hl (by decide) rfl (fun ls hl => ?_)
                refine lv_iconst (v := iz 0) hx hb dX6_gatherShown_54 (by decide) ?_
                refine lv_istore (lv' := [(5, .int (iz 0)), (4, .int (iz (G1 17 (G1 12 ((5 * ev) + k))))), (3, .int (iz k)), (2, .int (iz ev)), (0, .ref mo), (1, .int (iz p0))]) hx hb dX6_gatherShown_55 hl (by decide) rfl (fun ls hl => ?_)
                refine lv_iconst (v := iz 0) hx hb dX6_gatherShown_57 (by decide) ?_
                refine lv_istore (lv' := [(6, .int (iz 0)), (5, .int (iz 0)), (4, .int (iz (G1 17 (G1 12 ((5 * ev) + k))))), (3, .int (iz k)), (2, .int (iz ev)), (0, .ref mo), (1, .int (iz p0))]) hx hb dX6_gatherShown_58 hl (by decide) rfl (fun ls hl => ?_)
                have lp60 : ∀ (n : Nat) (is ix : Int), ((is = 0 ∨ is = 1) ∧ (0 ≤ ix ∧ ix ≤ J1 35) ∧ ((is = 0 ∧ ∀ i, 0 ≤ i → i < ix → ¬ G1 34 i = G1 17 (G1 12 ((5 * ev) + k))) ∨ (is = 1 ∧ ∃ i, 0 ≤ i ∧ i < J1 35 ∧ G1 34 i = G1 17 (G1 12 ((5 * ev) + k))))) → (J1 35 - ix).toNat < n → ∀ (H : Heap) (locs : List Loc), va_P (dC, dI) kxCl (mW mo ma cs J1 G1) H → va_D A (mW mo ma cs J1 G1) → va_S A s.heap H locs → ∀ ls : Array Slot, lv_has ls 7 [(6, .int (iz ix)), (5, .int (iz is)), (4, .int (iz (G1 17 (G1 12 ((5 * ev) + k))))), (3, .int (iz k)), (2, .int (iz ev)), (0, .ref mo), (1, .int (iz p0))] → W p l e (headSpec [.code yX6_gatherShown cX6_gatherShown 7 none] ({ frames := 0, cells := 0, slots := 0, locals := 0 })).room s m ([.ref mo, .int (iz p0)] : List Value).toArray below meth c H locs 0 0 QQ (F0 m 60 ls []) := by
                  intro n
                  induction n with
                  | zero => intro is ix hinv hm; exact absurd hm (Nat.not_lt_zero _)
                  | succ n ih60 =>
                    intro is ix hinv hm H locs hP hD hS ls hl
                    obtain ⟨his, hix, his2⟩ := hinv
                    replace his2 := fun (_ : Unit) => his2
                    refine lv_iload hx hb dX6_gatherShown_60 (lv_at hl 0 rfl) ?_
                    refine lv_aload_n hx hb dX6_gatherShown_62 rfl (lv_at hl 5 rfl) ?_
                    refine va_get (D := (dC, dI)) (ci := 6) (v := .int (iz (J1 35))) (C := RX6) (T := TX6) (N := 44) hx hb hts kt_X6 hown hK hP 0 rfl rfl 35 (by decide) (kx_word hG kq_09_mput_3 rfl) (fun _ h9 => h9) rfl dX6_gatherShown_63 ?_
                    have hbd_9 := hB1.1 35
                    refine ki_icmp_ge (tgt := 99) hx hb dX6_gatherShown_66 (by decide) (by omega) (by omega) (by omega) (by omega) (fun c_10 => ?_) (fun c_10 => ?_)
                    · skip
                      refine lv_iload hx hb dX6_gatherShown_99 (lv_at hl 1 rfl) ?_
                      refine ki_if_ne (tgt := 125) hx hb dX6_gatherShown_101 (by decide) (by omega) (by omega) (fun c_11 => ?_) (fun c_11 => ?_)
                      · skip
                        refine lv_iinc (v := iz (k + 1)) (lv' := [(3, .int (iz (k + 1))), (6, .int (iz ix)), (5, .int (iz is)), (4, .int (iz (G1 17 (G1 12 ((5 * ev) + k))))), (2, .int (iz ev)), (0, .ref mo), (1, .int (iz p0))]) hx hb dX6_gatherShown_125 hl (k := 3) rfl (iz_add k 1) (by decide) rfl (fun ls hl => ?_)
                        refine lv_goto (tgt := 17) hx hb dX6_gatherShown_128 (by decide) ?_
                        exact ih17 (k + 1) J1 G1 ⟨hB1, hf1, by omega, by omega, hv1, (by omega), (by rw [sn_s_s (by omega), ← hl1]; exact (sn_ad_y (by rw [hO9]; rcases his2 () with h9 | h9; exact absurd h9.1 (by omega); obtain ⟨-, i, a, b, c⟩ := h9; exact kf_ls_mem.mpr ⟨i, a, by omega, c⟩)).symm)⟩ (by omega) _ _ hP hD hS ls (lv_sub hl [0, 4, 5, 6] rfl)
                      · skip
                        refine lv_aload_n hx hb dX6_gatherShown_104 rfl (lv_at hl 5 rfl) ?_
                        refine va_get (D := (dC, dI)) (ci := 6) (v := .ref (ma 34)) (C := RX6) (T := TX6) (N := 44) hx hb hts kt_X6 hown hK hP 0 rfl rfl 34 (by decide) (kx_word hG kq_09_mput_4 rfl) (fun _ h9 => h9) rfl dX6_gatherShown_105 ?_
                        refine lv_aload_n hx hb dX6_gatherShown_108 rfl (lv_at hl 5 rfl) ?_
                        refine va_get (D := (dC, dI)) (ci := 6) (v := .int (iz (J1 35))) (C := RX6) (T := TX6) (N := 44) hx hb hts kt_X6 hown hK hP 0 rfl rfl 35 (by decide) (kx_word hG kq_09_mput_3 rfl) (fun _ h9 => h9) rfl dX6_gatherShown_109 ?_
                        refine lv_iload hx hb dX6_gatherShown_112 (lv_at hl 2 rfl) ?_
                        refine ki_iast (F := G1 34) hx hb hK hP hD hS 24 23 rfl rfl (by omega) (by omega) (by decide) dX6_gatherShown_114 (fun H locs hP hD hS => ?_)
                        have hP : va_P (dC, dI) kxCl (mW mo ma cs J1 (va_up G1 34 (upI (G1 34) (J1 35) (G1 17 (G1 12 ((5 * ev) + k)))))) H := hP
                        have hD : va_D A (mW mo ma cs J1 (va_up G1 34 (upI (G1 34) (J1 35) (G1 17 (G1 12 ((5 * ev) + k)))))) := hD
                        refine lv_aload_n hx hb dX6_gatherShown_115 rfl (lv_at hl 5 rfl) ?_
                        refine lv_dup hx hb dX6_gatherShown_116 rfl ?_
                        refine va_get (D := (dC, dI)) (ci := 6) (v := .int (iz (J1 35))) (C := RX6) (T := TX6) (N := 44) hx hb hts kt_X6 hown hK hP 0 rfl rfl 35 (by decide) (kx_word hG kq_09_mput_3 rfl) (fun _ h9 => h9) rfl dX6_gatherShown_117 ?_
                        refine lv_iconst (v := iz 1) hx hb dX6_gatherShown_120 (by decide) ?_
                        refine ki_iadd hx hb dX6_gatherShown_121 ?_
                        refine va_put (D := (dC, dI)) (ci := 6) (v := .int (iz ((J1 35) + 1))) (ty := .int) (C := RX6) (T := TX6) (N := 44) hx hb hts kt_X6 tyX6 tyX6_ok nmX6 hown hK hP hD hS 0 rfl rfl 35 (by decide) (kx_word hG kq_09_mput_3 rfl) (fun _ h9 => h9) rfl (by decide +kernel) rfl rfl (Nat.le_of_ble_eq_true rfl) dX6_gatherShown_122 (fun H locs hP hD hS => ?_)
                        have hP : va_P (dC, dI) kxCl (mW mo ma cs (va_up J1 35 ((J1 35) + 1)) (va_up G1 34 (upI (G1 34) (J1 35) (G1 17 (G1 12 ((5 * ev) + k)))))) H := hP
                        have hD : va_D A (mW mo ma cs (va_up J1 35 ((J1 35) + 1)) (va_up G1 34 (upI (G1 34) (J1 35) (G1 17 (G1 12 ((5 * ev) + k)))))) := hD
                        refine lv_iinc (v := iz (k + 1)) (lv' := [(3, .int (iz (k + 1))), (6, .int (iz ix)), (5, .int (iz is)), (4, .int (iz (G1 17 (G1 12 ((5 * ev) + k))))), (2, .int (iz ev)), (0, .ref mo), (1, .int (iz p0))]) hx hb dX6_gatherShown_125 hl (k := 3) rfl (iz_add k 1) (by decide) rfl (fun ls hl => ?_)
                        refine lv_goto (tgt := 17) hx hb dX6_gatherShown_128 (by decide) ?_
                        exact ih17 (k + 1) (va_up J1 35 ((J1 35) + 1)) (va_up G1 34 (upI (G1 34) (J1 35) (G1 17 (G1 12 ((5 * ev) + k))))) ⟨(mB_f (mB_i hB1 35 (by omega) (by omega)) 34 (J1 35) (by omega) (by omega)), (mfr.upF (mfr.upI hf1 (by decide) _) (by decide) _), by omega, by rw [show (va_up J1 35 ((J1 35) + 1)) 35 = J1 35 + 1 from va_up_self _ _ _]; omega, mSh.add hv1 (show (va_up J1 35 ((J1 35) + 1)) 35 = J1 35 + 1 from va_up_self _ _ _) rfl (by omega), (by omega), (by rw [show (va_up J1 35 ((J1 35) + 1)) 35 = J1 35 + 1 from va_up_self _ _ _, sn_s_s (by omega), ← hl1]; show kf_ls (upI (G1 34) (J1 35) (G1 17 (G1 12 ((5 * ev) + k)))) 0 (J1 35 + 1).toNat = _; rw [kf_ls_sn (F := G1 34) (by omega) (fun j a b => upI_ne _ _ (by omega)) (upI_self _ _ _)]; rw [sn_ad_n (by rw [hO9]; intro h8; obtain ⟨i, a, b, c⟩ := kf_ls_mem.mp h8; rcases his2 () with h9 | h9; exact h9.2 i a (by omega) c; exact absurd h9.1 (by omega)), hO9])⟩ (by omega) _ _ hP hD hS ls (lv_sub hl [0, 4, 5, 6] rfl)
                    · skip
                      refine lv_iload hx hb dX6_gatherShown_69 (lv_at hl 1 rfl) ?_
                      refine ki_if_ne (tgt := 86) hx hb dX6_gatherShown_71 (by decide) (by omega) (by omega) (fun c_12 => ?_) (fun c_12 => ?_)
                      · skip
                        refine lv_iconst (v := iz 1) hx hb dX6_gatherShown_86 (by decide) ?_
                        refine lv_goto (tgt := 91) hx hb dX6_gatherShown_87 (by decide) ?_
                        refine lv_istore (lv' := [(5, .int (iz 1)), (6, .int (iz ix)), (4, .int (iz (G1 17 (G1 12 ((5 * ev) + k))))), (3, .int (iz k)), (2, .int (iz ev)), (0, .ref mo), (1, .int (iz p0))]) hx hb dX6_gatherShown_91 hl (by decide) rfl (fun ls hl => ?_)
                        refine lv_iinc (v := iz (ix + 1)) (lv' := [(6, .int (iz (ix + 1))), (5, .int (iz 1)), (4, .int (iz (G1 17 (G1 12 ((5 * ev) + k))))), (3, .int (iz k)), (2, .int (iz ev)), (0, .ref mo), (1, .int (iz p0))]) hx hb dX6_gatherShown_93 hl (k := 1) rfl (iz_add ix 1) (by decide) rfl (fun ls hl => ?_)
                        refine lv_goto (tgt := 60) hx hb dX6_gatherShown_96 (by decide) ?_
                        exact ih60 1 (ix + 1) ⟨by omega, by omega, Or.inr ⟨rfl, by rcases his2 () with h9 | h9; exact absurd h9.1 (by omega); exact h9.2⟩⟩ (by omega) _ _ hP hD hS ls (lv_sub hl [0, 1, 2, 3, 4, 5, 6] rfl)
                      · skip
                        refine lv_aload_n hx hb dX6_gatherShown_74 rfl (lv_at hl 5 rfl) ?_
                        refine va_get (D := (dC, dI)) (ci := 6) (v := .ref (ma 34)) (C := RX6) (T := TX6) (N := 44) hx hb hts kt_X6 hown hK hP 0 rfl rfl 34 (by decide) (kx_word hG kq_09_mput_4 rfl) (fun _ h9 => h9) rfl dX6_gatherShown_75 ?_
                        refine lv_iload hx hb dX6_gatherShown_78 (lv_at hl 0 rfl) ?_
                        refine ki_iald (F := G1 34) hx hb hK hP 24 23 rfl rfl (by omega) (by omega) (by decide) dX6_gatherShown_80 ?_
                        have hbd_13 := hB1.2 34 ix
                        refine lv_iload hx hb dX6_gatherShown_81 (lv_at hl 2 rfl) ?_
                        refine ki_icmp_ne (tgt := 90) hx hb dX6_gatherShown_83 (by decide) (by omega) (by omega) (by omega) (by omega) (fun c_14 => ?_) (fun c_14 => ?_)
                        · skip
                          refine lv_iconst (v := iz 0) hx hb dX6_gatherShown_90 (by decide) ?_
                          refine lv_istore (lv' := [(5, .int (iz 0)), (6, .int (iz ix)), (4, .int (iz (G1 17 (G1 12 ((5 * ev) + k))))), (3, .int (iz k)), (2, .int (iz ev)), (0, .ref mo), (1, .int (iz p0))]) hx hb dX6_gatherShown_91 hl (by decide) rfl (fun ls hl => ?_)
                          refine lv_iinc (v := iz (ix + 1)) (lv' := [(6, .int (iz (ix + 1))), (5, .int (iz 0)), (4, .int (iz (G1 17 (G1 12 ((5 * ev) + k))))), (3, .int (iz k)), (2, .int (iz ev)), (0, .ref mo), (1, .int (iz p0))]) hx hb dX6_gatherShown_93 hl (k := 1) rfl (iz_add ix 1) (by decide) rfl (fun ls hl => ?_)
                          refine lv_goto (tgt := 60) hx hb dX6_gatherShown_96 (by decide) ?_
                          exact ih60 0 (ix + 1) ⟨by omega, by omega, Or.inl ⟨rfl, fun i a b => by by_cases c9 : i = ix; (rw [c9]; omega); (rcases his2 () with h9 | h9; exact h9.2 i a (by omega); exact absurd h9.1 (by omega))⟩⟩ (by omega) _ _ hP hD hS ls (lv_sub hl [0, 1, 2, 3, 4, 5, 6] rfl)
                        · skip
                          refine lv_iconst (v := iz 1) hx hb dX6_gatherShown_86 (by decide) ?_
                          refine lv_goto (tgt := 91) hx hb dX6_gatherShown_87 (by decide) ?_
                          refine lv_istore (lv' := [(5, .int (iz 1)), (6, .int (iz ix)), (4, .int (iz (G1 17 (G1 12 ((5 * ev) + k))))), (3, .int (iz k)), (2, .int (iz ev)), (0, .ref mo), (1, .int (iz p0))]) hx hb dX6_gatherShown_91 hl (by decide) rfl (fun ls hl => ?_)
                          refine lv_iinc (v := iz (ix + 1)) (lv' := [(6, .int (iz (ix + 1))), (5, .int (iz 1)), (4, .int (iz (G1 17 (G1 12 ((5 * ev) + k))))), (3, .int (iz k)), (2, .int (iz ev)), (0, .ref mo), (1, .int (iz p0))]) hx hb dX6_gatherShown_93 hl (k := 1) rfl (iz_add ix 1) (by decide) rfl (fun ls hl => ?_)
                          refine lv_goto (tgt := 60) hx hb dX6_gatherShown_96 (by decide) ?_
                          exact ih60 1 (ix + 1) ⟨by omega, by omega, Or.inr ⟨rfl, ix, by omega, by omega, by omega⟩⟩ (by omega) _ _ hP hD hS ls (lv_sub hl [0, 1, 2, 3, 4, 5, 6] rfl)
                exact lp60 _ 0 0 ⟨by omega, by omega, Or.inl ⟨rfl, fun i a b => absurd b (by omega)⟩⟩ (Nat.lt_succ_self _) _ _ hP hD hS ls (lv_sub hl [0, 1, 2, 3, 4, 5, 6] rfl)
        exact lp17 _ 0 J G ⟨hBJ, hfJ, by omega, by omega, hsv, Or.inl rfl, hl7⟩ (Nat.lt_succ_self _) _ _ hP hD hS ls (lv_sub hl [0, 1, 2, 3] rfl)
  exact lp7 _ 0 (va_up I 35 0) F ⟨(mB_i hB 35 (by omega) (by omega)), (mfr.upI mfr.rf (by decide) _), by omega, by rw [show (va_up I 35 0) 35 = 0 from rfl]; exact ⟨by omega, sumI_nn (fun j => (hmy j).1) _⟩, fun i a b => absurd (show i < 0 from b) (by omega), rfl⟩ (Nat.lt_succ_self _) _ _ hP hD hS ls (lv_sub hl [0, 1, 2] rfl)
set_option maxHeartbeats 4000000 in
set_option maxRecDepth 100000 in
theorem k_groupOf2 (l : Launch) (dC : Nat → ClassId) (dI : Nat → Nat → Nat) (mo : Nat) (ma : Nat → Nat) (cs : Nat → ClassId) (I : Nat → Int) (F : Nat → Int → Int) (p0 : Int) (sz : Nat) (hB : mB I F) (hc : 0 ≤ I 1 ∧ I 1 ≤ 64) (hn : ∀ e, 0 ≤ F 5 e ∧ F 5 e ≤ 20) (hlv : mLv I F) (hsm : mSm (I 1) F) (h0 : 0 ≤ p0 ∧ p0 < I 1) (hsgs : ∀ e, 0 ≤ e → e < I 1 → kf_mSg F e) (hdg : I 14 = 0 ∨ I 14 = 1) (hwd : I 15 = 0 ∨ I 15 = 1) : mMi l yX6_groupOf (.code yX6_groupOf cX6_groupOf 3 (some .int)) 2 47 dC dI mo ma cs I F [.ref mo, .int (iz p0)] sz (fun (r : Int) (I' : Nat → Int) (F' : Nat → Int → Int) => I = I' ∧ mB I F' ∧ mfr [] [20, 21, 22, 23, 24] I F I F' ∧ (-2147483648 ≤ r ∧ r < 2147483648) ∧ r = sn_g (kf_ky I F (rs_w (F 2) (F 3) (F 17) p0 0))) := by
  refine Met.ofW (cc := cX6_groupOf) (maxL := 3) (ret := (some .int)) (by decide) rfl ?_
  intro p e s m args below meth c s₁ B hml hv
  obtain ⟨rfl, hsz, hP, hK, hD0, hG, hZ⟩ := hv
  have hx := B.exec
  have hb := B.bytes
  have hr := B.returns
  have hts := kx_hts (a := ([.ref mo, .int (iz p0)] : List Value).toArray) hG
  have hown : s.vm.findClass RX6 = some m.cls := findClass_of_methodNamed B.named
  have hlocks := B.notSynchronized
  subst hsz
  have hD := hD0.self (sz := s.heap.size)
  generalize hAe : va_A (mW mo ma cs I F) s.heap.size = A at hD hZ ⊢
  have hA : ∀ q : Nat, s.heap.size ≤ q → A q := fun q h => by rw [← hAe]; exact Or.inr h
  have hS : va_S A s.heap s.heap [] := va_S.rf
  have hl := lv_entry ([.ref mo, .int (iz p0)]) (n := 3) (Nat.le_of_ble_eq_true rfl)
  rw [lg_entry_eq]
  generalize (lg_sl ([.ref mo, .int (iz p0)]) ++ List.replicate (3 - (lg_sl ([.ref mo, .int (iz p0)])).length) Slot.unset).toArray = ls at hl ⊢
  have hl : lv_has ls 3 [(0, .ref mo), (1, .int (iz p0))] := hl
  refine lv_aload_n hx hb dX6_groupOf_0 rfl (lv_at hl 0 rfl) ?_
  refine lv_iload_n hx hb dX6_groupOf_1 rfl (lv_at hl 1 rfl) ?_
  refine lv_iconst (v := iz 0) hx hb dX6_groupOf_2 (by decide) ?_
  refine mk_calli (As := [.int (iz p0), .int (iz 0)]) (rest := []) ⟨hx, hb, hml, hown, hts⟩ (k_wayOf2 l dC dI mo ma cs I F p0 0 (I 1) s.heap.size hB (by omega) hlv hsm (by omega) (by omega)) (cwV 2 hts (kx_gV kq_06_mway_16 kq_06_mway_17 kq_06_mway_18 kq_04_msmall_6 kq_06_mway_19 rfl) rfl rfl rfl (by decide +kernel) ⟨Nat.le_of_ble_eq_true rfl, Nat.le_of_ble_eq_true rfl⟩) hP hD hK hG hZ hS hA rfl hl.1 rfl (Nat.le_of_ble_eq_true rfl) dX6_groupOf_3 ⟨Nat.le_of_ble_eq_true rfl, Nat.le_of_ble_eq_true rfl⟩ (fun z_1 I_3 F_4 H locs hq_2 hP hD hS => ?_)
  try dsimp only at hq_2
  obtain ⟨rfl, rfl, hq_2⟩ := hq_2
  obtain ⟨hq_2, htop⟩ := hq_2
  have hnt := hn z_1
  refine lv_istore_n (lv' := [(2, .int (iz z_1)), (0, .ref mo), (1, .int (iz p0))]) hx hb dX6_groupOf_6 rfl hl (by decide) rfl (fun ls hl => ?_)
  refine lv_aload_n hx hb dX6_groupOf_7 rfl (lv_at hl 1 rfl) ?_
  refine lv_iconst (v := iz 0) hx hb dX6_groupOf_8 (by decide) ?_
  refine mk_callv (As := [.int (iz 0)]) (rest := []) ⟨hx, hb, hml, hown, hts⟩ (k_begin l dC dI mo ma cs I F 0 H.size hB (by omega)) (cwV 1 hts (kx_gV kq_06_mway_0 kq_06_mway_1 kq_06_mway_2 kq_04_msmall_6 kq_06_mway_3 rfl) rfl rfl rfl (by decide +kernel) ⟨Nat.le_of_ble_eq_true rfl, Nat.le_of_ble_eq_true rfl⟩) hP hD hK hG hZ hS hA rfl hl.1 rfl (Nat.le_of_ble_eq_true rfl) dX6_groupOf_9 ⟨Nat.le_of_ble_eq_true rfl, Nat.le_of_ble_eq_true rfl⟩ (fun I_7 F_8 H locs hq_6 hP hD hS => ?_)
  try dsimp only at hq_6
  obtain ⟨rfl, rfl⟩ := hq_6
  refine lv_aload_n hx hb dX6_groupOf_12 rfl (lv_at hl 1 rfl) ?_
  refine lv_iconst (v := iz 0) hx hb dX6_groupOf_13 (by decide) ?_
  refine lv_iload_n hx hb dX6_groupOf_14 rfl (lv_at hl 0 rfl) ?_
  refine mk_callv (As := [.int (iz 0), .int (iz z_1)]) (rest := []) ⟨hx, hb, hml, hown, hts⟩ (k_step2 l dC dI mo ma cs I (va_up (va_up F 20 (upI (F 20) 0 0)) 21 (upI (F 21) 0 (vp_nar .boolean (iz 0)).toInt)) 0 z_1 H.size (mB_f (mB_f hB 20 0 (by omega) (by omega)) 21 0 (iz_lo _) (iz_hi _)) (by omega) (by omega) hn (by show 0 ≤ upI (F 20) 0 0 0 ∧ upI (F 20) 0 0 0 ≤ F 5 z_1; rw [upI_self]; omega) (show kf_mSg F z_1 from hsgs z_1 (by omega) (by omega)) hdg hwd (Or.inl (show upI (F 21) 0 ((vp_nar .boolean (iz 0)).toInt) 0 = 0 from (upI_self _ _ _).trans (lo_bz (Or.inl rfl)))) (Or.inr (fun h9 => absurd (show 0 < upI (F 20) 0 0 0 from h9.2.1) (by rw [upI_self]; omega)))) (cwV 2 hts (kx_gV kq_06_mway_7 kq_06_mway_8 kq_06_mway_9 kq_04_msmall_6 kq_06_mway_10 rfl) rfl rfl rfl (by decide +kernel) ⟨Nat.le_of_ble_eq_true rfl, Nat.le_of_ble_eq_true rfl⟩) hP hD hK hG hZ hS hA rfl hl.1 rfl (Nat.le_of_ble_eq_true rfl) dX6_groupOf_15 ⟨Nat.le_of_ble_eq_true rfl, Nat.le_of_ble_eq_true rfl⟩ (fun I_11 F_12 H locs hq_10 hP hD hS => ?_)
  try dsimp only at hq_10
  obtain ⟨rfl, hB13, hf13, ho13, hp13, ht13, hn13, hu13, hg13, he13, hb13, hk13⟩ := hq_10
  have hfz := mfr.tr (mfr.upF (mfr.upF mfr.rf (by decide) _) (by decide) _) hf13
  rw [show (va_up (va_up F 20 (upI (F 20) 0 0)) 21 (upI (F 21) 0 (vp_nar .boolean (iz 0)).toInt)) 20 0 = 0 from (show upI (F 20) 0 0 0 = 0 from upI_self _ _ _), show (va_up (va_up F 20 (upI (F 20) 0 0)) 21 (upI (F 21) 0 (vp_nar .boolean (iz 0)).toInt)) 21 0 = 0 from (show upI (F 21) 0 ((vp_nar .boolean (iz 0)).toInt) 0 = 0 from (upI_self _ _ _).trans (lo_bz (Or.inl rfl)))] at hk13
  have hkk : kf_ky I F z_1 = kf_eu (F 4) (F_12 22 0) (F_12 23 0) (F_12 24 0) ++ _ := hk13
  have hgv := sn_g_eu (S := F 4) hu13 (fun h9 => kf_kI_end _ _ _ _ _ _ _ (by rw [he13 h9]; exact Int.le_refl _)) (fun t9 h9 => kf_kI_1 (hkk.trans h9))
  rw [← hkk] at hgv
  have huk := hu13
  replace huk := fun (_ : Unit) => huk
  replace hu13 := fun (_ : Unit) => hu13
  replace hn13 := fun (_ : Unit) => hn13
  replace he13 := fun (_ : Unit) => he13
  refine lv_aload_n hx hb dX6_groupOf_18 rfl (lv_at hl 1 rfl) ?_
  refine va_get (D := (dC, dI)) (ci := 6) (v := .ref (ma 22)) (C := RX6) (T := TX6) (N := 44) hx hb hts kt_X6 hown hK hP 0 rfl rfl 22 (by decide) (kx_word hG kq_05_morder_2 rfl) (fun _ h9 => h9) rfl dX6_groupOf_19 ?_
  refine lv_iconst (v := iz 0) hx hb dX6_groupOf_22 (by decide) ?_
  refine ki_iald (F := F_12 22) hx hb hK hP 17 16 rfl rfl (by omega) (by omega) (by decide) dX6_groupOf_23 ?_
  have hbd_14 := hB13.2 22 0
  refine lv_iconst (v := iz (-1)) hx hb dX6_groupOf_24 (by decide) ?_
  refine ki_icmp_ne (tgt := 32) hx hb dX6_groupOf_25 (by decide) (by omega) (by omega) (by omega) (by omega) (fun c_15 => ?_) (fun c_15 => ?_)
  · skip
    refine lv_aload_n hx hb dX6_groupOf_32 rfl (lv_at hl 1 rfl) ?_
    refine va_get (D := (dC, dI)) (ci := 6) (v := .ref (ma 22)) (C := RX6) (T := TX6) (N := 44) hx hb hts kt_X6 hown hK hP 0 rfl rfl 22 (by decide) (kx_word hG kq_05_morder_2 rfl) (fun _ h9 => h9) rfl dX6_groupOf_33 ?_
    refine lv_iconst (v := iz 0) hx hb dX6_groupOf_36 (by decide) ?_
    refine ki_iald (F := F_12 22) hx hb hK hP 17 16 rfl rfl (by omega) (by omega) (by decide) dX6_groupOf_37 ?_
    refine lv_iconst (v := iz 1) hx hb dX6_groupOf_38 (by decide) ?_
    refine ki_icmp_ne (tgt := 46) hx hb dX6_groupOf_39 (by decide) (by omega) (by omega) (by omega) (by omega) (fun c_16 => ?_) (fun c_16 => ?_)
    · skip
      refine lv_aload_n hx hb dX6_groupOf_46 rfl (lv_at hl 1 rfl) ?_
      refine va_get (D := (dC, dI)) (ci := 6) (v := .ref (ma 23)) (C := RX6) (T := TX6) (N := 44) hx hb hts kt_X6 hown hK hP 0 rfl rfl 23 (by decide) (kx_word hG kq_05_morder_3 rfl) (fun _ h9 => h9) rfl dX6_groupOf_47 ?_
      refine lv_iconst (v := iz 0) hx hb dX6_groupOf_50 (by decide) ?_
      refine ki_iald (F := F_12 23) hx hb hK hP 18 17 rfl rfl (by omega) (by omega) (by decide) dX6_groupOf_51 ?_
      have hbd_17 := hB13.2 23 0
      exact mk_ireti hx hb hr hlocks hP hD hK hS dX6_groupOf_52 (⟨rfl, hB13, hfz, by omega, (by rw [← htop, hgv]; first | (rw [if_pos (by omega)]) | (rw [if_neg (by omega), if_pos (by omega)]) | (rw [if_neg (by omega), if_neg (by omega)]))⟩)
    · skip
      refine lv_iconst (v := iz 1) hx hb dX6_groupOf_42 (by decide) ?_
      refine lv_goto (tgt := 52) hx hb dX6_groupOf_43 (by decide) ?_
      exact mk_ireti hx hb hr hlocks hP hD hK hS dX6_groupOf_52 (⟨rfl, hB13, hfz, by omega, (by rw [← htop, hgv]; first | (rw [if_pos (by omega)]) | (rw [if_neg (by omega), if_pos (by omega)]) | (rw [if_neg (by omega), if_neg (by omega)]))⟩)
  · skip
    refine lv_iconst (v := iz 0) hx hb dX6_groupOf_28 (by decide) ?_
    refine lv_goto (tgt := 52) hx hb dX6_groupOf_29 (by decide) ?_
    exact mk_ireti hx hb hr hlocks hP hD hK hS dX6_groupOf_52 (⟨rfl, hB13, hfz, by omega, (by rw [← htop, hgv]; first | (rw [if_pos (by omega)]) | (rw [if_neg (by omega), if_pos (by omega)]) | (rw [if_neg (by omega), if_neg (by omega)]))⟩)
set_option maxHeartbeats 4000000 in
set_option maxRecDepth 100000 in
theorem k_row3 (l : Launch) (dC : Nat → ClassId) (dI : Nat → Nat → Nat) (mo : Nat) (ma : Nat → Nat) (cs : Nat → ClassId) (I : Nat → Int) (F : Nat → Int → Int) (p0 : Int) (p1 : Int) (sz : Nat) (hI : mIv I F) (hp01 : -2147483648 ≤ p0) (hp02 : p0 < 2147483648) (hp11 : -2147483648 ≤ p1) (hp12 : p1 < 2147483648) (hKb : mKb I F) (hRv : ∀ e, 0 ≤ e → e < I 1 → ∀ x, x ∈ lo_R F e → lo_v x) : mMi l yX6_row (.code yX6_row cX6_row 4 (some .int)) 5 120 dC dI mo ma cs I F [.ref mo, .int (iz p0), .int (iz p1)] sz (fun (r : Int) (I' : Nat → Int) (F' : Nat → Int → Int) => mWk I F I' F' ∧ mKb I' F' ∧ I' 16 = 1 ∧ ((I' 0 = 1 ∧ ¬ ((0 ≤ p0 ∧ p0 < I' 19) ∧ 0 ≤ p1 ∧ p1 ≤ 4)) ∨ (I' 0 = 0 ∧ ((0 ≤ p0 ∧ p0 < I' 19) ∧ 0 ≤ p1 ∧ p1 ≤ 4) ∧ (p1 = 0 → r = (F' 18 p0)) ∧ (p1 = 1 → r = F' 2 (F' 18 p0)) ∧ (p1 = 2 → ∃ M9, lo_S (lo_row (F' 17) (lo_R F') (F' 18 p0) (I' 1).toNat) M9 ∧ r = (((lo_L (lo_J M9)).length : Nat) : Int)) ∧ (p1 = 3 → r = (((sn_r (F' 17) (F' 13) (wr_se F') (F' 18 p0) (I' 1).toNat).length : Nat) : Int)) ∧ (p1 = 4 → r = sn_g (kf_ky I' F' (rs_w (F' 2) (F' 3) (F' 17) (F' 18 p0) 0)))))) := by
  refine Met.ofW (cc := cX6_row) (maxL := 4) (ret := (some .int)) (by decide) rfl ?_
  intro p e s m args below meth c s₁ B hml hv
  obtain ⟨rfl, hsz, hP, hK, hD0, hG, hZ⟩ := hv
  have hx := B.exec
  have hb := B.bytes
  have hr := B.returns
  have hts := kx_hts (a := ([.ref mo, .int (iz p0), .int (iz p1)] : List Value).toArray) hG
  have hown : s.vm.findClass RX6 = some m.cls := findClass_of_methodNamed B.named
  have hlocks := B.notSynchronized
  subst hsz
  have hD := hD0.self (sz := s.heap.size)
  generalize hAe : va_A (mW mo ma cs I F) s.heap.size = A at hD hZ ⊢
  have hA : ∀ q : Nat, s.heap.size ≤ q → A q := fun q h => by rw [← hAe]; exact Or.inr h
  have hS : va_S A s.heap s.heap [] := va_S.rf
  have hl := lv_entry ([.ref mo, .int (iz p0), .int (iz p1)]) (n := 4) (Nat.le_of_ble_eq_true rfl)
  rw [lg_entry_eq]
  generalize (lg_sl ([.ref mo, .int (iz p0), .int (iz p1)]) ++ List.replicate (4 - (lg_sl ([.ref mo, .int (iz p0), .int (iz p1)])).length) Slot.unset).toArray = ls at hl ⊢
  have hl : lv_has ls 4 [(0, .ref mo), (1, .int (iz p0)), (2, .int (iz p1))] := hl
  have hW0 : mWk I F I F := mWk.rf hI
  have hc0 := hI.hc
  refine lv_aload_n hx hb dX6_row_0 rfl (lv_at hl 0 rfl) ?_
  refine mk_callv (As := []) (rest := []) ⟨hx, hb, hml, hown, hts⟩ (k_look2 l dC dI mo ma cs I F  s.heap.size hI.hB hI.hc hI.hn hI.hlv hI.hkn hI.hk01 hKb.2 hKb.1.1 hKb.1.2.1 hKb.1.2.2.1 hKb.1.2.2.2) (cwV 0 hts (kx_gV kq_11_mask_0 kq_11_mask_1 kq_11_mask_2 kq_04_msmall_6 kq_11_mask_3 rfl) rfl rfl rfl (by decide +kernel) ⟨Nat.le_of_ble_eq_true rfl, Nat.le_of_ble_eq_true rfl⟩) hP hD hK hG hZ hS hA rfl hl.1 rfl (Nat.le_of_ble_eq_true rfl) dX6_row_1 ⟨Nat.le_of_ble_eq_true rfl, Nat.le_of_ble_eq_true rfl⟩ (fun I_3 F_4 H locs hq_2 hP hD hS => ?_)
  try dsimp only at hq_2
  obtain ⟨hq_2, hkr5⟩ := hq_2
  have hkb5 : mKb I_3 F_4 := hKb.look hq_2.2.1 (by decide) hkr5
  have hk6 : mWk I F I_3 F_4 := mWk.look hI hq_2
  have hI6 : mIv I_3 F_4 := hI.go hk6
  have hw6 : mWk _ _ I_3 F_4 := hW0.tr hk6
  have e166 : I_3 16 = 1 := hq_2.2.2.1
  have hc6 := hI6.hc
  obtain ⟨hsmL, hszL, hrwL⟩ := hI6.hkn (by omega)
  refine lv_aload_n hx hb dX6_row_4 rfl (lv_at hl 0 rfl) ?_
  refine lv_iload_n hx hb dX6_row_5 rfl (lv_at hl 1 rfl) ?_
  refine ki_if_lt (tgt := 26) hx hb dX6_row_6 (by decide) (by omega) (by omega) (fun c_7 => ?_) (fun c_7 => ?_)
  · skip
    refine lv_iconst (v := iz 1) hx hb dX6_row_26 (by decide) ?_
    refine lv_goto (tgt := 31) hx hb dX6_row_27 (by decide) ?_
    refine lv_iconst (v := iz 0) hx hb dX6_row_31 (by decide) ?_
    refine lv_iconst (v := iz 0) hx hb dX6_row_32 (by decide) ?_
    refine mk_calli (As := [.int (iz 1), .int (iz 0), .int (iz 0)]) (rest := []) ⟨hx, hb, hml, hown, hts⟩ (k_refused1 l dC dI mo ma cs I_3 F_4 0 0 H.size (by omega) (by omega) (by omega) (by omega)) (cwV 3 hts (kx_gV kq_04_msmall_8 kq_04_msmall_9 kq_04_msmall_10 kq_04_msmall_6 kq_04_msmall_11 rfl) rfl rfl rfl (by decide +kernel) ⟨Nat.le_of_ble_eq_true rfl, Nat.le_of_ble_eq_true rfl⟩) hP hD hK hG hZ hS hA rfl hl.1 rfl (Nat.le_of_ble_eq_true rfl) dX6_row_33 ⟨Nat.le_of_ble_eq_true rfl, Nat.le_of_ble_eq_true rfl⟩ (fun z_8 I_10 F_11 H locs hq_9 hP hD hS => ?_)
    try dsimp only at hq_9
    obtain ⟨rfl, rfl, rfl⟩ := hq_9
    refine ki_if_eq (tgt := 41) hx hb dX6_row_36 (by decide) (by omega) (by omega) (fun c_12 => ?_) (fun c_12 => ?_)
    · omega
    · skip
      refine lv_iconst (v := iz 0) hx hb dX6_row_39 (by decide) ?_
      have hk13 : mWk _ _ (va_up I_3 0 1) F_4 ∧ _ := mWk.thr hI6 (v := 1) (by omega)
      have hI13 : mIv (va_up I_3 0 1) F_4 := hI6.go hk13.1
      have hw13 : mWk _ _ (va_up I_3 0 1) F_4 := hw6.tr hk13.1
      have e1613 : (va_up I_3 0 1) 16 = _ := hk13.2.1
      have e1913 : (va_up I_3 0 1) 19 = _ := hk13.2.2
      have e113 : (va_up I_3 0 1) 1 = _ := hk13.1.2.1.1 1 (by decide)
      have hkb14 : mKb (va_up I_3 0 1) F_4 := hkb5.ui 0 (by decide) _
      exact mk_ireti hx hb hr hlocks hP hD hK hS dX6_row_40 (⟨hw13, hkb14, by omega, Or.inl ⟨rfl, by omega⟩⟩)
  · skip
    refine lv_iload_n hx hb dX6_row_9 rfl (lv_at hl 1 rfl) ?_
    refine lv_aload_n hx hb dX6_row_10 rfl (lv_at hl 0 rfl) ?_
    refine va_get (D := (dC, dI)) (ci := 6) (v := .int (iz (I_3 19))) (C := RX6) (T := TX6) (N := 44) hx hb hts kt_X6 hown hK hP 0 rfl rfl 19 (by decide) (kx_word hG kq_07_mlook_0 rfl) (fun _ h9 => h9) rfl dX6_row_11 ?_
    have hbd_15 := hI6.hB.1 19
    refine ki_icmp_ge (tgt := 26) hx hb dX6_row_14 (by decide) (by omega) (by omega) (by omega) (by omega) (fun c_16 => ?_) (fun c_16 => ?_)
    · skip
      refine lv_iconst (v := iz 1) hx hb dX6_row_26 (by decide) ?_
      refine lv_goto (tgt := 31) hx hb dX6_row_27 (by decide) ?_
      refine lv_iconst (v := iz 0) hx hb dX6_row_31 (by decide) ?_
      refine lv_iconst (v := iz 0) hx hb dX6_row_32 (by decide) ?_
      refine mk_calli (As := [.int (iz 1), .int (iz 0), .int (iz 0)]) (rest := []) ⟨hx, hb, hml, hown, hts⟩ (k_refused1 l dC dI mo ma cs I_3 F_4 0 0 H.size (by omega) (by omega) (by omega) (by omega)) (cwV 3 hts (kx_gV kq_04_msmall_8 kq_04_msmall_9 kq_04_msmall_10 kq_04_msmall_6 kq_04_msmall_11 rfl) rfl rfl rfl (by decide +kernel) ⟨Nat.le_of_ble_eq_true rfl, Nat.le_of_ble_eq_true rfl⟩) hP hD hK hG hZ hS hA rfl hl.1 rfl (Nat.le_of_ble_eq_true rfl) dX6_row_33 ⟨Nat.le_of_ble_eq_true rfl, Nat.le_of_ble_eq_true rfl⟩ (fun z_17 I_19 F_20 H locs hq_18 hP hD hS => ?_)
      try dsimp only at hq_18
      obtain ⟨rfl, rfl, rfl⟩ := hq_18
      refine ki_if_eq (tgt := 41) hx hb dX6_row_36 (by decide) (by omega) (by omega) (fun c_21 => ?_) (fun c_21 => ?_)
      · omega
      · skip
        refine lv_iconst (v := iz 0) hx hb dX6_row_39 (by decide) ?_
        have hk22 : mWk _ _ (va_up I_3 0 1) F_4 ∧ _ := mWk.thr hI6 (v := 1) (by omega)
        have hI22 : mIv (va_up I_3 0 1) F_4 := hI6.go hk22.1
        have hw22 : mWk _ _ (va_up I_3 0 1) F_4 := hw6.tr hk22.1
        have e1622 : (va_up I_3 0 1) 16 = _ := hk22.2.1
        have e1922 : (va_up I_3 0 1) 19 = _ := hk22.2.2
        have e122 : (va_up I_3 0 1) 1 = _ := hk22.1.2.1.1 1 (by decide)
        have hkb23 : mKb (va_up I_3 0 1) F_4 := hkb5.ui 0 (by decide) _
        exact mk_ireti hx hb hr hlocks hP hD hK hS dX6_row_40 (⟨hw22, hkb23, by omega, Or.inl ⟨rfl, by omega⟩⟩)
    · skip
      refine lv_iload_n hx hb dX6_row_17 rfl (lv_at hl 2 rfl) ?_
      refine ki_if_lt (tgt := 26) hx hb dX6_row_18 (by decide) (by omega) (by omega) (fun c_24 => ?_) (fun c_24 => ?_)
      · skip
        refine lv_iconst (v := iz 1) hx hb dX6_row_26 (by decide) ?_
        refine lv_goto (tgt := 31) hx hb dX6_row_27 (by decide) ?_
        refine lv_iconst (v := iz 0) hx hb dX6_row_31 (by decide) ?_
        refine lv_iconst (v := iz 0) hx hb dX6_row_32 (by decide) ?_
        refine mk_calli (As := [.int (iz 1), .int (iz 0), .int (iz 0)]) (rest := []) ⟨hx, hb, hml, hown, hts⟩ (k_refused1 l dC dI mo ma cs I_3 F_4 0 0 H.size (by omega) (by omega) (by omega) (by omega)) (cwV 3 hts (kx_gV kq_04_msmall_8 kq_04_msmall_9 kq_04_msmall_10 kq_04_msmall_6 kq_04_msmall_11 rfl) rfl rfl rfl (by decide +kernel) ⟨Nat.le_of_ble_eq_true rfl, Nat.le_of_ble_eq_true rfl⟩) hP hD hK hG hZ hS hA rfl hl.1 rfl (Nat.le_of_ble_eq_true rfl) dX6_row_33 ⟨Nat.le_of_ble_eq_true rfl, Nat.le_of_ble_eq_true rfl⟩ (fun z_25 I_27 F_28 H locs hq_26 hP hD hS => ?_)
        try dsimp only at hq_26
        obtain ⟨rfl, rfl, rfl⟩ := hq_26
        refine ki_if_eq (tgt := 41) hx hb dX6_row_36 (by decide) (by omega) (by omega) (fun c_29 => ?_) (fun c_29 => ?_)
        · omega
        · skip
          refine lv_iconst (v := iz 0) hx hb dX6_row_39 (by decide) ?_
          have hk30 : mWk _ _ (va_up I_3 0 1) F_4 ∧ _ := mWk.thr hI6 (v := 1) (by omega)
          have hI30 : mIv (va_up I_3 0 1) F_4 := hI6.go hk30.1
          have hw30 : mWk _ _ (va_up I_3 0 1) F_4 := hw6.tr hk30.1
          have e1630 : (va_up I_3 0 1) 16 = _ := hk30.2.1
          have e1930 : (va_up I_3 0 1) 19 = _ := hk30.2.2
          have e130 : (va_up I_3 0 1) 1 = _ := hk30.1.2.1.1 1 (by decide)
          have hkb31 : mKb (va_up I_3 0 1) F_4 := hkb5.ui 0 (by decide) _
          exact mk_ireti hx hb hr hlocks hP hD hK hS dX6_row_40 (⟨hw30, hkb31, by omega, Or.inl ⟨rfl, by omega⟩⟩)
      · skip
        refine lv_iload_n hx hb dX6_row_21 rfl (lv_at hl 2 rfl) ?_
        refine lv_iconst (v := iz 4) hx hb dX6_row_22 (by decide) ?_
        refine ki_icmp_le (tgt := 30) hx hb dX6_row_23 (by decide) (by omega) (by omega) (by omega) (by omega) (fun c_32 => ?_) (fun c_32 => ?_)
        · skip
          refine lv_iconst (v := iz 0) hx hb dX6_row_30 (by decide) ?_
          refine lv_iconst (v := iz 0) hx hb dX6_row_31 (by decide) ?_
          refine lv_iconst (v := iz 0) hx hb dX6_row_32 (by decide) ?_
          refine mk_calli (As := [.int (iz 0), .int (iz 0), .int (iz 0)]) (rest := []) ⟨hx, hb, hml, hown, hts⟩ (k_refused0 l dC dI mo ma cs I_3 F_4  H.size ) (cwV 3 hts (kx_gV kq_04_msmall_8 kq_04_msmall_9 kq_04_msmall_10 kq_04_msmall_6 kq_04_msmall_11 rfl) rfl rfl rfl (by decide +kernel) ⟨Nat.le_of_ble_eq_true rfl, Nat.le_of_ble_eq_true rfl⟩) hP hD hK hG hZ hS hA rfl hl.1 rfl (Nat.le_of_ble_eq_true rfl) dX6_row_33 ⟨Nat.le_of_ble_eq_true rfl, Nat.le_of_ble_eq_true rfl⟩ (fun z_33 I_35 F_36 H locs hq_34 hP hD hS => ?_)
          try dsimp only at hq_34
          obtain ⟨rfl, rfl, rfl⟩ := hq_34
          refine ki_if_eq (tgt := 41) hx hb dX6_row_36 (by decide) (by omega) (by omega) (fun c_37 => ?_) (fun c_37 => ?_)
          · skip
            have hrw9 := hrwL p0 (by omega) (by omega)
            refine lv_aload_n hx hb dX6_row_41 rfl (lv_at hl 0 rfl) ?_
            refine va_get (D := (dC, dI)) (ci := 6) (v := .ref (ma 18)) (C := RX6) (T := TX6) (N := 44) hx hb hts kt_X6 hown hK hP 0 rfl rfl 18 (by decide) (kx_word hG kq_07_mlook_1 rfl) (fun _ h9 => h9) rfl dX6_row_42 ?_
            refine lv_iload_n hx hb dX6_row_45 rfl (lv_at hl 1 rfl) ?_
            refine ki_iald (F := F_4 18) hx hb hK hP 14 13 rfl rfl (by omega) (by omega) (by decide) dX6_row_46 ?_
            have hbd_38 := hI6.hB.2 18 p0
            refine lv_istore_n (lv' := [(3, .int (iz (F_4 18 p0))), (0, .ref mo), (1, .int (iz p0)), (2, .int (iz p1))]) hx hb dX6_row_47 rfl hl (by decide) rfl (fun ls hl => ?_)
            refine lv_iload_n hx hb dX6_row_48 rfl (lv_at hl 3 rfl) ?_
            refine lv_iconst (v := iz 2) hx hb dX6_row_49 (by decide) ?_
            refine ki_icmp_ne (tgt := 64) hx hb dX6_row_50 (by decide) (by omega) (by omega) (by omega) (by omega) (fun c_39 => ?_) (fun c_39 => ?_)
            · skip
              refine lv_iload_n hx hb dX6_row_64 rfl (lv_at hl 3 rfl) ?_
              refine lv_iconst (v := iz 3) hx hb dX6_row_65 (by decide) ?_
              refine ki_icmp_ne (tgt := 79) hx hb dX6_row_66 (by decide) (by omega) (by omega) (by omega) (by omega) (fun c_40 => ?_) (fun c_40 => ?_)
              · skip
                refine lv_iload_n hx hb dX6_row_79 rfl (lv_at hl 3 rfl) ?_
                refine ki_if_ne (tgt := 87) hx hb dX6_row_80 (by decide) (by omega) (by omega) (fun c_41 => ?_) (fun c_41 => ?_)
                · skip
                  refine lv_iload_n hx hb dX6_row_87 rfl (lv_at hl 3 rfl) ?_
                  refine lv_iconst (v := iz 1) hx hb dX6_row_88 (by decide) ?_
                  refine ki_icmp_ne (tgt := 101) hx hb dX6_row_89 (by decide) (by omega) (by omega) (by omega) (by omega) (fun c_42 => ?_) (fun c_42 => ?_)
                  · skip
                    refine lv_aload_n hx hb dX6_row_101 rfl (lv_at hl 1 rfl) ?_
                    refine lv_iload_n hx hb dX6_row_102 rfl (lv_at hl 0 rfl) ?_
                    have hk43 : mWk _ _ (va_up I_3 0 0) F_4 ∧ _ := mWk.thr hI6 (v := 0) (by omega)
                    have hI43 : mIv (va_up I_3 0 0) F_4 := hI6.go hk43.1
                    have hw43 : mWk _ _ (va_up I_3 0 0) F_4 := hw6.tr hk43.1
                    have e1643 : (va_up I_3 0 0) 16 = _ := hk43.2.1
                    have e1943 : (va_up I_3 0 0) 19 = _ := hk43.2.2
                    have e143 : (va_up I_3 0 0) 1 = _ := hk43.1.2.1.1 1 (by decide)
                    have hkb44 : mKb (va_up I_3 0 0) F_4 := hkb5.ui 0 (by decide) _
                    refine mk_calli (As := [.int (iz (F_4 18 p0))]) (rest := []) ⟨hx, hb, hml, hown, hts⟩ (k_groupOf2 l dC dI mo ma cs (va_up I_3 0 0) F_4 (F_4 18 p0) H.size hI43.hB hI43.hc hI43.hn hI43.hlv (hI43.hkn (by omega)).1 (by omega) hkb44.1.2.1 hkb44.1.2.2.1 hkb44.1.2.2.2) (cwV 1 hts (kx_gV kq_10_mprint_28 kq_10_mprint_29 kq_10_mprint_30 kq_04_msmall_6 kq_10_mprint_31 rfl) rfl rfl rfl (by decide +kernel) ⟨Nat.le_of_ble_eq_true rfl, Nat.le_of_ble_eq_true rfl⟩) hP hD hK hG hZ hS hA rfl hl.1 rfl (Nat.le_of_ble_eq_true rfl) dX6_row_103 ⟨Nat.le_of_ble_eq_true rfl, Nat.le_of_ble_eq_true rfl⟩ (fun z_45 I_47 F_48 H locs hq_46 hP hD hS => ?_)
                    try dsimp only at hq_46
                    have hgq := hq_46.2.2.2.2
                    have hgf := hq_46.2.2.1
                    have hgi := hq_46.1
                    have hq_46 := (⟨hq_46.1, hq_46.2.1, hq_46.2.2.1, hq_46.2.2.2.1⟩ : _ ∧ _ ∧ _ ∧ _)
                    have hkb49 : mKb I_47 F_48 := (by have h9 := hq_46.2.2.1; rw [← hq_46.1]; exact hkb44.fr h9 (by decide) (by decide))
                    have hk50 : mWk (va_up I_3 0 0) F_4 I_47 F_48 ∧ _ := mWk.scr hI43 hq_46.1 hq_46.2.1 hq_46.2.2.1
                    have hI50 : mIv I_47 F_48 := hI43.go hk50.1
                    have hw50 : mWk _ _ I_47 F_48 := hw43.tr hk50.1
                    have e1650 := hk50.2.1
                    have e1950 := hk50.2.2
                    have hc50 := hI50.hc
                    have hx50a := hk50.1.2.1.1 1 (by decide)
                    have hrg_51 := hq_46.2.2.2
                    exact mk_ireti hx hb hr hlocks hP hD hK hS dX6_row_106 (⟨hw50, hkb49, by omega, Or.inr ⟨((congrFun hgi 0).symm.trans rfl), by omega, fun h9 => absurd h9 (by omega), fun h9 => absurd h9 (by omega), fun h9 => absurd h9 (by omega), fun h9 => absurd h9 (by omega), fun _ => (by show z_45 = sn_g (kf_ky I_47 F_48 (rs_w (F_48 2) (F_48 3) (F_48 17) (F_48 18 p0) 0)); rw [hgf.2 2 (by decide), hgf.2 3 (by decide), hgf.2 17 (by decide), hgf.2 18 (by decide), hgq]; unfold kf_ky; rw [kf_sg_fr (hgf.2 4 (by decide)), hgf.2 5 (by decide)]; first | rfl | (rw [← hgi]))⟩⟩)
                  · skip
                    refine lv_aload_n hx hb dX6_row_92 rfl (lv_at hl 1 rfl) ?_
                    refine va_get (D := (dC, dI)) (ci := 6) (v := .ref (ma 2)) (C := RX6) (T := TX6) (N := 44) hx hb hts kt_X6 hown hK hP 0 rfl rfl 2 (by decide) (kx_word hG kq_04_msmall_12 rfl) (fun _ h9 => h9) rfl dX6_row_93 ?_
                    refine lv_iload_n hx hb dX6_row_96 rfl (lv_at hl 0 rfl) ?_
                    refine ki_iald (F := F_4 2) hx hb hK hP 1 0 rfl rfl (by omega) (by omega) (by decide) dX6_row_97 ?_
                    have hbd_52 := hI6.hB.2 2 (F_4 18 p0)
                    refine lv_goto (tgt := 106) hx hb dX6_row_98 (by decide) ?_
                    have hk53 : mWk _ _ (va_up I_3 0 0) F_4 ∧ _ := mWk.thr hI6 (v := 0) (by omega)
                    have hI53 : mIv (va_up I_3 0 0) F_4 := hI6.go hk53.1
                    have hw53 : mWk _ _ (va_up I_3 0 0) F_4 := hw6.tr hk53.1
                    have e1653 : (va_up I_3 0 0) 16 = _ := hk53.2.1
                    have e1953 : (va_up I_3 0 0) 19 = _ := hk53.2.2
                    have e153 : (va_up I_3 0 0) 1 = _ := hk53.1.2.1.1 1 (by decide)
                    have hkb54 : mKb (va_up I_3 0 0) F_4 := hkb5.ui 0 (by decide) _
                    exact mk_ireti hx hb hr hlocks hP hD hK hS dX6_row_106 (⟨hw53, hkb54, by omega, Or.inr ⟨rfl, by omega, fun h9 => by first | rfl | exact absurd h9 (by omega), fun h9 => by first | rfl | exact absurd h9 (by omega), fun h9 => absurd h9 (by omega), fun h9 => absurd h9 (by omega), fun h9 => absurd h9 (by omega)⟩⟩)
                · skip
                  refine lv_iload_n hx hb dX6_row_83 rfl (lv_at hl 0 rfl) ?_
                  refine lv_goto (tgt := 106) hx hb dX6_row_84 (by decide) ?_
                  have hk55 : mWk _ _ (va_up I_3 0 0) F_4 ∧ _ := mWk.thr hI6 (v := 0) (by omega)
                  have hI55 : mIv (va_up I_3 0 0) F_4 := hI6.go hk55.1
                  have hw55 : mWk _ _ (va_up I_3 0 0) F_4 := hw6.tr hk55.1
                  have e1655 : (va_up I_3 0 0) 16 = _ := hk55.2.1
                  have e1955 : (va_up I_3 0 0) 19 = _ := hk55.2.2
                  have e155 : (va_up I_3 0 0) 1 = _ := hk55.1.2.1.1 1 (by decide)
                  have hkb56 : mKb (va_up I_3 0 0) F_4 := hkb5.ui 0 (by decide) _
                  exact mk_ireti hx hb hr hlocks hP hD hK hS dX6_row_106 (⟨hw55, hkb56, by omega, Or.inr ⟨rfl, by omega, fun h9 => by first | rfl | exact absurd h9 (by omega), fun h9 => by first | rfl | exact absurd h9 (by omega), fun h9 => absurd h9 (by omega), fun h9 => absurd h9 (by omega), fun h9 => absurd h9 (by omega)⟩⟩)
              · skip
                refine lv_aload_n hx hb dX6_row_69 rfl (lv_at hl 1 rfl) ?_
                refine lv_iload_n hx hb dX6_row_70 rfl (lv_at hl 0 rfl) ?_
                have hk57 : mWk _ _ (va_up I_3 0 0) F_4 ∧ _ := mWk.thr hI6 (v := 0) (by omega)
                have hI57 : mIv (va_up I_3 0 0) F_4 := hI6.go hk57.1
                have hw57 : mWk _ _ (va_up I_3 0 0) F_4 := hw6.tr hk57.1
                have e1657 : (va_up I_3 0 0) 16 = _ := hk57.2.1
                have e1957 : (va_up I_3 0 0) 19 = _ := hk57.2.2
                have e157 : (va_up I_3 0 0) 1 = _ := hk57.1.2.1.1 1 (by decide)
                have hkb58 : mKb (va_up I_3 0 0) F_4 := hkb5.ui 0 (by decide) _
                refine mk_callv (As := [.int (iz (F_4 18 p0))]) (rest := []) ⟨hx, hb, hml, hown, hts⟩ (k_gatherShown2 l dC dI mo ma cs (va_up I_3 0 0) F_4 (F_4 18 p0) H.size hI57.hB hI57.hc hI57.hmy (hI57.hkn (by omega)).1 hI57.hse hI57.hsu (by omega) (by omega)) (cwV 1 hts (kx_gV kq_10_mprint_12 kq_10_mprint_13 kq_10_mprint_14 kq_04_msmall_6 kq_10_mprint_15 rfl) rfl rfl rfl (by decide +kernel) ⟨Nat.le_of_ble_eq_true rfl, Nat.le_of_ble_eq_true rfl⟩) hP hD hK hG hZ hS hA rfl hl.1 rfl (Nat.le_of_ble_eq_true rfl) dX6_row_71 ⟨Nat.le_of_ble_eq_true rfl, Nat.le_of_ble_eq_true rfl⟩ (fun I_61 F_62 H locs hq_60 hP hD hS => ?_)
                try dsimp only at hq_60
                have hSs := hq_60.2.2.2.2
                have hfs := hq_60.2.1
                have hq_60 := (⟨hq_60.1, hq_60.2.1, hq_60.2.2.1, hq_60.2.2.2.1⟩ : _ ∧ _ ∧ _ ∧ _)
                have hkb63 : mKb I_61 F_62 := hkb58.fr hq_60.2.1 (by decide) (by decide)
                have hk64 : mWk (va_up I_3 0 0) F_4 I_61 F_62 ∧ _ := mWk.shw hI57 hq_60
                have hI64 : mIv I_61 F_62 := hI57.go hk64.1
                have hw64 : mWk _ _ I_61 F_62 := hw57.tr hk64.1
                have e1664 := hk64.2.1
                have e1964 := hk64.2.2
                have hc64 := hI64.hc
                have hx64a := hk64.1.2.1.1 1 (by decide)
                have hs1 : I_61 1 = I_3 1 := hfs.1 1 (by decide)
                refine lv_aload_n hx hb dX6_row_74 rfl (lv_at hl 1 rfl) ?_
                refine va_get (D := (dC, dI)) (ci := 6) (v := .int (iz (I_61 35))) (C := RX6) (T := TX6) (N := 44) hx hb hts kt_X6 hown hK hP 0 rfl rfl 35 (by decide) (kx_word hG kq_09_mput_3 rfl) (fun _ h9 => h9) rfl dX6_row_75 ?_
                have hbd_65 := hI64.hB.1 35
                exact mk_ireti hx hb hr hlocks hP hD hK hS dX6_row_78 (⟨hw64, hkb63, by omega, Or.inr ⟨((hfs.1 0 (by decide)).trans rfl), by omega, fun h9 => absurd h9 (by omega), fun h9 => absurd h9 (by omega), fun h9 => absurd h9 (by omega), fun _ => (by show I_61 35 = (((sn_r (F_62 17) (F_62 13) (wr_se F_62) (F_62 18 p0) (I_61 1).toNat).length : Nat) : Int); unfold wr_se; rw [hfs.2 17 (by decide), hfs.2 13 (by decide), hfs.2 12 (by decide), hfs.2 18 (by decide), hs1]; have h9 := congrArg List.length hSs; rw [kf_ls_len] at h9; have h8 : (((sn_r (F_4 17) (F_4 13) (fun e k => F_4 12 (5 * e + k)) (F_4 18 p0) (I_3 1).toNat).length : Nat) : Int) = ((((I_61 35).toNat : Nat)) : Int) := (by rw [h9]; rfl); rw [h8]; omega), fun h9 => absurd h9 (by omega)⟩⟩)
            · skip
              refine lv_aload_n hx hb dX6_row_53 rfl (lv_at hl 1 rfl) ?_
              refine lv_iload_n hx hb dX6_row_54 rfl (lv_at hl 0 rfl) ?_
              have hk66 : mWk _ _ (va_up I_3 0 0) F_4 ∧ _ := mWk.thr hI6 (v := 0) (by omega)
              have hI66 : mIv (va_up I_3 0 0) F_4 := hI6.go hk66.1
              have hw66 : mWk _ _ (va_up I_3 0 0) F_4 := hw6.tr hk66.1
              have e1666 : (va_up I_3 0 0) 16 = _ := hk66.2.1
              have e1966 : (va_up I_3 0 0) 19 = _ := hk66.2.2
              have e166 : (va_up I_3 0 0) 1 = _ := hk66.1.2.1.1 1 (by decide)
              have hkb67 : mKb (va_up I_3 0 0) F_4 := hkb5.ui 0 (by decide) _
              refine mk_callv (As := [.int (iz (F_4 18 p0))]) (rest := []) ⟨hx, hb, hml, hown, hts⟩ (k_gather2 l dC dI mo ma cs (va_up I_3 0 0) F_4 (F_4 18 p0) H.size hI66.hB hI66.hc hI66.hln hI66.hmf (by omega) (by omega) (by intro e a b x hx; rw [lo_R_fr (hw66.2.1.2 6 (by decide)) (hw66.2.1.2 7 (by decide)) (hw66.2.1.2 8 (by decide)) (hw66.2.1.2 9 (by decide)) (hw66.2.1.2 10 (by decide)) (hw66.2.1.2 11 (by decide))] at hx; exact hRv e a (by have h9 := hw66.2.1.1 1 (by decide); have h8 : e < I_3 1 := b; omega) x hx)) (cwV 1 hts (kx_gV kq_10_mprint_0 kq_10_mprint_1 kq_10_mprint_2 kq_04_msmall_6 kq_10_mprint_3 rfl) rfl rfl rfl (by decide +kernel) ⟨Nat.le_of_ble_eq_true rfl, Nat.le_of_ble_eq_true rfl⟩) hP hD hK hG hZ hS hA rfl hl.1 rfl (Nat.le_of_ble_eq_true rfl) dX6_row_55 ⟨Nat.le_of_ble_eq_true rfl, Nat.le_of_ble_eq_true rfl⟩ (fun I_70 F_71 H locs hq_69 hP hD hS => ?_)
              try dsimp only at hq_69
              have hSg := hq_69.2.2.2.2
              have hfg := hq_69.2.1
              have hq_69 := (⟨hq_69.1, hq_69.2.1, hq_69.2.2.1, hq_69.2.2.2.1⟩ : _ ∧ _ ∧ _ ∧ _)
              have hkb72 : mKb I_70 F_71 := hkb67.fr hq_69.2.1 (by decide) (by decide)
              have hk73 : mWk (va_up I_3 0 0) F_4 I_70 F_71 ∧ _ := mWk.gat hI66 hq_69
              have hI73 : mIv I_70 F_71 := hI66.go hk73.1
              have hw73 : mWk _ _ I_70 F_71 := hw66.tr hk73.1
              have e1673 := hk73.2.1
              have e1973 := hk73.2.2
              have hc73 := hI73.hc
              have hx73a := hk73.1.2.1.1 1 (by decide)
              have hRg : lo_R F_71 = lo_R F_4 := funext (fun e => lo_R_fr (hfg.2 6 (by decide)) (hfg.2 7 (by decide)) (hfg.2 8 (by decide)) (hfg.2 9 (by decide)) (hfg.2 10 (by decide)) (hfg.2 11 (by decide)))
              have hg1 : I_70 1 = I_3 1 := hfg.1 1 (by decide)
              have hRv9 : ∀ e, 0 ≤ e → e < I_3 1 → ∀ x, x ∈ lo_R F_4 e → lo_v x := (by intro e a b x hx; rw [lo_R_fr (hw66.2.1.2 6 (by decide)) (hw66.2.1.2 7 (by decide)) (hw66.2.1.2 8 (by decide)) (hw66.2.1.2 9 (by decide)) (hw66.2.1.2 10 (by decide)) (hw66.2.1.2 11 (by decide))] at hx; exact hRv e a (by have h9 := hw66.2.1.1 1 (by decide); have h8 : e < I_3 1 := b; omega) x hx)
              have hGv9 := lo_S_v hSg (fun x hx => lo_row_all (V := lo_v) _ (fun e a b => hRv9 e a (show e < I_3 1 by have h8 : e < ((((I_3 1).toNat : Nat)) : Int) := b; omega)) x hx)
              refine lv_aload_n hx hb dX6_row_58 rfl (lv_at hl 1 rfl) ?_
              refine lv_iconst (v := iz (-1)) hx hb dX6_row_59 (by decide) ?_
              refine mk_calli (As := [.int (iz (-1))]) (rest := []) ⟨hx, hb, hml, hown, hts⟩ (k_locate2 l dC dI mo ma cs I_70 F_71 (-1) H.size hI73.hB (by have h9 := hI73.hps.2.2.1; omega) hI73.hps.2.2.2 hI73.hps.2.1 (by omega) (by omega) hSg.1 hGv9) (cwV 1 hts (kx_gV kq_10_mprint_4 kq_10_mprint_5 kq_10_mprint_6 kq_04_msmall_6 kq_10_mprint_7 rfl) rfl rfl rfl (by decide +kernel) ⟨Nat.le_of_ble_eq_true rfl, Nat.le_of_ble_eq_true rfl⟩) hP hD hK hG hZ hS hA rfl hl.1 rfl (Nat.le_of_ble_eq_true rfl) dX6_row_60 ⟨Nat.le_of_ble_eq_true rfl, Nat.le_of_ble_eq_true rfl⟩ (fun z_74 I_76 F_77 H locs hq_75 hP hD hS => ?_)
              try dsimp only at hq_75
              have hlf := hq_75.2.2.1
              have hlq := hq_75.2.2.2.2.2.1
              have hln9 := hq_75.2.2.2.2.2.2.1
              have hle9 := hq_75.2.2.2.2.2.2.2
              have hq_75 := (⟨hq_75.1, hq_75.2.1, hq_75.2.2.1, hq_75.2.2.2.1, hq_75.2.2.2.2.1⟩ : _ ∧ _ ∧ _ ∧ _ ∧ _)
              have hFl := hq_75.1
              have hkb78 : mKb I_76 F_77 := (by have h9 := hq_75.2.2.1; rw [← hq_75.1]; exact hkb72.fr h9 (by decide) (by decide))
              have hk79 : mWk I_70 F_71 I_76 F_77 ∧ _ := mWk.loc hI73 hq_75
              have hI79 : mIv I_76 F_77 := hI73.go hk79.1
              have hw79 : mWk _ _ I_76 F_77 := hw73.tr hk79.1
              have e1679 := hk79.2.1
              have e1979 := hk79.2.2
              have hc79 := hI79.hc
              have hx79a := hk79.1.2.1.1 1 (by decide)
              have hr9 := hq_75.2.2.2.2
              have hl1 : I_76 1 = I_70 1 := hlf.1 1 (by decide)
              replace hlq := fun (_ : Unit) => hlq
              exact mk_ireti hx hb hr hlocks hP hD hK hS dX6_row_63 (⟨hw79, hkb78, by omega, Or.inr ⟨((hlf.1 0 (by decide)).trans ((hfg.1 0 (by decide)).trans rfl)), by omega, fun h9 => absurd h9 (by omega), fun h9 => absurd h9 (by omega), fun _ => ⟨(lo_G (I_70 29) F_71), (by show lo_S (lo_row (F_77 17) (lo_R F_77) (F_77 18 p0) (I_76 1).toNat) (lo_G (I_70 29) F_71); rw [← hFl, hRg, hfg.2 17 (by decide), hfg.2 18 (by decide), hl1, hg1]; exact hSg), hln9⟩, fun h9 => absurd h9 (by omega), fun h9 => absurd h9 (by omega)⟩⟩)
          · omega
        · skip
          refine lv_iconst (v := iz 1) hx hb dX6_row_26 (by decide) ?_
          refine lv_goto (tgt := 31) hx hb dX6_row_27 (by decide) ?_
          refine lv_iconst (v := iz 0) hx hb dX6_row_31 (by decide) ?_
          refine lv_iconst (v := iz 0) hx hb dX6_row_32 (by decide) ?_
          refine mk_calli (As := [.int (iz 1), .int (iz 0), .int (iz 0)]) (rest := []) ⟨hx, hb, hml, hown, hts⟩ (k_refused1 l dC dI mo ma cs I_3 F_4 0 0 H.size (by omega) (by omega) (by omega) (by omega)) (cwV 3 hts (kx_gV kq_04_msmall_8 kq_04_msmall_9 kq_04_msmall_10 kq_04_msmall_6 kq_04_msmall_11 rfl) rfl rfl rfl (by decide +kernel) ⟨Nat.le_of_ble_eq_true rfl, Nat.le_of_ble_eq_true rfl⟩) hP hD hK hG hZ hS hA rfl hl.1 rfl (Nat.le_of_ble_eq_true rfl) dX6_row_33 ⟨Nat.le_of_ble_eq_true rfl, Nat.le_of_ble_eq_true rfl⟩ (fun z_80 I_82 F_83 H locs hq_81 hP hD hS => ?_)
          try dsimp only at hq_81
          obtain ⟨rfl, rfl, rfl⟩ := hq_81
          refine ki_if_eq (tgt := 41) hx hb dX6_row_36 (by decide) (by omega) (by omega) (fun c_84 => ?_) (fun c_84 => ?_)
          · omega
          · skip
            refine lv_iconst (v := iz 0) hx hb dX6_row_39 (by decide) ?_
            have hk85 : mWk _ _ (va_up I_3 0 1) F_4 ∧ _ := mWk.thr hI6 (v := 1) (by omega)
            have hI85 : mIv (va_up I_3 0 1) F_4 := hI6.go hk85.1
            have hw85 : mWk _ _ (va_up I_3 0 1) F_4 := hw6.tr hk85.1
            have e1685 : (va_up I_3 0 1) 16 = _ := hk85.2.1
            have e1985 : (va_up I_3 0 1) 19 = _ := hk85.2.2
            have e185 : (va_up I_3 0 1) 1 = _ := hk85.1.2.1.1 1 (by decide)
            have hkb86 : mKb (va_up I_3 0 1) F_4 := hkb5.ui 0 (by decide) _
            exact mk_ireti hx hb hr hlocks hP hD hK hS dX6_row_40 (⟨hw85, hkb86, by omega, Or.inl ⟨rfl, by omega⟩⟩)
