/-! the landed class, exact: orders, ranks, keys -/

set_option maxHeartbeats 4000000 in
set_option maxRecDepth 100000 in
theorem x_orderTo2 (l : Launch) (dC : Nat → ClassId) (dI : Nat → Nat → Nat) (cI cB cE : ClassId) (L : Int) (o : Nat) (r : Nat) (n : Nat) (z : Int) (F : Int → Int) (Lb : Int) (ob : Nat) (rb : Nat) (nb : Nat) (zb : Int) (Fb : Int → Int) (sz : Nat) (hok : 0 ≤ z ∧ z ≤ (n : Int) ∧ (n : Int) ≤ L ∧ L ≤ 1600) (hF : iB F) (hokb : 0 ≤ zb ∧ zb ≤ (nb : Int) ∧ (nb : Int) ≤ Lb ∧ Lb ≤ 1600) (hFb : iB Fb) : Met l yX1_orderTo [.code yX1_orderTo cX1_orderTo 5 (some .int)] ({ frames := 1, cells := 0, slots := 0, locals := 21 }) (va_Pc [.ref o, .ref ob] (pPre dC dI ((iU cI L o r n z F) ++ (iU cI Lb ob rb nb zb Fb)) (xT cI cB cE) sz)) (pQ (fun z => some (.int (iz z))) (fun (q : Int) => q = kf_lx (kf_ls F 0 z.toNat) (kf_ls Fb 0 zb.toNat))) 0 0 (fun _ => False) := by
  refine Met.ofW (cc := cX1_orderTo) (maxL := 5) (ret := (some .int)) (by decide) rfl ?_
  intro p e s m args below meth c s₁ B hml hv
  obtain ⟨rfl, hsz, hP, hK, hG⟩ := hv
  have hx := B.exec
  have hb := B.bytes
  have hr := B.returns
  have hts := kx_hts (a := ([.ref o, .ref ob] : List Value).toArray) hG
  have hown : s.vm.findClass RX1 = some m.cls := findClass_of_methodNamed B.named
  have hlocks := B.notSynchronized
  subst hsz
  have hS : va_S (fun _ => False) s.heap s.heap [] := va_S.rf
  have hl := lv_entry ([.ref o, .ref ob]) (n := 5) (Nat.le_of_ble_eq_true rfl)
  rw [lg_entry_eq]
  generalize (lg_sl ([.ref o, .ref ob]) ++ List.replicate (5 - (lg_sl ([.ref o, .ref ob])).length) Slot.unset).toArray = ls at hl ⊢
  have hl : lv_has ls 5 [(0, .ref o), (1, .ref ob)] := hl
  generalize hQe : MQ below (pQ (fun z => some (.int (iz z))) (fun (q : Int) => q = kf_lx (kf_ls F 0 z.toNat) (kf_ls Fb 0 zb.toNat))) ([.ref o, .ref ob] : List Value).toArray s 0 0 (fun _ => False) = QQ
  refine lv_iconst (v := iz 0) hx hb dX1_orderTo_0 (by decide) ?_
  refine lv_istore_n (lv' := [(2, .int (iz 0)), (0, .ref o), (1, .ref ob)]) hx hb dX1_orderTo_1 rfl hl (by decide) rfl (fun ls hl => ?_)
  have lp2 : ∀ (n0 : Nat) (k : Int), ((0 ≤ k ∧ k ≤ z ∧ k ≤ zb) ∧ (kf_lx (kf_ls F 0 z.toNat) (kf_ls Fb 0 zb.toNat) = kf_lx (kf_ls F k (z - k).toNat) (kf_ls Fb k (zb - k).toNat))) → (z - k).toNat < n0 → ∀ (locs : List Loc), va_S (fun _ => False) s.heap s.heap locs → ∀ ls : Array Slot, lv_has ls 5 [(2, .int (iz k)), (0, .ref o), (1, .ref ob)] → W p l e (headSpec [.code yX1_orderTo cX1_orderTo 5 (some .int)] ({ frames := 1, cells := 0, slots := 0, locals := 21 })).room s m ([.ref o, .ref ob] : List Value).toArray below meth c s.heap locs 0 0 QQ (F0 m 2 ls []) := by
    intro n0
    induction n0 with
    | zero => intro k hinv hm0; exact absurd hm0 (Nat.not_lt_zero _)
    | succ n0 ih2 =>
      intro k hinv hm0 locs hS ls hl
      obtain ⟨hk, heq⟩ := hinv
      refine lv_iload_n hx hb dX1_orderTo_2 rfl (lv_at hl 0 rfl) ?_
      refine lv_aload_n hx hb dX1_orderTo_3 rfl (lv_at hl 1 rfl) ?_
      refine va_get (D := (dC, dI)) (ci := 1) (v := .int (iz z)) (C := RX1) (T := TX1) (N := 3) hx hb hts kt_X1 hown hK hP 0 rfl rfl 2 (by decide) (kx_word hG kq_13_xints_0 rfl) (fun _ h9 => h9) rfl dX1_orderTo_4 ?_
      refine ki_icmp_ge (tgt := 55) hx hb dX1_orderTo_7 (by decide) (by omega) (by omega) (by omega) (by omega) (fun c_1 => ?_) (fun c_1 => ?_)
      · skip
        refine lv_aload_n hx hb dX1_orderTo_55 rfl (lv_at hl 1 rfl) ?_
        refine va_get (D := (dC, dI)) (ci := 1) (v := .int (iz z)) (C := RX1) (T := TX1) (N := 3) hx hb hts kt_X1 hown hK hP 0 rfl rfl 2 (by decide) (kx_word hG kq_13_xints_0 rfl) (fun _ h9 => h9) rfl dX1_orderTo_56 ?_
        refine lv_aload_n hx hb dX1_orderTo_59 rfl (lv_at hl 2 rfl) ?_
        refine va_get (D := (dC, dI)) (ci := 1) (v := .int (iz zb)) (C := RX1) (T := TX1) (N := 3) hx hb hts kt_X1 hown hK hP 2 rfl rfl 2 (by decide) (kx_word hG kq_13_xints_0 rfl) (fun _ h9 => h9) rfl dX1_orderTo_60 ?_
        refine ki_icmp_ne (tgt := 70) hx hb dX1_orderTo_63 (by decide) (by omega) (by omega) (by omega) (by omega) (fun c_2 => ?_) (fun c_2 => ?_)
        · skip
          refine lv_aload_n hx hb dX1_orderTo_70 rfl (lv_at hl 1 rfl) ?_
          refine va_get (D := (dC, dI)) (ci := 1) (v := .int (iz z)) (C := RX1) (T := TX1) (N := 3) hx hb hts kt_X1 hown hK hP 0 rfl rfl 2 (by decide) (kx_word hG kq_13_xints_0 rfl) (fun _ h9 => h9) rfl dX1_orderTo_71 ?_
          refine lv_aload_n hx hb dX1_orderTo_74 rfl (lv_at hl 2 rfl) ?_
          refine va_get (D := (dC, dI)) (ci := 1) (v := .int (iz zb)) (C := RX1) (T := TX1) (N := 3) hx hb hts kt_X1 hown hK hP 2 rfl rfl 2 (by decide) (kx_word hG kq_13_xints_0 rfl) (fun _ h9 => h9) rfl dX1_orderTo_75 ?_
          refine ki_icmp_ge (tgt := 85) hx hb dX1_orderTo_78 (by decide) (by omega) (by omega) (by omega) (by omega) (fun c_3 => ?_) (fun c_3 => ?_)
          · skip
            refine lv_iconst (v := iz 1) hx hb dX1_orderTo_85 (by decide) ?_
            rw [← hQe]
            exact xp_iret (z := 1) hx hb hr rfl hlocks rfl hS.2.2 dX1_orderTo_86 (by rw [heq, kf_lx_end (by omega) (by omega) (by omega)]; first | (exfalso; omega) | (rw [if_pos (by omega)]) | (rw [if_neg (by omega), if_pos (by omega)]) | (rw [if_neg (by omega), if_neg (by omega)]))
          · skip
            refine lv_iconst (v := iz (-1)) hx hb dX1_orderTo_81 (by decide) ?_
            refine lv_goto (tgt := 86) hx hb dX1_orderTo_82 (by decide) ?_
            rw [← hQe]
            exact xp_iret (z := (-1)) hx hb hr rfl hlocks rfl hS.2.2 dX1_orderTo_86 (by rw [heq, kf_lx_end (by omega) (by omega) (by omega)]; first | (exfalso; omega) | (rw [if_pos (by omega)]) | (rw [if_neg (by omega), if_pos (by omega)]) | (rw [if_neg (by omega), if_neg (by omega)]))
        · skip
          refine lv_iconst (v := iz 0) hx hb dX1_orderTo_66 (by decide) ?_
          refine lv_goto (tgt := 86) hx hb dX1_orderTo_67 (by decide) ?_
          rw [← hQe]
          exact xp_iret (z := 0) hx hb hr rfl hlocks rfl hS.2.2 dX1_orderTo_86 (by rw [heq, kf_lx_end (by omega) (by omega) (by omega)]; first | (exfalso; omega) | (rw [if_pos (by omega)]) | (rw [if_neg (by omega), if_pos (by omega)]) | (rw [if_neg (by omega), if_neg (by omega)]))
      · skip
        refine lv_iload_n hx hb dX1_orderTo_10 rfl (lv_at hl 0 rfl) ?_
        refine lv_aload_n hx hb dX1_orderTo_11 rfl (lv_at hl 2 rfl) ?_
        refine va_get (D := (dC, dI)) (ci := 1) (v := .int (iz zb)) (C := RX1) (T := TX1) (N := 3) hx hb hts kt_X1 hown hK hP 2 rfl rfl 2 (by decide) (kx_word hG kq_13_xints_0 rfl) (fun _ h9 => h9) rfl dX1_orderTo_12 ?_
        refine ki_icmp_ge (tgt := 55) hx hb dX1_orderTo_15 (by decide) (by omega) (by omega) (by omega) (by omega) (fun c_4 => ?_) (fun c_4 => ?_)
        · skip
          refine lv_aload_n hx hb dX1_orderTo_55 rfl (lv_at hl 1 rfl) ?_
          refine va_get (D := (dC, dI)) (ci := 1) (v := .int (iz z)) (C := RX1) (T := TX1) (N := 3) hx hb hts kt_X1 hown hK hP 0 rfl rfl 2 (by decide) (kx_word hG kq_13_xints_0 rfl) (fun _ h9 => h9) rfl dX1_orderTo_56 ?_
          refine lv_aload_n hx hb dX1_orderTo_59 rfl (lv_at hl 2 rfl) ?_
          refine va_get (D := (dC, dI)) (ci := 1) (v := .int (iz zb)) (C := RX1) (T := TX1) (N := 3) hx hb hts kt_X1 hown hK hP 2 rfl rfl 2 (by decide) (kx_word hG kq_13_xints_0 rfl) (fun _ h9 => h9) rfl dX1_orderTo_60 ?_
          refine ki_icmp_ne (tgt := 70) hx hb dX1_orderTo_63 (by decide) (by omega) (by omega) (by omega) (by omega) (fun c_5 => ?_) (fun c_5 => ?_)
          · skip
            refine lv_aload_n hx hb dX1_orderTo_70 rfl (lv_at hl 1 rfl) ?_
            refine va_get (D := (dC, dI)) (ci := 1) (v := .int (iz z)) (C := RX1) (T := TX1) (N := 3) hx hb hts kt_X1 hown hK hP 0 rfl rfl 2 (by decide) (kx_word hG kq_13_xints_0 rfl) (fun _ h9 => h9) rfl dX1_orderTo_71 ?_
            refine lv_aload_n hx hb dX1_orderTo_74 rfl (lv_at hl 2 rfl) ?_
            refine va_get (D := (dC, dI)) (ci := 1) (v := .int (iz zb)) (C := RX1) (T := TX1) (N := 3) hx hb hts kt_X1 hown hK hP 2 rfl rfl 2 (by decide) (kx_word hG kq_13_xints_0 rfl) (fun _ h9 => h9) rfl dX1_orderTo_75 ?_
            refine ki_icmp_ge (tgt := 85) hx hb dX1_orderTo_78 (by decide) (by omega) (by omega) (by omega) (by omega) (fun c_6 => ?_) (fun c_6 => ?_)
            · skip
              refine lv_iconst (v := iz 1) hx hb dX1_orderTo_85 (by decide) ?_
              rw [← hQe]
              exact xp_iret (z := 1) hx hb hr rfl hlocks rfl hS.2.2 dX1_orderTo_86 (by rw [heq, kf_lx_end (by omega) (by omega) (by omega)]; first | (exfalso; omega) | (rw [if_pos (by omega)]) | (rw [if_neg (by omega), if_pos (by omega)]) | (rw [if_neg (by omega), if_neg (by omega)]))
            · skip
              refine lv_iconst (v := iz (-1)) hx hb dX1_orderTo_81 (by decide) ?_
              refine lv_goto (tgt := 86) hx hb dX1_orderTo_82 (by decide) ?_
              rw [← hQe]
              exact xp_iret (z := (-1)) hx hb hr rfl hlocks rfl hS.2.2 dX1_orderTo_86 (by rw [heq, kf_lx_end (by omega) (by omega) (by omega)]; first | (exfalso; omega) | (rw [if_pos (by omega)]) | (rw [if_neg (by omega), if_pos (by omega)]) | (rw [if_neg (by omega), if_neg (by omega)]))
          · skip
            refine lv_iconst (v := iz 0) hx hb dX1_orderTo_66 (by decide) ?_
            refine lv_goto (tgt := 86) hx hb dX1_orderTo_67 (by decide) ?_
            rw [← hQe]
            exact xp_iret (z := 0) hx hb hr rfl hlocks rfl hS.2.2 dX1_orderTo_86 (by rw [heq, kf_lx_end (by omega) (by omega) (by omega)]; first | (exfalso; omega) | (rw [if_pos (by omega)]) | (rw [if_neg (by omega), if_pos (by omega)]) | (rw [if_neg (by omega), if_neg (by omega)]))
        · skip
          refine lv_aload_n hx hb dX1_orderTo_18 rfl (lv_at hl 1 rfl) ?_
          refine lv_iload_n hx hb dX1_orderTo_19 rfl (lv_at hl 0 rfl) ?_
          have hPc := hP.sub (ws' := (iU cI L o r n z F)) [0, 1] rfl
          refine xk_pure (va_runV (As := [.int (iz k)]) (rest := []) ⟨hx, hb, hml, hown, hts⟩ (x_get l dC dI cI cB cE L o r n z F k s.heap.size hok hF (by omega) (by omega)) (cwV 1 hts (kx_gV kq_13_xints_3 kq_13_xints_4 kq_13_xints_5 kq_13_xints_6 kq_13_xints_7 rfl) rfl rfl rfl (by decide +kernel) ⟨Nat.le_of_ble_eq_true rfl, Nat.le_of_ble_eq_true rfl⟩) ⟨pPre_blind, va_recv hK hPc (ci := 1) (q0 := 0) rfl rfl, pPre_give hPc hK hG⟩ rfl rfl hl.1 rfl (lv_room (Nat.le_of_ble_eq_true rfl)) dX1_orderTo_20 ⟨Nat.le_of_ble_eq_true rfl, Nat.le_of_ble_eq_true rfl⟩) hS (fun z_8 locs hq_7 hS => ?_)
          refine W.eq (g2 := F0 m 23 ls [.int (iz z_8)]) rfl ?_
          try dsimp only at hq_7
          have ea : z_8 = F k := by omega
          refine lv_istore_n (lv' := [(3, .int (iz z_8)), (2, .int (iz k)), (0, .ref o), (1, .ref ob)]) hx hb dX1_orderTo_23 rfl hl (by decide) rfl (fun ls hl => ?_)
          refine lv_aload_n hx hb dX1_orderTo_24 rfl (lv_at hl 3 rfl) ?_
          refine lv_iload_n hx hb dX1_orderTo_25 rfl (lv_at hl 1 rfl) ?_
          have hPc := hP.sub (ws' := (iU cI Lb ob rb nb zb Fb)) [2, 3] rfl
          refine xk_pure (va_runV (As := [.int (iz k)]) (rest := []) ⟨hx, hb, hml, hown, hts⟩ (x_get l dC dI cI cB cE Lb ob rb nb zb Fb k s.heap.size hokb hFb (by omega) (by omega)) (cwV 1 hts (kx_gV kq_13_xints_3 kq_13_xints_4 kq_13_xints_5 kq_13_xints_6 kq_13_xints_7 rfl) rfl rfl rfl (by decide +kernel) ⟨Nat.le_of_ble_eq_true rfl, Nat.le_of_ble_eq_true rfl⟩) ⟨pPre_blind, va_recv hK hPc (ci := 1) (q0 := 0) rfl rfl, pPre_give hPc hK hG⟩ rfl rfl hl.1 rfl (lv_room (Nat.le_of_ble_eq_true rfl)) dX1_orderTo_26 ⟨Nat.le_of_ble_eq_true rfl, Nat.le_of_ble_eq_true rfl⟩) hS (fun z_10 locs hq_9 hS => ?_)
          refine W.eq (g2 := F0 m 29 ls [.int (iz z_10)]) rfl ?_
          try dsimp only at hq_9
          have eb : z_10 = Fb k := by omega
          refine lv_istore (lv' := [(4, .int (iz z_10)), (3, .int (iz z_8)), (2, .int (iz k)), (0, .ref o), (1, .ref ob)]) hx hb dX1_orderTo_29 hl (by decide) rfl (fun ls hl => ?_)
          refine lv_iload_n hx hb dX1_orderTo_31 rfl (lv_at hl 1 rfl) ?_
          refine lv_iload hx hb dX1_orderTo_32 (lv_at hl 0 rfl) ?_
          refine ki_icmp_eq (tgt := 49) hx hb dX1_orderTo_34 (by decide) (by omega) (by omega) (by omega) (by omega) (fun c_11 => ?_) (fun c_11 => ?_)
          · skip
            refine lv_iinc (v := iz (k + 1)) (lv' := [(2, .int (iz (k + 1))), (4, .int (iz z_10)), (3, .int (iz z_8)), (0, .ref o), (1, .ref ob)]) hx hb dX1_orderTo_49 hl (k := 2) rfl (iz_add k 1) (by decide) rfl (fun ls hl => ?_)
            refine lv_goto (tgt := 2) hx hb dX1_orderTo_52 (by decide) ?_
            exact ih2 (k + 1) ⟨by omega, heq.trans ((kf_lx_step (by omega) (by omega)).trans (if_pos (by omega)))⟩ (by omega) _ hS ls (lv_sub hl [0, 3, 4] rfl)
          · skip
            refine lv_iload_n hx hb dX1_orderTo_37 rfl (lv_at hl 1 rfl) ?_
            refine lv_iload hx hb dX1_orderTo_38 (lv_at hl 0 rfl) ?_
            refine ki_icmp_ge (tgt := 47) hx hb dX1_orderTo_40 (by decide) (by omega) (by omega) (by omega) (by omega) (fun c_12 => ?_) (fun c_12 => ?_)
            · skip
              refine lv_iconst (v := iz 1) hx hb dX1_orderTo_47 (by decide) ?_
              rw [← hQe]
              exact xp_iret (z := 1) hx hb hr rfl hlocks rfl hS.2.2 dX1_orderTo_48 (by rw [heq, kf_lx_step (by omega) (by omega), if_neg (by omega)]; first | (rw [if_pos (by omega)]) | (rw [if_neg (by omega)]))
            · skip
              refine lv_iconst (v := iz (-1)) hx hb dX1_orderTo_43 (by decide) ?_
              refine lv_goto (tgt := 48) hx hb dX1_orderTo_44 (by decide) ?_
              rw [← hQe]
              exact xp_iret (z := (-1)) hx hb hr rfl hlocks rfl hS.2.2 dX1_orderTo_48 (by rw [heq, kf_lx_step (by omega) (by omega), if_neg (by omega)]; first | (rw [if_pos (by omega)]) | (rw [if_neg (by omega)]))
  exact lp2 _ 0 ⟨by omega, by rw [Int.sub_zero, Int.sub_zero]⟩ (Nat.lt_succ_self _) _ hS ls (lv_sub hl [0, 1, 2] rfl)
set_option maxHeartbeats 4000000 in
set_option maxRecDepth 100000 in
theorem x_rankOf2 (l : Launch) (dC : Nat → ClassId) (dI : Nat → Nat → Nat) (cI cB cE : ClassId) (p0 : Int) (sz : Nat) (hp01 : -2147483648 ≤ p0) (hp02 : p0 < 2147483648) (h0 : 0 ≤ p0 ∧ p0 ≤ 255) : Met l yX0_rankOf [.code yX0_rankOf cX0_rankOf 3 (some .int)] ({ frames := 1, cells := 0, slots := 0, locals := 20 }) (va_Pc [.int (iz p0)] (pPre dC dI [] (xT cI cB cE) sz)) (pQ (fun z => some (.int (iz z))) (fun (q : Int) => q = kf_rk p0)) 0 0 (fun _ => False) := by
  refine Met.ofW (cc := cX0_rankOf) (maxL := 3) (ret := (some .int)) (by decide) rfl ?_
  intro p e s m args below meth c s₁ B hml hv
  obtain ⟨rfl, hsz, hP, hK, hG⟩ := hv
  have hx := B.exec
  have hb := B.bytes
  have hr := B.returns
  have hts := kx_hts (a := ([.int (iz p0)] : List Value).toArray) hG
  have hown : s.vm.findClass RX0 = some m.cls := findClass_of_methodNamed B.named
  have hlocks := B.notSynchronized
  subst hsz
  have hS : va_S (fun _ => False) s.heap s.heap [] := va_S.rf
  have hl := lv_entry ([.int (iz p0)]) (n := 3) (Nat.le_of_ble_eq_true rfl)
  rw [lg_entry_eq]
  generalize (lg_sl ([.int (iz p0)]) ++ List.replicate (3 - (lg_sl ([.int (iz p0)])).length) Slot.unset).toArray = ls at hl ⊢
  have hl : lv_has ls 3 [(0, .int (iz p0))] := hl
  have hrk := kf_rk_sp p0
  refine lv_iload_n hx hb dX0_rankOf_0 rfl (lv_at hl 0 rfl) ?_
  refine lv_sipush (v := iz 128) hx hb dX0_rankOf_1 (by decide) ?_
  refine ki_irem hx hb dX0_rankOf_4 (by omega) (by omega) (by omega) (by omega) ?_
  refine lv_istore_n (lv' := [(1, .int (iz (p0 % 128))), (0, .int (iz p0))]) hx hb dX0_rankOf_5 rfl hl (by decide) rfl (fun ls hl => ?_)
  refine lv_iload_n hx hb dX0_rankOf_6 rfl (lv_at hl 0 rfl) ?_
  have hPc : va_P (dC, dI) kxCl [] s.heap := fun k q h => by simp at h
  refine xk_pure (va_runS (As := [.int (iz (p0 % 128))]) (rest := []) ⟨hx, hb, hml, hown, hts⟩ (x_smallOf l dC dI cI cB cE (p0 % 128) s.heap.size (by omega) (by omega)) (va_cwS 1 hts (kx_gS kq_16_xentry_0 kq_16_xentry_1 kq_16_xentry_2 kq_16_xentry_3 rfl) rfl rfl rfl (by decide +kernel) ⟨Nat.le_of_ble_eq_true rfl, Nat.le_of_ble_eq_true rfl⟩) ⟨pPre_blind, pPre_give hPc hK hG⟩ rfl rfl hl.1 rfl (lv_room (Nat.le_of_ble_eq_true rfl)) dX0_rankOf_7 ⟨Nat.le_of_ble_eq_true rfl, Nat.le_of_ble_eq_true rfl⟩) hS (fun z_2 locs hq_1 hS => ?_)
  refine W.eq (g2 := F0 m 10 ls [.int (iz z_2)]) rfl ?_
  try dsimp only at hq_1
  refine lv_istore_n (lv' := [(2, .int (iz z_2)), (1, .int (iz (p0 % 128))), (0, .int (iz p0))]) hx hb dX0_rankOf_10 rfl hl (by decide) rfl (fun ls hl => ?_)
  refine lv_iconst (v := iz 4) hx hb dX0_rankOf_11 (by decide) ?_
  refine lv_iload_n hx hb dX0_rankOf_12 rfl (lv_at hl 0 rfl) ?_
  refine ki_imul hx hb dX0_rankOf_13 ?_
  refine lv_iload_n hx hb dX0_rankOf_14 rfl (lv_at hl 0 rfl) ?_
  refine lv_iload_n hx hb dX0_rankOf_15 rfl (lv_at hl 1 rfl) ?_
  refine ki_icmp_eq (tgt := 23) hx hb dX0_rankOf_16 (by decide) (by omega) (by omega) (by omega) (by omega) (fun c_3 => ?_) (fun c_3 => ?_)
  · skip
    refine lv_iconst (v := iz 0) hx hb dX0_rankOf_23 (by decide) ?_
    refine ki_iadd hx hb dX0_rankOf_24 ?_
    refine lv_iload_n hx hb dX0_rankOf_25 rfl (lv_at hl 2 rfl) ?_
    refine lv_iload_n hx hb dX0_rankOf_26 rfl (lv_at hl 1 rfl) ?_
    refine ki_icmp_eq (tgt := 34) hx hb dX0_rankOf_27 (by decide) (by omega) (by omega) (by omega) (by omega) (fun c_4 => ?_) (fun c_4 => ?_)
    · skip
      refine lv_iconst (v := iz 0) hx hb dX0_rankOf_34 (by decide) ?_
      refine ki_iadd hx hb dX0_rankOf_35 ?_
      exact xp_iret (z := ((4 * z_2) + 0) + 0) hx hb hr rfl hlocks rfl hS.2.2 dX0_rankOf_36 (by omega)
    · skip
      refine lv_iconst (v := iz 1) hx hb dX0_rankOf_30 (by decide) ?_
      refine lv_goto (tgt := 35) hx hb dX0_rankOf_31 (by decide) ?_
      refine ki_iadd hx hb dX0_rankOf_35 ?_
      exact xp_iret (z := ((4 * z_2) + 0) + 1) hx hb hr rfl hlocks rfl hS.2.2 dX0_rankOf_36 (by omega)
  · skip
    refine lv_iconst (v := iz 2) hx hb dX0_rankOf_19 (by decide) ?_
    refine lv_goto (tgt := 24) hx hb dX0_rankOf_20 (by decide) ?_
    refine ki_iadd hx hb dX0_rankOf_24 ?_
    refine lv_iload_n hx hb dX0_rankOf_25 rfl (lv_at hl 2 rfl) ?_
    refine lv_iload_n hx hb dX0_rankOf_26 rfl (lv_at hl 1 rfl) ?_
    refine ki_icmp_eq (tgt := 34) hx hb dX0_rankOf_27 (by decide) (by omega) (by omega) (by omega) (by omega) (fun c_5 => ?_) (fun c_5 => ?_)
    · skip
      refine lv_iconst (v := iz 0) hx hb dX0_rankOf_34 (by decide) ?_
      refine ki_iadd hx hb dX0_rankOf_35 ?_
      exact xp_iret (z := ((4 * z_2) + 2) + 0) hx hb hr rfl hlocks rfl hS.2.2 dX0_rankOf_36 (by omega)
    · skip
      refine lv_iconst (v := iz 1) hx hb dX0_rankOf_30 (by decide) ?_
      refine lv_goto (tgt := 35) hx hb dX0_rankOf_31 (by decide) ?_
      refine ki_iadd hx hb dX0_rankOf_35 ?_
      exact xp_iret (z := ((4 * z_2) + 2) + 1) hx hb hr rfl hlocks rfl hS.2.2 dX0_rankOf_36 (by omega)
set_option maxHeartbeats 4000000 in
set_option maxRecDepth 100000 in
theorem x_isLetter2 (l : Launch) (dC : Nat → ClassId) (dI : Nat → Nat → Nat) (cI cB cE : ClassId) (p0 : Int) (sz : Nat) (hp01 : -2147483648 ≤ p0) (hp02 : p0 < 2147483648) (h0 : 0 ≤ p0 ∧ p0 ≤ 255) : Met l yX0_isLetter [.code yX0_isLetter cX0_isLetter 2 (some .boolean)] ({ frames := 1, cells := 0, slots := 0, locals := 20 }) (va_Pc [.int (iz p0)] (pPre dC dI [] (xT cI cB cE) sz)) (pQ (fun z => some (.int (iz z))) (fun (q : Int) => (q = 1 ∧ ¬ kf_kl p0 = 0) ∨ (q = 0 ∧ kf_kl p0 = 0))) 0 0 (fun _ => False) := by
  refine Met.ofW (cc := cX0_isLetter) (maxL := 2) (ret := (some .boolean)) (by decide) rfl ?_
  intro p e s m args below meth c s₁ B hml hv
  obtain ⟨rfl, hsz, hP, hK, hG⟩ := hv
  have hx := B.exec
  have hb := B.bytes
  have hr := B.returns
  have hts := kx_hts (a := ([.int (iz p0)] : List Value).toArray) hG
  have hown : s.vm.findClass RX0 = some m.cls := findClass_of_methodNamed B.named
  have hlocks := B.notSynchronized
  subst hsz
  have hS : va_S (fun _ => False) s.heap s.heap [] := va_S.rf
  have hl := lv_entry ([.int (iz p0)]) (n := 2) (Nat.le_of_ble_eq_true rfl)
  rw [lg_entry_eq]
  generalize (lg_sl ([.int (iz p0)]) ++ List.replicate (2 - (lg_sl ([.int (iz p0)])).length) Slot.unset).toArray = ls at hl ⊢
  have hl : lv_has ls 2 [(0, .int (iz p0))] := hl
  have hkl := kf_kl_sp p0
  refine lv_iload_n hx hb dX0_isLetter_0 rfl (lv_at hl 0 rfl) ?_
  refine lv_sipush (v := iz 128) hx hb dX0_isLetter_1 (by decide) ?_
  refine ki_irem hx hb dX0_isLetter_4 (by omega) (by omega) (by omega) (by omega) ?_
  have hPc : va_P (dC, dI) kxCl [] s.heap := fun k q h => by simp at h
  refine xk_pure (va_runS (As := [.int (iz (p0 % 128))]) (rest := []) ⟨hx, hb, hml, hown, hts⟩ (x_smallOf l dC dI cI cB cE (p0 % 128) s.heap.size (by omega) (by omega)) (va_cwS 1 hts (kx_gS kq_16_xentry_0 kq_16_xentry_1 kq_16_xentry_2 kq_16_xentry_3 rfl) rfl rfl rfl (by decide +kernel) ⟨Nat.le_of_ble_eq_true rfl, Nat.le_of_ble_eq_true rfl⟩) ⟨pPre_blind, pPre_give hPc hK hG⟩ rfl rfl hl.1 rfl (lv_room (Nat.le_of_ble_eq_true rfl)) dX0_isLetter_5 ⟨Nat.le_of_ble_eq_true rfl, Nat.le_of_ble_eq_true rfl⟩) hS (fun z_2 locs hq_1 hS => ?_)
  refine W.eq (g2 := F0 m 8 ls [.int (iz z_2)]) rfl ?_
  try dsimp only at hq_1
  refine lv_istore_n (lv' := [(1, .int (iz z_2)), (0, .int (iz p0))]) hx hb dX0_isLetter_8 rfl hl (by decide) rfl (fun ls hl => ?_)
  refine lv_iload_n hx hb dX0_isLetter_9 rfl (lv_at hl 0 rfl) ?_
  refine lv_bipush (v := iz 97) hx hb dX0_isLetter_10 (by decide) ?_
  refine ki_icmp_lt (tgt := 25) hx hb dX0_isLetter_12 (by decide) (by omega) (by omega) (by omega) (by omega) (fun c_3 => ?_) (fun c_3 => ?_)
  · skip
    refine lv_iconst (v := iz 0) hx hb dX0_isLetter_25 (by decide) ?_
    exact xp_iret (z := 0) hx hb hr (mz_bool (by omega)).1 hlocks rfl hS.2.2 dX0_isLetter_26 (by omega)
  · skip
    refine lv_iload_n hx hb dX0_isLetter_15 rfl (lv_at hl 0 rfl) ?_
    refine lv_bipush (v := iz 122) hx hb dX0_isLetter_16 (by decide) ?_
    refine ki_icmp_gt (tgt := 25) hx hb dX0_isLetter_18 (by decide) (by omega) (by omega) (by omega) (by omega) (fun c_4 => ?_) (fun c_4 => ?_)
    · skip
      refine lv_iconst (v := iz 0) hx hb dX0_isLetter_25 (by decide) ?_
      exact xp_iret (z := 0) hx hb hr (mz_bool (by omega)).1 hlocks rfl hS.2.2 dX0_isLetter_26 (by omega)
    · skip
      refine lv_iconst (v := iz 1) hx hb dX0_isLetter_21 (by decide) ?_
      refine lv_goto (tgt := 26) hx hb dX0_isLetter_22 (by decide) ?_
      exact xp_iret (z := 1) hx hb hr (mz_bool (by omega)).1 hlocks rfl hS.2.2 dX0_isLetter_26 (by omega)
set_option maxHeartbeats 4000000 in
set_option maxRecDepth 100000 in
theorem x_eorderTo2 (l : Launch) (dC : Nat → ClassId) (dI : Nat → Nat → Nat) (cI cB cE : ClassId) (o : Nat → Nat) (r : Nat → Nat) (n : Nat → Nat) (z : Nat → Int) (F : Nat → Int → Int) (ob : Nat → Nat) (rb : Nat → Nat) (nb : Nat → Nat) (zb : Nat → Int) (Fb : Nat → Int → Int) (sz : Nat) (hE : eOk n z F) (hEb : eOk nb zb Fb) : Met l yX0_orderTo [.code yX0_orderTo cX0_orderTo 3 (some .int)] ({ frames := 2, cells := 0, slots := 0, locals := 45 }) (va_Pc [.ref (o 0), .ref (ob 0)] (pPre dC dI ((eU cI o r n z F) ++ (eU cI ob rb nb zb Fb)) (xT cI cB cE) sz)) (pQ (fun z => some (.int (iz z))) (fun (q : Int) => (¬ kf_lx (kf_ls (F 2) 0 (z 2).toNat) (kf_ls (Fb 2) 0 (zb 2).toNat) = 0 ∧ q = kf_lx (kf_ls (F 2) 0 (z 2).toNat) (kf_ls (Fb 2) 0 (zb 2).toNat)) ∨ (kf_lx (kf_ls (F 2) 0 (z 2).toNat) (kf_ls (Fb 2) 0 (zb 2).toNat) = 0 ∧ q = kf_lx (kf_ls (F 1) 0 (z 1).toNat) (kf_ls (Fb 1) 0 (zb 1).toNat)))) 0 0 (fun _ => False) := by
  refine Met.ofW (cc := cX0_orderTo) (maxL := 3) (ret := (some .int)) (by decide) rfl ?_
  intro p e s m args below meth c s₁ B hml hv
  obtain ⟨rfl, hsz, hP, hK, hG⟩ := hv
  have hx := B.exec
  have hb := B.bytes
  have hr := B.returns
  have hts := kx_hts (a := ([.ref (o 0), .ref (ob 0)] : List Value).toArray) hG
  have hown : s.vm.findClass RX0 = some m.cls := findClass_of_methodNamed B.named
  have hlocks := B.notSynchronized
  subst hsz
  have hS : va_S (fun _ => False) s.heap s.heap [] := va_S.rf
  have hl := lv_entry ([.ref (o 0), .ref (ob 0)]) (n := 3) (Nat.le_of_ble_eq_true rfl)
  rw [lg_entry_eq]
  generalize (lg_sl ([.ref (o 0), .ref (ob 0)]) ++ List.replicate (3 - (lg_sl ([.ref (o 0), .ref (ob 0)])).length) Slot.unset).toArray = ls at hl ⊢
  have hl : lv_has ls 3 [(0, .ref (o 0)), (1, .ref (ob 0))] := hl
  have he0 : 0 ≤ z 0 ∧ z 0 ≤ (n 0 : Int) ∧ (n 0 : Int) ≤ 20 := hE.1 0 (by decide)
  have he1 : 0 ≤ z 1 ∧ z 1 ≤ (n 1 : Int) ∧ (n 1 : Int) ≤ 20 := hE.1 1 (by decide)
  have he2 : 0 ≤ z 2 ∧ z 2 ≤ (n 2 : Int) ∧ (n 2 : Int) ≤ 40 := hE.1 2 (by decide)
  have he3 : 0 ≤ z 3 ∧ z 3 ≤ (n 3 : Int) ∧ (n 3 : Int) ≤ 5 := hE.1 3 (by decide)
  have he4 : 0 ≤ z 4 ∧ z 4 ≤ (n 4 : Int) ∧ (n 4 : Int) ≤ 20 := hE.1 4 (by decide)
  have he5 : 0 ≤ z 5 ∧ z 5 ≤ (n 5 : Int) ∧ (n 5 : Int) ≤ 20 := hE.1 5 (by decide)
  have he6 : 0 ≤ z 6 ∧ z 6 ≤ (n 6 : Int) ∧ (n 6 : Int) ≤ 20 := hE.1 6 (by decide)
  have hbz7 := hE.2.2 7
  have hbz8 := hE.2.2 8
  have hbz9 := hE.2.2 9
  have hbz10 := hE.2.2 10
  have hbz11 := hE.2.2 11
  have hbz12 := hE.2.2 12
  have hbz13 := hE.2.2 13
  have heb0 : 0 ≤ zb 0 ∧ zb 0 ≤ (nb 0 : Int) ∧ (nb 0 : Int) ≤ 20 := hEb.1 0 (by decide)
  have heb1 : 0 ≤ zb 1 ∧ zb 1 ≤ (nb 1 : Int) ∧ (nb 1 : Int) ≤ 20 := hEb.1 1 (by decide)
  have heb2 : 0 ≤ zb 2 ∧ zb 2 ≤ (nb 2 : Int) ∧ (nb 2 : Int) ≤ 40 := hEb.1 2 (by decide)
  have heb3 : 0 ≤ zb 3 ∧ zb 3 ≤ (nb 3 : Int) ∧ (nb 3 : Int) ≤ 5 := hEb.1 3 (by decide)
  have heb4 : 0 ≤ zb 4 ∧ zb 4 ≤ (nb 4 : Int) ∧ (nb 4 : Int) ≤ 20 := hEb.1 4 (by decide)
  have heb5 : 0 ≤ zb 5 ∧ zb 5 ≤ (nb 5 : Int) ∧ (nb 5 : Int) ≤ 20 := hEb.1 5 (by decide)
  have heb6 : 0 ≤ zb 6 ∧ zb 6 ≤ (nb 6 : Int) ∧ (nb 6 : Int) ≤ 20 := hEb.1 6 (by decide)
  have hbzb7 := hEb.2.2 7
  have hbzb8 := hEb.2.2 8
  have hbzb9 := hEb.2.2 9
  have hbzb10 := hEb.2.2 10
  have hbzb11 := hEb.2.2 11
  have hbzb12 := hEb.2.2 12
  have hbzb13 := hEb.2.2 13
  refine lv_aload_n hx hb dX0_orderTo_0 rfl (lv_at hl 0 rfl) ?_
  refine va_get (D := (dC, dI)) (ci := 0) (v := .ref (o 3)) (C := RX0) (T := TX0) (N := 12) hx hb hts kt_X0 hown hK hP 0 rfl rfl 4 (by decide) (kx_word hG kq_16_xentry_22 rfl) (fun _ h9 => h9) rfl dX0_orderTo_1 ?_
  refine lv_aload_n hx hb dX0_orderTo_4 rfl (lv_at hl 1 rfl) ?_
  refine va_get (D := (dC, dI)) (ci := 0) (v := .ref (ob 3)) (C := RX0) (T := TX0) (N := 12) hx hb hts kt_X0 hown hK hP 16 rfl rfl 4 (by decide) (kx_word hG kq_16_xentry_22 rfl) (fun _ h9 => h9) rfl dX0_orderTo_5 ?_
  have hPc := hP.sub (ws' := ((iU cI 40 (o 3) (r 2) (n 2) (z 2) (F 2)) ++ (iU cI 40 (ob 3) (rb 2) (nb 2) (zb 2) (Fb 2)))) [5, 6, 21, 22] rfl
  refine xk_pure (va_runV (As := [.ref (ob 3)]) (rest := []) ⟨hx, hb, hml, hown, hts⟩ (x_orderTo2 l dC dI cI cB cE 40 (o 3) (r 2) (n 2) (z 2) (F 2) 40 (ob 3) (rb 2) (nb 2) (zb 2) (Fb 2)  s.heap.size (by omega) (hE.2.1 2) (by omega) (hEb.2.1 2)) (cwV 1 hts (kx_gV kq_16_xentry_25 kq_16_xentry_26 kq_16_xentry_27 kq_13_xints_6 kq_16_xentry_28 rfl) rfl rfl rfl (by decide +kernel) ⟨Nat.le_of_ble_eq_true rfl, Nat.le_of_ble_eq_true rfl⟩) ⟨pPre_blind, va_recv hK hPc (ci := 1) (q0 := 0) rfl rfl, pPre_give hPc hK hG⟩ rfl rfl hl.1 rfl (lv_room (Nat.le_of_ble_eq_true rfl)) dX0_orderTo_8 ⟨Nat.le_of_ble_eq_true rfl, Nat.le_of_ble_eq_true rfl⟩) hS (fun z_2 locs hq_1 hS => ?_)
  refine W.eq (g2 := F0 m 11 ls [.int (iz z_2)]) rfl ?_
  try dsimp only at hq_1
  have hlb_3 := kf_lx_bd (kf_ls (F 2) 0 (z 2).toNat) (kf_ls (Fb 2) 0 (zb 2).toNat)
  refine lv_istore_n (lv' := [(2, .int (iz z_2)), (0, .ref (o 0)), (1, .ref (ob 0))]) hx hb dX0_orderTo_11 rfl hl (by decide) rfl (fun ls hl => ?_)
  refine lv_iload_n hx hb dX0_orderTo_12 rfl (lv_at hl 0 rfl) ?_
  refine ki_if_eq (tgt := 20) hx hb dX0_orderTo_13 (by decide) (by omega) (by omega) (fun c_4 => ?_) (fun c_4 => ?_)
  · skip
    refine lv_aload_n hx hb dX0_orderTo_20 rfl (lv_at hl 1 rfl) ?_
    refine va_get (D := (dC, dI)) (ci := 0) (v := .ref (o 2)) (C := RX0) (T := TX0) (N := 12) hx hb hts kt_X0 hown hK hP 0 rfl rfl 3 (by decide) (kx_word hG kq_16_xentry_6 rfl) (fun _ h9 => h9) rfl dX0_orderTo_21 ?_
    refine lv_aload_n hx hb dX0_orderTo_24 rfl (lv_at hl 2 rfl) ?_
    refine va_get (D := (dC, dI)) (ci := 0) (v := .ref (ob 2)) (C := RX0) (T := TX0) (N := 12) hx hb hts kt_X0 hown hK hP 16 rfl rfl 3 (by decide) (kx_word hG kq_16_xentry_6 rfl) (fun _ h9 => h9) rfl dX0_orderTo_25 ?_
    have hPc := hP.sub (ws' := ((iU cI 20 (o 2) (r 1) (n 1) (z 1) (F 1)) ++ (iU cI 20 (ob 2) (rb 1) (nb 1) (zb 1) (Fb 1)))) [3, 4, 19, 20] rfl
    refine xk_pure (va_runV (As := [.ref (ob 2)]) (rest := []) ⟨hx, hb, hml, hown, hts⟩ (x_orderTo2 l dC dI cI cB cE 20 (o 2) (r 1) (n 1) (z 1) (F 1) 20 (ob 2) (rb 1) (nb 1) (zb 1) (Fb 1)  s.heap.size (by omega) (hE.2.1 1) (by omega) (hEb.2.1 1)) (cwV 1 hts (kx_gV kq_16_xentry_25 kq_16_xentry_26 kq_16_xentry_27 kq_13_xints_6 kq_16_xentry_28 rfl) rfl rfl rfl (by decide +kernel) ⟨Nat.le_of_ble_eq_true rfl, Nat.le_of_ble_eq_true rfl⟩) ⟨pPre_blind, va_recv hK hPc (ci := 1) (q0 := 0) rfl rfl, pPre_give hPc hK hG⟩ rfl rfl hl.1 rfl (lv_room (Nat.le_of_ble_eq_true rfl)) dX0_orderTo_28 ⟨Nat.le_of_ble_eq_true rfl, Nat.le_of_ble_eq_true rfl⟩) hS (fun z_6 locs hq_5 hS => ?_)
    refine W.eq (g2 := F0 m 31 ls [.int (iz z_6)]) rfl ?_
    try dsimp only at hq_5
    have hlb_7 := kf_lx_bd (kf_ls (F 1) 0 (z 1).toNat) (kf_ls (Fb 1) 0 (zb 1).toNat)
    exact xp_iret (z := z_6) hx hb hr rfl hlocks rfl hS.2.2 dX0_orderTo_31 (by omega)
  · skip
    refine lv_iload_n hx hb dX0_orderTo_16 rfl (lv_at hl 0 rfl) ?_
    refine lv_goto (tgt := 31) hx hb dX0_orderTo_17 (by decide) ?_
    exact xp_iret (z := z_2) hx hb hr rfl hlocks rfl hS.2.2 dX0_orderTo_31 (by omega)
set_option maxHeartbeats 4000000 in
set_option maxRecDepth 100000 in
theorem x_addSign2 (l : Launch) (dC : Nat → ClassId) (dI : Nat → Nat → Nat) (cI cB cE : ClassId) (o : Nat → Nat) (r : Nat → Nat) (n : Nat → Nat) (z : Nat → Int) (F : Nat → Int → Int) (p0 : Int) (sz : Nat) (hE : eOk n z F) (h0 : 0 ≤ p0 ∧ p0 ≤ 255) (hp01 : -2147483648 ≤ p0) (hp02 : p0 < 2147483648) : Met l yX0_addSign [.code yX0_addSign cX0_addSign 2 none] ({ frames := 3, cells := 20, slots := 4800, locals := 103 }) (va_Pc [.ref (o 0), .int (iz p0)] (kx_Pre dC dI (eU cI o r n z F) (xT cI cB cE) sz)) (xQ (fun _ : Nat × Nat × Int × (Int → Int) × Nat × Nat × Int × (Int → Int) => none) (fun (u : Nat × Nat × Int × (Int → Int) × Nat × Nat × Int × (Int → Int)) (dn dm : Nat) => match u with | (r0', n0', z0', F0', r1', n1', z1', F1') => ((0 ≤ z0' ∧ z0' ≤ (n0' : Int) ∧ (n0' : Int) ≤ 20) ∧ iB F0') ∧ ((0 ≤ z1' ∧ z1' ≤ (n1' : Int) ∧ (n1' : Int) ≤ 20) ∧ iB F1') ∧ (dn ≤ 18 ∧ dm ≤ 120) ∧ iAdd 20 (z 0) (F 0) z0' F0' p0 ∧ iAdd 20 (z 1) (F 1) z1' F1' (kf_rk p0)) (fun u t => kx_At dC dI (va_A (eU cI o r n z F) sz) ((fun u : Nat × Nat × Int × (Int → Int) × Nat × Nat × Int × (Int → Int) => match u with | (r0', n0', z0', F0', r1', n1', z1', F1') => (eU cI o (va_up (va_up r 0 r0') 1 r1') (va_up (va_up n 0 n0') 1 n1') (va_up (va_up z 0 z0') 1 z1') (va_up (va_up F 0 F0') 1 F1'))) u) (xT cI cB cE) t) (va_A (eU cI o r n z F) sz)) 20 4800 (va_A (eU cI o r n z F) sz) := by
  refine Met.ofW (cc := cX0_addSign) (maxL := 2) (ret := none) (by decide) rfl ?_
  intro p e s m args below meth c s₁ B hml hv
  obtain ⟨rfl, hsz, hP, hK, hD0, hG, hZ⟩ := hv
  have hx := B.exec
  have hb := B.bytes
  have hr := B.returns
  have hts := kx_hts (a := ([.ref (o 0), .int (iz p0)] : List Value).toArray) hG
  have hown : s.vm.findClass RX0 = some m.cls := findClass_of_methodNamed B.named
  have hlocks := B.notSynchronized
  subst hsz
  have hD := hD0.self (sz := s.heap.size)
  generalize hAe : va_A (eU cI o r n z F) s.heap.size = A at hD hZ ⊢
  have hA : ∀ q : Nat, s.heap.size ≤ q → A q := fun q h => by rw [← hAe]; exact Or.inr h
  have hS : va_S A s.heap s.heap [] := va_S.rf
  have hl := lv_entry ([.ref (o 0), .int (iz p0)]) (n := 2) (Nat.le_of_ble_eq_true rfl)
  rw [lg_entry_eq]
  generalize (lg_sl ([.ref (o 0), .int (iz p0)]) ++ List.replicate (2 - (lg_sl ([.ref (o 0), .int (iz p0)])).length) Slot.unset).toArray = ls at hl ⊢
  have hl : lv_has ls 2 [(0, .ref (o 0)), (1, .int (iz p0))] := hl
  have he0 : 0 ≤ z 0 ∧ z 0 ≤ (n 0 : Int) ∧ (n 0 : Int) ≤ 20 := hE.1 0 (by decide)
  have he1 : 0 ≤ z 1 ∧ z 1 ≤ (n 1 : Int) ∧ (n 1 : Int) ≤ 20 := hE.1 1 (by decide)
  have he2 : 0 ≤ z 2 ∧ z 2 ≤ (n 2 : Int) ∧ (n 2 : Int) ≤ 40 := hE.1 2 (by decide)
  have he3 : 0 ≤ z 3 ∧ z 3 ≤ (n 3 : Int) ∧ (n 3 : Int) ≤ 5 := hE.1 3 (by decide)
  have he4 : 0 ≤ z 4 ∧ z 4 ≤ (n 4 : Int) ∧ (n 4 : Int) ≤ 20 := hE.1 4 (by decide)
  have he5 : 0 ≤ z 5 ∧ z 5 ≤ (n 5 : Int) ∧ (n 5 : Int) ≤ 20 := hE.1 5 (by decide)
  have he6 : 0 ≤ z 6 ∧ z 6 ≤ (n 6 : Int) ∧ (n 6 : Int) ≤ 20 := hE.1 6 (by decide)
  have hbz7 := hE.2.2 7
  have hbz8 := hE.2.2 8
  have hbz9 := hE.2.2 9
  have hbz10 := hE.2.2 10
  have hbz11 := hE.2.2 11
  have hbz12 := hE.2.2 12
  have hbz13 := hE.2.2 13
  have hp0a := psg_le 20 (n 0)
  have hp1a := psg_le 20 (n 1)
  have hp0b := psj_le (L := 20) (by omega) (n 0)
  have hp1b := psj_le (L := 20) (by omega) (n 1)
  refine lv_aload_n hx hb dX0_addSign_0 rfl (lv_at hl 0 rfl) ?_
  refine va_get (D := (dC, dI)) (ci := 0) (v := .ref (o 1)) (C := RX0) (T := TX0) (N := 12) hx hb hts kt_X0 hown hK hP 0 rfl rfl 2 (by decide) (kx_word hG kq_16_xentry_4 rfl) (fun _ h9 => h9) rfl dX0_addSign_1 ?_
  refine lv_iload_n hx hb dX0_addSign_4 rfl (lv_at hl 1 rfl) ?_
  have hPc := hP.sub (ws' := (iU cI 20 (o 1) (r 0) (n 0) (z 0) (F 0))) [1, 2] rfl
  have hDc := hD.sub (ws' := (iU cI 20 (o 1) (r 0) (n 0) (z 0) (F 0))) [1, 2] (by decide) rfl
  have hFc := va_free (wc := (iU cI 20 (o 1) (r 0) (n 0) (z 0) (F 0))) hD hS hA [1, 2] rfl
  refine xk_call (va_runV (As := [.int (iz p0)]) (rest := []) ⟨hx, hb, hml, hown, hts⟩ (x_add l dC dI cI cB cE 20 (o 1) (r 0) (n 0) (z 0) (F 0) p0 s.heap.size (by omega) (hE.2.1 0) (by omega) (by omega)) (cwV 1 hts (kx_gV kq_16_xentry_5 kq_15_xspan_46 kq_15_xspan_47 kq_13_xints_6 kq_15_xspan_48 rfl) rfl rfl rfl (by decide +kernel) ⟨Nat.le_of_ble_eq_true rfl, Nat.le_of_ble_eq_true rfl⟩) ⟨kx_blind, va_recv hK hPc (ci := 1) (q0 := 0) rfl rfl, kx_give (ws := []) (tys := []) hPc hDc hK hG hZ hS hFc⟩ rfl rfl hl.1 rfl (lv_room (Nat.le_of_ble_eq_true rfl)) dX0_addSign_5 ⟨show 0 + 1 ≤ 20 from (by omega), show 0 + 1600 ≤ 4800 from (by omega)⟩) hS (fun q _ h => hFc q h) hFc (fun u dn_2 dm_3 t H locs ht hvm hq_1 hB hk1 hS => ?_)
  obtain ⟨r_4, n_5, z_6, F_7⟩ := u
  obtain ⟨hP1, hK1, hD1⟩ := hB
  rw [ht] at hP1
  obtain ⟨hP, hD⟩ := xj (wr := [(o 0, .inr (0, [.int (iz (z 7)), .int (iz (z 8)), .ref (o 1), .ref (o 2), .ref (o 3), .ref (o 5), .ref (o 4), .int (iz (z 9)), .int (iz (z 10)), .int (iz (z 11)), .int (iz (z 12)), .int (iz (z 13))])), (o 2, .inr (1, [.int (iz 20), .ref (r 1), .int (iz (z 1))])), (r 1, .inl (cI, n 1, .inl (iA (F 1)))), (o 3, .inr (1, [.int (iz 40), .ref (r 2), .int (iz (z 2))])), (r 2, .inl (cI, n 2, .inl (iA (F 2)))), (o 4, .inr (1, [.int (iz 5), .ref (r 3), .int (iz (z 3))])), (r 3, .inl (cI, n 3, .inl (iA (F 3)))), (o 5, .inr (3, [.ref (o 6), .ref (o 7), .ref (o 8)])), (o 6, .inr (1, [.int (iz 20), .ref (r 4), .int (iz (z 4))])), (r 4, .inl (cI, n 4, .inl (iA (F 4)))), (o 7, .inr (1, [.int (iz 20), .ref (r 5), .int (iz (z 5))])), (r 5, .inl (cI, n 5, .inl (iA (F 5)))), (o 8, .inr (1, [.int (iz 20), .ref (r 6), .int (iz (z 6))])), (r 6, .inl (cI, n 6, .inl (iA (F 6))))]) (w1 := (iU cI 20 (o 1) r_4 n_5 z_6 F_7)) (ws' := (eU cI o (va_up r 0 r_4) (va_up n 0 n_5) (va_up z 0 z_6) (va_up F 0 F_7))) hP hD [1, 2] [0, 3, 4, 5, 6, 7, 8, 9, 10, 11, 12, 13, 14, 15] [0, 14, 15, 1, 2, 3, 4, 5, 6, 7, 8, 9, 10, 11, 12, 13] rfl rfl (by decide) (by decide) hk1 hFc hP1 hD1 rfl (by decide)
  refine W.eq (g2 := F0 m 8 ls []) rfl ?_
  try dsimp only at hq_1
  obtain ⟨ha8, hb8, hc8, hd8⟩ := hq_1
  refine lv_aload_n hx hb dX0_addSign_8 rfl (lv_at hl 0 rfl) ?_
  refine va_get (D := (dC, dI)) (ci := 0) (v := .ref (o 2)) (C := RX0) (T := TX0) (N := 12) hx hb hts kt_X0 hown hK hP 0 rfl rfl 3 (by decide) (kx_word hG kq_16_xentry_6 rfl) (fun _ h9 => h9) rfl dX0_addSign_9 ?_
  refine lv_iload_n hx hb dX0_addSign_12 rfl (lv_at hl 1 rfl) ?_
  have hPc : va_P (dC, dI) kxCl [] H := fun k q h => by simp at h
  refine xk_pure (va_runS (As := [.int (iz p0)]) (rest := [.ref (o 2)]) ⟨hx, hb, hml, hown, hts⟩ (x_rankOf2 l dC dI cI cB cE p0 H.size (by omega) (by omega) (by omega)) (va_cwS 1 hts (kx_gS kq_16_xentry_7 kq_16_xentry_8 kq_16_xentry_2 kq_16_xentry_9 rfl) rfl rfl rfl (by decide +kernel) ⟨Nat.le_of_ble_eq_true rfl, Nat.le_of_ble_eq_true rfl⟩) ⟨pPre_blind, pPre_give hPc hK hG⟩ rfl rfl hl.1 rfl (lv_room (Nat.le_of_ble_eq_true rfl)) dX0_addSign_13 ⟨show (0 + dn_2) + 0 ≤ 20 from (by omega), show (0 + dm_3) + 0 ≤ 4800 from (by omega)⟩) hS (fun z_10 locs hq_9 hS => ?_)
  refine W.eq (g2 := F0 m 16 ls [.int (iz z_10), .ref (o 2)]) rfl ?_
  try dsimp only at hq_9
  have hrkb := kf_rk_sp p0
  subst hq_9
  refine W.eq (g2 := F0 m 16 ls [.int (iz (kf_rk p0)), .ref (o 2)]) rfl ?_
  have hPc := hP.sub (ws' := (iU cI 20 (o 2) (r 1) (n 1) (z 1) (F 1))) [3, 4] rfl
  have hDc := hD.sub (ws' := (iU cI 20 (o 2) (r 1) (n 1) (z 1) (F 1))) [3, 4] (by decide) rfl
  have hFc := va_free (wc := (iU cI 20 (o 2) (r 1) (n 1) (z 1) (F 1))) hD hS hA [3, 4] rfl
  refine xk_call (va_runV (As := [.int (iz (kf_rk p0))]) (rest := []) ⟨hx, hb, hml, hown, hts⟩ (x_add l dC dI cI cB cE 20 (o 2) (r 1) (n 1) (z 1) (F 1) (kf_rk p0) H.size (by omega) (hE.2.1 1) (by omega) (by omega)) (cwV 1 hts (kx_gV kq_16_xentry_5 kq_15_xspan_46 kq_15_xspan_47 kq_13_xints_6 kq_15_xspan_48 rfl) rfl rfl rfl (by decide +kernel) ⟨Nat.le_of_ble_eq_true rfl, Nat.le_of_ble_eq_true rfl⟩) ⟨kx_blind, va_recv hK hPc (ci := 1) (q0 := 0) rfl rfl, kx_give (ws := []) (tys := []) hPc hDc hK hG hZ hS hFc⟩ rfl rfl hl.1 rfl (lv_room (Nat.le_of_ble_eq_true rfl)) dX0_addSign_16 ⟨show (0 + dn_2) + 1 ≤ 20 from (by omega), show (0 + dm_3) + 1600 ≤ 4800 from (by omega)⟩) hS (fun q _ h => hFc q h) hFc (fun u dn_12 dm_13 t H locs ht hvm hq_11 hB hk1 hS => ?_)
  obtain ⟨r_14, n_15, z_16, F_17⟩ := u
  obtain ⟨hP1, hK1, hD1⟩ := hB
  rw [ht] at hP1
  obtain ⟨hP, hD⟩ := xj (wr := [(o 0, .inr (0, [.int (iz (z 7)), .int (iz (z 8)), .ref (o 1), .ref (o 2), .ref (o 3), .ref (o 5), .ref (o 4), .int (iz (z 9)), .int (iz (z 10)), .int (iz (z 11)), .int (iz (z 12)), .int (iz (z 13))])), (o 1, .inr (1, [.int (iz 20), .ref r_4, .int (iz z_6)])), (r_4, .inl (cI, n_5, .inl (iA F_7))), (o 3, .inr (1, [.int (iz 40), .ref (r 2), .int (iz (z 2))])), (r 2, .inl (cI, n 2, .inl (iA (F 2)))), (o 4, .inr (1, [.int (iz 5), .ref (r 3), .int (iz (z 3))])), (r 3, .inl (cI, n 3, .inl (iA (F 3)))), (o 5, .inr (3, [.ref (o 6), .ref (o 7), .ref (o 8)])), (o 6, .inr (1, [.int (iz 20), .ref (r 4), .int (iz (z 4))])), (r 4, .inl (cI, n 4, .inl (iA (F 4)))), (o 7, .inr (1, [.int (iz 20), .ref (r 5), .int (iz (z 5))])), (r 5, .inl (cI, n 5, .inl (iA (F 5)))), (o 8, .inr (1, [.int (iz 20), .ref (r 6), .int (iz (z 6))])), (r 6, .inl (cI, n 6, .inl (iA (F 6))))]) (w1 := (iU cI 20 (o 2) r_14 n_15 z_16 F_17)) (ws' := (eU cI o (va_up (va_up r 0 r_4) 1 r_14) (va_up (va_up n 0 n_5) 1 n_15) (va_up (va_up z 0 z_6) 1 z_16) (va_up (va_up F 0 F_7) 1 F_17))) hP hD [3, 4] [0, 1, 2, 5, 6, 7, 8, 9, 10, 11, 12, 13, 14, 15] [0, 1, 2, 14, 15, 3, 4, 5, 6, 7, 8, 9, 10, 11, 12, 13] rfl rfl (by decide) (by decide) hk1 hFc hP1 hD1 rfl (by decide)
  refine W.eq (g2 := F0 m 19 ls []) rfl ?_
  try dsimp only at hq_11
  obtain ⟨ha18, hb18, hc18, hd18⟩ := hq_11
  exact xk_vret (ov := (fun _ : Nat × Nat × Int × (Int → Int) × Nat × Nat × Int × (Int → Int) => none)) (post := (fun (u : Nat × Nat × Int × (Int → Int) × Nat × Nat × Int × (Int → Int)) (dn dm : Nat) => match u with | (r0', n0', z0', F0', r1', n1', z1', F1') => ((0 ≤ z0' ∧ z0' ≤ (n0' : Int) ∧ (n0' : Int) ≤ 20) ∧ iB F0') ∧ ((0 ≤ z1' ∧ z1' ≤ (n1' : Int) ∧ (n1' : Int) ≤ 20) ∧ iB F1') ∧ (dn ≤ 18 ∧ dm ≤ 120) ∧ iAdd 20 (z 0) (F 0) z0' F0' p0 ∧ iAdd 20 (z 1) (F 1) z1' F1' (kf_rk p0))) (ws := (fun u : Nat × Nat × Int × (Int → Int) × Nat × Nat × Int × (Int → Int) => match u with | (r0', n0', z0', F0', r1', n1', z1', F1') => (eU cI o (va_up (va_up r 0 r0') 1 r1') (va_up (va_up n 0 n0') 1 n1') (va_up (va_up z 0 z0') 1 z1') (va_up (va_up F 0 F0') 1 F1')))) (tys := xT cI cB cE) (r_4, n_5, z_6, F_7, r_14, n_15, z_16, F_17) hx hb hr hlocks rfl hP hD hK hS dX0_addSign_19 (fun dn dm hdn hdm => ⟨⟨by omega, hb8⟩, ⟨by omega, hb18⟩, by omega, hd8, hd18⟩) (by omega) (by omega)
set_option maxHeartbeats 4000000 in
set_option maxRecDepth 100000 in
theorem x_digitsEnd2 (l : Launch) (dC : Nat → ClassId) (dI : Nat → Nat → Nat) (cI cB cE : ClassId) (o : Nat → Nat) (r : Nat → Nat) (n : Nat → Nat) (z : Nat → Int) (F : Nat → Int → Int) (p0 : Int) (sz : Nat) (hE : eOk n z F) (h0 : 0 ≤ p0 ∧ p0 ≤ z 0) (hp01 : -2147483648 ≤ p0) (hp02 : p0 < 2147483648) : Met l yX0_digitsEnd [.code yX0_digitsEnd cX0_digitsEnd 3 (some .int)] ({ frames := 1, cells := 0, slots := 0, locals := 21 }) (va_Pc [.ref (o 0), .int (iz p0)] (pPre dC dI (eU cI o r n z F) (xT cI cB cE) sz)) (pQ (fun z => some (.int (iz z))) (fun (q : Int) => q = kf_ke (F 0) (z 0) (z 0 - p0).toNat p0)) 0 0 (fun _ => False) := by
  refine Met.ofW (cc := cX0_digitsEnd) (maxL := 3) (ret := (some .int)) (by decide) rfl ?_
  intro p e s m args below meth c s₁ B hml hv
  obtain ⟨rfl, hsz, hP, hK, hG⟩ := hv
  have hx := B.exec
  have hb := B.bytes
  have hr := B.returns
  have hts := kx_hts (a := ([.ref (o 0), .int (iz p0)] : List Value).toArray) hG
  have hown : s.vm.findClass RX0 = some m.cls := findClass_of_methodNamed B.named
  have hlocks := B.notSynchronized
  subst hsz
  have hS : va_S (fun _ => False) s.heap s.heap [] := va_S.rf
  have hl := lv_entry ([.ref (o 0), .int (iz p0)]) (n := 3) (Nat.le_of_ble_eq_true rfl)
  rw [lg_entry_eq]
  generalize (lg_sl ([.ref (o 0), .int (iz p0)]) ++ List.replicate (3 - (lg_sl ([.ref (o 0), .int (iz p0)])).length) Slot.unset).toArray = ls at hl ⊢
  have hl : lv_has ls 3 [(0, .ref (o 0)), (1, .int (iz p0))] := hl
  generalize hQe : MQ below (pQ (fun z => some (.int (iz z))) (fun (q : Int) => q = kf_ke (F 0) (z 0) (z 0 - p0).toNat p0)) ([.ref (o 0), .int (iz p0)] : List Value).toArray s 0 0 (fun _ => False) = QQ
  have he0 : 0 ≤ z 0 ∧ z 0 ≤ (n 0 : Int) ∧ (n 0 : Int) ≤ 20 := hE.1 0 (by decide)
  have he1 : 0 ≤ z 1 ∧ z 1 ≤ (n 1 : Int) ∧ (n 1 : Int) ≤ 20 := hE.1 1 (by decide)
  have he2 : 0 ≤ z 2 ∧ z 2 ≤ (n 2 : Int) ∧ (n 2 : Int) ≤ 40 := hE.1 2 (by decide)
  have he3 : 0 ≤ z 3 ∧ z 3 ≤ (n 3 : Int) ∧ (n 3 : Int) ≤ 5 := hE.1 3 (by decide)
  have he4 : 0 ≤ z 4 ∧ z 4 ≤ (n 4 : Int) ∧ (n 4 : Int) ≤ 20 := hE.1 4 (by decide)
  have he5 : 0 ≤ z 5 ∧ z 5 ≤ (n 5 : Int) ∧ (n 5 : Int) ≤ 20 := hE.1 5 (by decide)
  have he6 : 0 ≤ z 6 ∧ z 6 ≤ (n 6 : Int) ∧ (n 6 : Int) ≤ 20 := hE.1 6 (by decide)
  have hbz7 := hE.2.2 7
  have hbz8 := hE.2.2 8
  have hbz9 := hE.2.2 9
  have hbz10 := hE.2.2 10
  have hbz11 := hE.2.2 11
  have hbz12 := hE.2.2 12
  have hbz13 := hE.2.2 13
  refine lv_iload_n hx hb dX0_digitsEnd_0 rfl (lv_at hl 1 rfl) ?_
  refine lv_istore_n (lv' := [(2, .int (iz p0)), (0, .ref (o 0)), (1, .int (iz p0))]) hx hb dX0_digitsEnd_1 rfl hl (by decide) rfl (fun ls hl => ?_)
  have lp2 : ∀ (n0 : Nat) (k : Int), ((p0 ≤ k ∧ k ≤ z 0) ∧ (kf_ke (F 0) (z 0) (z 0 - p0).toNat p0 = kf_ke (F 0) (z 0) (z 0 - k).toNat k)) → (z 0 - k).toNat < n0 → ∀ (locs : List Loc), va_S (fun _ => False) s.heap s.heap locs → ∀ ls : Array Slot, lv_has ls 3 [(2, .int (iz k)), (0, .ref (o 0)), (1, .int (iz p0))] → W p l e (headSpec [.code yX0_digitsEnd cX0_digitsEnd 3 (some .int)] ({ frames := 1, cells := 0, slots := 0, locals := 21 })).room s m ([.ref (o 0), .int (iz p0)] : List Value).toArray below meth c s.heap locs 0 0 QQ (F0 m 2 ls []) := by
    intro n0
    induction n0 with
    | zero => intro k hinv hm0; exact absurd hm0 (Nat.not_lt_zero _)
    | succ n0 ih2 =>
      intro k hinv hm0 locs hS ls hl
      obtain ⟨hk, heq⟩ := hinv
      refine lv_iload_n hx hb dX0_digitsEnd_2 rfl (lv_at hl 0 rfl) ?_
      refine lv_aload_n hx hb dX0_digitsEnd_3 rfl (lv_at hl 1 rfl) ?_
      refine va_get (D := (dC, dI)) (ci := 0) (v := .ref (o 1)) (C := RX0) (T := TX0) (N := 12) hx hb hts kt_X0 hown hK hP 0 rfl rfl 2 (by decide) (kx_word hG kq_16_xentry_4 rfl) (fun _ h9 => h9) rfl dX0_digitsEnd_4 ?_
      have hPc := hP.sub (ws' := (iU cI 20 (o 1) (r 0) (n 0) (z 0) (F 0))) [1, 2] rfl
      refine xk_pure (va_runV (As := []) (rest := [.int (iz k)]) ⟨hx, hb, hml, hown, hts⟩ (x_size l dC dI cI cB cE 20 (o 1) (r 0) (n 0) (z 0) (F 0)  s.heap.size ) (cwV 0 hts (kx_gV kq_16_xentry_23 kq_15_xspan_10 kq_15_xspan_11 kq_13_xints_6 kq_15_xspan_12 rfl) rfl rfl rfl (by decide +kernel) ⟨Nat.le_of_ble_eq_true rfl, Nat.le_of_ble_eq_true rfl⟩) ⟨pPre_blind, va_recv hK hPc (ci := 1) (q0 := 0) rfl rfl, pPre_give hPc hK hG⟩ rfl rfl hl.1 rfl (lv_room (Nat.le_of_ble_eq_true rfl)) dX0_digitsEnd_7 ⟨Nat.le_of_ble_eq_true rfl, Nat.le_of_ble_eq_true rfl⟩) hS (fun z_2 locs hq_1 hS => ?_)
      refine W.eq (g2 := F0 m 10 ls [.int (iz z_2), .int (iz k)]) rfl ?_
      try dsimp only at hq_1
      have hq_1 := hq_1.symm
      subst hq_1
      refine ki_icmp_ge (tgt := 33) hx hb dX0_digitsEnd_10 (by decide) (by omega) (by omega) (by omega) (by omega) (fun c_3 => ?_) (fun c_3 => ?_)
      · skip
        refine lv_iload_n hx hb dX0_digitsEnd_33 rfl (lv_at hl 0 rfl) ?_
        rw [← hQe]
        exact xp_iret (z := k) hx hb hr rfl hlocks rfl hS.2.2 dX0_digitsEnd_34 ((heq.trans (kf_ke_stop (by omega))).symm)
      · skip
        refine lv_aload_n hx hb dX0_digitsEnd_13 rfl (lv_at hl 1 rfl) ?_
        refine va_get (D := (dC, dI)) (ci := 0) (v := .ref (o 1)) (C := RX0) (T := TX0) (N := 12) hx hb hts kt_X0 hown hK hP 0 rfl rfl 2 (by decide) (kx_word hG kq_16_xentry_4 rfl) (fun _ h9 => h9) rfl dX0_digitsEnd_14 ?_
        refine lv_iload_n hx hb dX0_digitsEnd_17 rfl (lv_at hl 0 rfl) ?_
        have hPc := hP.sub (ws' := (iU cI 20 (o 1) (r 0) (n 0) (z 0) (F 0))) [1, 2] rfl
        refine xk_pure (va_runV (As := [.int (iz k)]) (rest := []) ⟨hx, hb, hml, hown, hts⟩ (x_get l dC dI cI cB cE 20 (o 1) (r 0) (n 0) (z 0) (F 0) k s.heap.size (by omega) (hE.2.1 0) (by omega) (by omega)) (cwV 1 hts (kx_gV kq_16_xentry_24 kq_13_xints_4 kq_13_xints_5 kq_13_xints_6 kq_13_xints_7 rfl) rfl rfl rfl (by decide +kernel) ⟨Nat.le_of_ble_eq_true rfl, Nat.le_of_ble_eq_true rfl⟩) ⟨pPre_blind, va_recv hK hPc (ci := 1) (q0 := 0) rfl rfl, pPre_give hPc hK hG⟩ rfl rfl hl.1 rfl (lv_room (Nat.le_of_ble_eq_true rfl)) dX0_digitsEnd_18 ⟨Nat.le_of_ble_eq_true rfl, Nat.le_of_ble_eq_true rfl⟩) hS (fun z_5 locs hq_4 hS => ?_)
        refine W.eq (g2 := F0 m 21 ls [.int (iz z_5)]) rfl ?_
        try dsimp only at hq_4
        have eg_6 : z_5 = F 0 k := by omega
        have hsk_7 := hE.2.1 0 k
        subst eg_6
        refine W.eq (g2 := F0 m 21 ls [.int (iz (F 0 k))]) rfl ?_
        have hPc : va_P (dC, dI) kxCl [] s.heap := fun k q h => by simp at h
        refine xk_pure (va_runS (As := [.int (iz (F 0 k))]) (rest := []) ⟨hx, hb, hml, hown, hts⟩ (x_isDigit l dC dI cI cB cE (F 0 k) s.heap.size (by omega) (by omega)) (va_cwS 1 hts (kx_gS kq_16_xentry_29 kq_16_xentry_30 kq_16_xentry_2 kq_16_xentry_31 rfl) rfl rfl rfl (by decide +kernel) ⟨Nat.le_of_ble_eq_true rfl, Nat.le_of_ble_eq_true rfl⟩) ⟨pPre_blind, pPre_give hPc hK hG⟩ rfl rfl hl.1 rfl (lv_room (Nat.le_of_ble_eq_true rfl)) dX0_digitsEnd_21 ⟨Nat.le_of_ble_eq_true rfl, Nat.le_of_ble_eq_true rfl⟩) hS (fun z_9 locs hq_8 hS => ?_)
        refine W.eq (g2 := F0 m 24 ls [.int (iz z_9)]) rfl ?_
        try dsimp only at hq_8
        rcases hq_8 with ⟨rfl, hq_8⟩ | ⟨rfl, hq_8⟩
        · skip
          refine ki_if_eq (tgt := 33) hx hb dX0_digitsEnd_24 (by decide) (by omega) (by omega) (fun c_10 => ?_) (fun c_10 => ?_)
          · omega
          · skip
            refine lv_iinc (v := iz (k + 1)) (lv' := [(2, .int (iz (k + 1))), (0, .ref (o 0)), (1, .int (iz p0))]) hx hb dX0_digitsEnd_27 hl (k := 0) rfl (iz_add k 1) (by decide) rfl (fun ls hl => ?_)
            refine lv_goto (tgt := 2) hx hb dX0_digitsEnd_30 (by decide) ?_
            exact ih2 (k + 1) ⟨by omega, heq.trans (kf_ke_step (by omega) (by omega))⟩ (by omega) _ hS ls (lv_sub hl [0, 1, 2] rfl)
        · skip
          refine ki_if_eq (tgt := 33) hx hb dX0_digitsEnd_24 (by decide) (by omega) (by omega) (fun c_11 => ?_) (fun c_11 => ?_)
          · skip
            refine lv_iload_n hx hb dX0_digitsEnd_33 rfl (lv_at hl 0 rfl) ?_
            rw [← hQe]
            exact xp_iret (z := k) hx hb hr rfl hlocks rfl hS.2.2 dX0_digitsEnd_34 ((heq.trans (kf_ke_stop (by omega))).symm)
          · omega
  exact lp2 _ p0 ⟨by omega, rfl⟩ (Nat.lt_succ_self _) _ hS ls (lv_sub hl [0, 1, 2] rfl)
set_option maxHeartbeats 4000000 in
set_option maxRecDepth 100000 in
theorem x_addNumber2 (l : Launch) (dC : Nat → ClassId) (dI : Nat → Nat → Nat) (cI cB cE : ClassId) (o : Nat → Nat) (r : Nat → Nat) (n : Nat → Nat) (z : Nat → Int) (F : Nat → Int → Int) (p0 : Int) (p1 : Int) (sz : Nat) (hE : eOk n z F) (h0 : 0 ≤ p0 ∧ p0 ≤ p1 ∧ p1 ≤ z 0) (hrm : z 2 + 1 + (p1 - kf_kz (F 0) p1 (p1 - p0).toNat p0) ≤ 40) (hp01 : -2147483648 ≤ p0) (hp02 : p0 < 2147483648) (hp11 : -2147483648 ≤ p1) (hp12 : p1 < 2147483648) : Met l yX0_addNumber [.code yX0_addNumber cX0_addNumber 5 none] ({ frames := 3, cells := 10, slots := 1720, locals := 103 }) (va_Pc [.ref (o 0), .int (iz p0), .int (iz p1)] (kx_Pre dC dI (eU cI o r n z F) (xT cI cB cE) sz)) (xQ (fun _ : Nat × Nat × Int × (Int → Int) => none) (fun (u : Nat × Nat × Int × (Int → Int)) (dn dm : Nat) => match u with | (r2', n2', z2', F2') => ((0 ≤ z2' ∧ z2' ≤ (n2' : Int) ∧ (n2' : Int) ≤ 40) ∧ iB F2') ∧ (dn + psg 40 n2' ≤ psg 40 (n 2) ∧ dm + psj 40 n2' ≤ psj 40 (n 2)) ∧ kf_ls F2' 0 z2'.toNat = kf_ls (F 2) 0 (z 2).toNat ++ kf_kn (F 0) p0 p1) (fun u t => kx_At dC dI (va_A (eU cI o r n z F) sz) ((fun u : Nat × Nat × Int × (Int → Int) => match u with | (r2', n2', z2', F2') => (eU cI o (va_up r 2 r2') (va_up n 2 n2') (va_up z 2 z2') (va_up F 2 F2'))) u) (xT cI cB cE) t) (va_A (eU cI o r n z F) sz)) 10 1720 (va_A (eU cI o r n z F) sz) := by
  refine Met.ofW (cc := cX0_addNumber) (maxL := 5) (ret := none) (by decide) rfl ?_
  intro p e s m args below meth c s₁ B hml hv
  obtain ⟨rfl, hsz, hP, hK, hD0, hG, hZ⟩ := hv
  have hx := B.exec
  have hb := B.bytes
  have hr := B.returns
  have hts := kx_hts (a := ([.ref (o 0), .int (iz p0), .int (iz p1)] : List Value).toArray) hG
  have hown : s.vm.findClass RX0 = some m.cls := findClass_of_methodNamed B.named
  have hlocks := B.notSynchronized
  subst hsz
  have hD := hD0.self (sz := s.heap.size)
  generalize hAe : va_A (eU cI o r n z F) s.heap.size = A at hD hZ ⊢
  have hA : ∀ q : Nat, s.heap.size ≤ q → A q := fun q h => by rw [← hAe]; exact Or.inr h
  have hS : va_S A s.heap s.heap [] := va_S.rf
  have hl := lv_entry ([.ref (o 0), .int (iz p0), .int (iz p1)]) (n := 5) (Nat.le_of_ble_eq_true rfl)
  rw [lg_entry_eq]
  generalize (lg_sl ([.ref (o 0), .int (iz p0), .int (iz p1)]) ++ List.replicate (5 - (lg_sl ([.ref (o 0), .int (iz p0), .int (iz p1)])).length) Slot.unset).toArray = ls at hl ⊢
  have hl : lv_has ls 5 [(0, .ref (o 0)), (1, .int (iz p0)), (2, .int (iz p1))] := hl
  generalize hQe : MQ below (xQ (fun _ : Nat × Nat × Int × (Int → Int) => none) (fun (u : Nat × Nat × Int × (Int → Int)) (dn dm : Nat) => match u with | (r2', n2', z2', F2') => ((0 ≤ z2' ∧ z2' ≤ (n2' : Int) ∧ (n2' : Int) ≤ 40) ∧ iB F2') ∧ (dn + psg 40 n2' ≤ psg 40 (n 2) ∧ dm + psj 40 n2' ≤ psj 40 (n 2)) ∧ kf_ls F2' 0 z2'.toNat = kf_ls (F 2) 0 (z 2).toNat ++ kf_kn (F 0) p0 p1) (fun u t => kx_At dC dI A ((fun u : Nat × Nat × Int × (Int → Int) => match u with | (r2', n2', z2', F2') => (eU cI o (va_up r 2 r2') (va_up n 2 n2') (va_up z 2 z2') (va_up F 2 F2'))) u) (xT cI cB cE) t) A) ([.ref (o 0), .int (iz p0), .int (iz p1)] : List Value).toArray s 10 1720 A = QQ
  have he0 : 0 ≤ z 0 ∧ z 0 ≤ (n 0 : Int) ∧ (n 0 : Int) ≤ 20 := hE.1 0 (by decide)
  have he1 : 0 ≤ z 1 ∧ z 1 ≤ (n 1 : Int) ∧ (n 1 : Int) ≤ 20 := hE.1 1 (by decide)
  have he2 : 0 ≤ z 2 ∧ z 2 ≤ (n 2 : Int) ∧ (n 2 : Int) ≤ 40 := hE.1 2 (by decide)
  have he3 : 0 ≤ z 3 ∧ z 3 ≤ (n 3 : Int) ∧ (n 3 : Int) ≤ 5 := hE.1 3 (by decide)
  have he4 : 0 ≤ z 4 ∧ z 4 ≤ (n 4 : Int) ∧ (n 4 : Int) ≤ 20 := hE.1 4 (by decide)
  have he5 : 0 ≤ z 5 ∧ z 5 ≤ (n 5 : Int) ∧ (n 5 : Int) ≤ 20 := hE.1 5 (by decide)
  have he6 : 0 ≤ z 6 ∧ z 6 ≤ (n 6 : Int) ∧ (n 6 : Int) ≤ 20 := hE.1 6 (by decide)
  have hbz7 := hE.2.2 7
  have hbz8 := hE.2.2 8
  have hbz9 := hE.2.2 9
  have hbz10 := hE.2.2 10
  have hbz11 := hE.2.2 11
  have hbz12 := hE.2.2 12
  have hbz13 := hE.2.2 13
  have hpa := psg_le 40 (n 2)
  have hpb := psj_le (L := 40) (by omega) (n 2)
  refine lv_iload_n hx hb dX0_addNumber_0 rfl (lv_at hl 1 rfl) ?_
  refine lv_istore_n (lv' := [(3, .int (iz p0)), (0, .ref (o 0)), (1, .int (iz p0)), (2, .int (iz p1))]) hx hb dX0_addNumber_1 rfl hl (by decide) rfl (fun ls hl => ?_)
  have lp2 : ∀ (n0 : Nat) (j : Int), ((p0 ≤ j ∧ j ≤ p1) ∧ (kf_kz (F 0) p1 (p1 - p0).toNat p0 = kf_kz (F 0) p1 (p1 - j).toNat j)) → (p1 - j).toNat < n0 → ∀ (H : Heap) (locs : List Loc), va_P (dC, dI) kxCl (eU cI o r n z F) H → va_D A (eU cI o r n z F) → va_S A s.heap H locs → ∀ ls : Array Slot, lv_has ls 5 [(3, .int (iz j)), (0, .ref (o 0)), (1, .int (iz p0)), (2, .int (iz p1))] → W p l e (headSpec [.code yX0_addNumber cX0_addNumber 5 none] ({ frames := 3, cells := 10, slots := 1720, locals := 103 })).room s m ([.ref (o 0), .int (iz p0), .int (iz p1)] : List Value).toArray below meth c H locs 0 0 QQ (F0 m 2 ls []) := by
    intro n0
    induction n0 with
    | zero => intro j hinv hm0; exact absurd hm0 (Nat.not_lt_zero _)
    | succ n0 ih2 =>
      intro j hinv hm0 H locs hP hD hS ls hl
      obtain ⟨hj, hkz⟩ := hinv
      refine lv_iload_n hx hb dX0_addNumber_2 rfl (lv_at hl 0 rfl) ?_
      refine lv_iload_n hx hb dX0_addNumber_3 rfl (lv_at hl 3 rfl) ?_
      refine ki_icmp_ge (tgt := 26) hx hb dX0_addNumber_4 (by decide) (by omega) (by omega) (by omega) (by omega) (fun c_1 => ?_) (fun c_1 => ?_)
      · skip
        have hjz : kf_kz (F 0) p1 (p1 - p0).toNat p0 = j := hkz.trans (kf_kz_stop (by omega))
        refine lv_aload_n hx hb dX0_addNumber_26 rfl (lv_at hl 1 rfl) ?_
        refine va_get (D := (dC, dI)) (ci := 0) (v := .ref (o 3)) (C := RX0) (T := TX0) (N := 12) hx hb hts kt_X0 hown hK hP 0 rfl rfl 4 (by decide) (kx_word hG kq_16_xentry_22 rfl) (fun _ h9 => h9) rfl dX0_addNumber_27 ?_
        refine lv_iconst (v := iz 2) hx hb dX0_addNumber_30 (by decide) ?_
        refine lv_iload_n hx hb dX0_addNumber_31 rfl (lv_at hl 3 rfl) ?_
        refine ki_iadd hx hb dX0_addNumber_32 ?_
        refine lv_iload_n hx hb dX0_addNumber_33 rfl (lv_at hl 0 rfl) ?_
        refine ki_isub hx hb dX0_addNumber_34 ?_
        have hPc := hP.sub (ws' := (iU cI 40 (o 3) (r 2) (n 2) (z 2) (F 2))) [5, 6] rfl
        have hDc := hD.sub (ws' := (iU cI 40 (o 3) (r 2) (n 2) (z 2) (F 2))) [5, 6] (by decide) rfl
        have hFc := va_free (wc := (iU cI 40 (o 3) (r 2) (n 2) (z 2) (F 2))) hD hS hA [5, 6] rfl
        refine xk_call (va_runV (As := [.int (iz ((2 + p1) - j))]) (rest := []) ⟨hx, hb, hml, hown, hts⟩ (x_add l dC dI cI cB cE 40 (o 3) (r 2) (n 2) (z 2) (F 2) ((2 + p1) - j) H.size (by omega) (hE.2.1 2) (by omega) (by omega)) (cwV 1 hts (kx_gV kq_16_xentry_5 kq_15_xspan_46 kq_15_xspan_47 kq_13_xints_6 kq_15_xspan_48 rfl) rfl rfl rfl (by decide +kernel) ⟨Nat.le_of_ble_eq_true rfl, Nat.le_of_ble_eq_true rfl⟩) ⟨kx_blind, va_recv hK hPc (ci := 1) (q0 := 0) rfl rfl, kx_give (ws := []) (tys := []) hPc hDc hK hG hZ hS hFc⟩ rfl rfl hl.1 rfl (lv_room (Nat.le_of_ble_eq_true rfl)) dX0_addNumber_35 ⟨show 0 + 1 ≤ 10 from (by omega), show 0 + 1600 ≤ 1720 from (by omega)⟩) hS (fun q _ h => hFc q h) hFc (fun u dn_3 dm_4 t H locs ht hvm hq_2 hB hk1 hS => ?_)
        obtain ⟨r_5, n_6, z_7, F_8⟩ := u
        obtain ⟨hP1, hK1, hD1⟩ := hB
        rw [ht] at hP1
        obtain ⟨hP, hD⟩ := xj (wr := [(o 0, .inr (0, [.int (iz (z 7)), .int (iz (z 8)), .ref (o 1), .ref (o 2), .ref (o 3), .ref (o 5), .ref (o 4), .int (iz (z 9)), .int (iz (z 10)), .int (iz (z 11)), .int (iz (z 12)), .int (iz (z 13))])), (o 1, .inr (1, [.int (iz 20), .ref (r 0), .int (iz (z 0))])), (r 0, .inl (cI, n 0, .inl (iA (F 0)))), (o 2, .inr (1, [.int (iz 20), .ref (r 1), .int (iz (z 1))])), (r 1, .inl (cI, n 1, .inl (iA (F 1)))), (o 4, .inr (1, [.int (iz 5), .ref (r 3), .int (iz (z 3))])), (r 3, .inl (cI, n 3, .inl (iA (F 3)))), (o 5, .inr (3, [.ref (o 6), .ref (o 7), .ref (o 8)])), (o 6, .inr (1, [.int (iz 20), .ref (r 4), .int (iz (z 4))])), (r 4, .inl (cI, n 4, .inl (iA (F 4)))), (o 7, .inr (1, [.int (iz 20), .ref (r 5), .int (iz (z 5))])), (r 5, .inl (cI, n 5, .inl (iA (F 5)))), (o 8, .inr (1, [.int (iz 20), .ref (r 6), .int (iz (z 6))])), (r 6, .inl (cI, n 6, .inl (iA (F 6))))]) (w1 := (iU cI 40 (o 3) r_5 n_6 z_7 F_8)) (ws' := (eU cI o (va_up r 2 r_5) (va_up n 2 n_6) (va_up z 2 z_7) (va_up F 2 F_8))) hP hD [5, 6] [0, 1, 2, 3, 4, 7, 8, 9, 10, 11, 12, 13, 14, 15] [0, 1, 2, 3, 4, 14, 15, 5, 6, 7, 8, 9, 10, 11, 12, 13] rfl rfl (by decide) (by decide) hk1 hFc hP1 hD1 rfl (by decide)
        refine W.eq (g2 := F0 m 38 ls []) rfl ?_
        try dsimp only at hq_2
        obtain ⟨ha9, hb9, hc9, hd9⟩ := hq_2
        obtain ⟨ez9, el9⟩ := kf_ls_add (by omega) (by omega) hd9
        refine lv_iload_n hx hb dX0_addNumber_38 rfl (lv_at hl 0 rfl) ?_
        refine lv_istore (lv' := [(4, .int (iz j)), (3, .int (iz j)), (0, .ref (o 0)), (1, .int (iz p0)), (2, .int (iz p1))]) hx hb dX0_addNumber_39 hl (by decide) rfl (fun ls hl => ?_)
        have lp41 : ∀ (n0 : Nat) (k : Int) (rv : Nat) (nv : Nat) (zv : Int) (Fv : Int → Int) (cv : Nat) (sv : Nat), ((j ≤ k ∧ k ≤ p1) ∧ (0 ≤ zv ∧ zv ≤ (nv : Int) ∧ (nv : Int) ≤ 40) ∧ (iB Fv) ∧ (cv + psg 40 nv ≤ psg 40 (n 2) ∧ sv + psj 40 nv ≤ psj 40 (n 2)) ∧ (zv = z 2 + 1 + (k - j)) ∧ (kf_ls Fv 0 zv.toNat = (kf_ls (F 2) 0 (z 2).toNat ++ [2 + p1 - j]) ++ kf_ls (F 0) j (k - j).toNat)) → (p1 - k).toNat < n0 → ∀ (H : Heap) (locs : List Loc), va_P (dC, dI) kxCl (eU cI o (va_up r 2 rv) (va_up n 2 nv) (va_up z 2 zv) (va_up F 2 Fv)) H → va_D A (eU cI o (va_up r 2 rv) (va_up n 2 nv) (va_up z 2 zv) (va_up F 2 Fv)) → va_S A s.heap H locs → ∀ ls : Array Slot, lv_has ls 5 [(4, .int (iz k)), (3, .int (iz j)), (0, .ref (o 0)), (1, .int (iz p0)), (2, .int (iz p1))] → W p l e (headSpec [.code yX0_addNumber cX0_addNumber 5 none] ({ frames := 3, cells := 10, slots := 1720, locals := 103 })).room s m ([.ref (o 0), .int (iz p0), .int (iz p1)] : List Value).toArray below meth c H locs cv sv QQ (F0 m 41 ls []) := by
          intro n0
          induction n0 with
          | zero => intro k rv nv zv Fv cv sv hinv hm0; exact absurd hm0 (Nat.not_lt_zero _)
          | succ n0 ih41 =>
            intro k rv nv zv Fv cv sv hinv hm0 H locs hP hD hS ls hl
            obtain ⟨hk, hv, hFv, hcv, hzv, hlv⟩ := hinv
            refine lv_iload hx hb dX0_addNumber_41 (lv_at hl 0 rfl) ?_
            refine lv_iload_n hx hb dX0_addNumber_43 rfl (lv_at hl 4 rfl) ?_
            refine ki_icmp_ge (tgt := 69) hx hb dX0_addNumber_44 (by decide) (by omega) (by omega) (by omega) (by omega) (fun c_10 => ?_) (fun c_10 => ?_)
            · skip
              rw [← hQe]
              exact xk_vret (ov := (fun _ : Nat × Nat × Int × (Int → Int) => none)) (post := (fun (u : Nat × Nat × Int × (Int → Int)) (dn dm : Nat) => match u with | (r2', n2', z2', F2') => ((0 ≤ z2' ∧ z2' ≤ (n2' : Int) ∧ (n2' : Int) ≤ 40) ∧ iB F2') ∧ (dn + psg 40 n2' ≤ psg 40 (n 2) ∧ dm + psj 40 n2' ≤ psj 40 (n 2)) ∧ kf_ls F2' 0 z2'.toNat = kf_ls (F 2) 0 (z 2).toNat ++ kf_kn (F 0) p0 p1)) (ws := (fun u : Nat × Nat × Int × (Int → Int) => match u with | (r2', n2', z2', F2') => (eU cI o (va_up r 2 r2') (va_up n 2 n2') (va_up z 2 z2') (va_up F 2 F2')))) (tys := xT cI cB cE) (rv, nv, zv, Fv) hx hb hr hlocks rfl hP hD hK hS dX0_addNumber_69 (fun dn dm hdn hdm => ⟨⟨by omega, hFv⟩, by omega, by have ek : k = p1 := (by omega); subst ek; rw [hlv, List.append_assoc]; unfold kf_kn; rw [hjz]; rfl⟩) (by omega) (by omega)
            · skip
              refine lv_aload_n hx hb dX0_addNumber_47 rfl (lv_at hl 2 rfl) ?_
              refine va_get (D := (dC, dI)) (ci := 0) (v := .ref (o 3)) (C := RX0) (T := TX0) (N := 12) hx hb hts kt_X0 hown hK hP 0 rfl rfl 4 (by decide) (kx_word hG kq_16_xentry_22 rfl) (fun _ h9 => h9) rfl dX0_addNumber_48 ?_
              refine lv_aload_n hx hb dX0_addNumber_51 rfl (lv_at hl 2 rfl) ?_
              refine va_get (D := (dC, dI)) (ci := 0) (v := .ref (o 1)) (C := RX0) (T := TX0) (N := 12) hx hb hts kt_X0 hown hK hP 0 rfl rfl 2 (by decide) (kx_word hG kq_16_xentry_4 rfl) (fun _ h9 => h9) rfl dX0_addNumber_52 ?_
              refine lv_iload hx hb dX0_addNumber_55 (lv_at hl 0 rfl) ?_
              have hPc := hP.sub (ws' := (iU cI 20 (o 1) (r 0) (n 0) (z 0) (F 0))) [1, 2] rfl
              refine xk_pure (va_runV (As := [.int (iz k)]) (rest := [.ref (o 3)]) ⟨hx, hb, hml, hown, hts⟩ (x_get l dC dI cI cB cE 20 (o 1) (r 0) (n 0) (z 0) (F 0) k H.size (by omega) (hE.2.1 0) (by omega) (by omega)) (cwV 1 hts (kx_gV kq_16_xentry_24 kq_13_xints_4 kq_13_xints_5 kq_13_xints_6 kq_13_xints_7 rfl) rfl rfl rfl (by decide +kernel) ⟨Nat.le_of_ble_eq_true rfl, Nat.le_of_ble_eq_true rfl⟩) ⟨pPre_blind, va_recv hK hPc (ci := 1) (q0 := 0) rfl rfl, pPre_give hPc hK hG⟩ rfl rfl hl.1 rfl (lv_room (Nat.le_of_ble_eq_true rfl)) dX0_addNumber_57 ⟨show cv + 0 ≤ 10 from (by omega), show sv + 0 ≤ 1720 from (by omega)⟩) hS (fun z_12 locs hq_11 hS => ?_)
              refine W.eq (g2 := F0 m 60 ls [.int (iz z_12), .ref (o 3)]) rfl ?_
              try dsimp only at hq_11
              have eg_13 : z_12 = F 0 k := by omega
              have hsk_14 := hE.2.1 0 k
              subst eg_13
              refine W.eq (g2 := F0 m 60 ls [.int (iz (F 0 k)), .ref (o 3)]) rfl ?_
              have hPc := hP.sub (ws' := (iU cI 40 (o 3) rv nv zv Fv)) [5, 6] rfl
              have hDc := hD.sub (ws' := (iU cI 40 (o 3) rv nv zv Fv)) [5, 6] (by decide) rfl
              have hFc := va_free (wc := (iU cI 40 (o 3) rv nv zv Fv)) hD hS hA [5, 6] rfl
              refine xk_call (va_runV (As := [.int (iz (F 0 k))]) (rest := []) ⟨hx, hb, hml, hown, hts⟩ (x_add l dC dI cI cB cE 40 (o 3) rv nv zv Fv (F 0 k) H.size (by omega) hFv (by omega) (by omega)) (cwV 1 hts (kx_gV kq_16_xentry_5 kq_15_xspan_46 kq_15_xspan_47 kq_13_xints_6 kq_15_xspan_48 rfl) rfl rfl rfl (by decide +kernel) ⟨Nat.le_of_ble_eq_true rfl, Nat.le_of_ble_eq_true rfl⟩) ⟨kx_blind, va_recv hK hPc (ci := 1) (q0 := 0) rfl rfl, kx_give (ws := []) (tys := []) hPc hDc hK hG hZ hS hFc⟩ rfl rfl hl.1 rfl (lv_room (Nat.le_of_ble_eq_true rfl)) dX0_addNumber_60 ⟨show cv + 1 ≤ 10 from (by omega), show sv + 1600 ≤ 1720 from (by omega)⟩) hS (fun q _ h => hFc q h) hFc (fun u dn_16 dm_17 t H locs ht hvm hq_15 hB hk1 hS => ?_)
              obtain ⟨r_18, n_19, z_20, F_21⟩ := u
              obtain ⟨hP1, hK1, hD1⟩ := hB
              rw [ht] at hP1
              obtain ⟨hP, hD⟩ := xj (wr := [(o 0, .inr (0, [.int (iz (z 7)), .int (iz (z 8)), .ref (o 1), .ref (o 2), .ref (o 3), .ref (o 5), .ref (o 4), .int (iz (z 9)), .int (iz (z 10)), .int (iz (z 11)), .int (iz (z 12)), .int (iz (z 13))])), (o 1, .inr (1, [.int (iz 20), .ref (r 0), .int (iz (z 0))])), (r 0, .inl (cI, n 0, .inl (iA (F 0)))), (o 2, .inr (1, [.int (iz 20), .ref (r 1), .int (iz (z 1))])), (r 1, .inl (cI, n 1, .inl (iA (F 1)))), (o 4, .inr (1, [.int (iz 5), .ref (r 3), .int (iz (z 3))])), (r 3, .inl (cI, n 3, .inl (iA (F 3)))), (o 5, .inr (3, [.ref (o 6), .ref (o 7), .ref (o 8)])), (o 6, .inr (1, [.int (iz 20), .ref (r 4), .int (iz (z 4))])), (r 4, .inl (cI, n 4, .inl (iA (F 4)))), (o 7, .inr (1, [.int (iz 20), .ref (r 5), .int (iz (z 5))])), (r 5, .inl (cI, n 5, .inl (iA (F 5)))), (o 8, .inr (1, [.int (iz 20), .ref (r 6), .int (iz (z 6))])), (r 6, .inl (cI, n 6, .inl (iA (F 6))))]) (w1 := (iU cI 40 (o 3) r_18 n_19 z_20 F_21)) (ws' := (eU cI o (va_up r 2 r_18) (va_up n 2 n_19) (va_up z 2 z_20) (va_up F 2 F_21))) hP hD [5, 6] [0, 1, 2, 3, 4, 7, 8, 9, 10, 11, 12, 13, 14, 15] [0, 1, 2, 3, 4, 14, 15, 5, 6, 7, 8, 9, 10, 11, 12, 13] rfl rfl (by decide) (by decide) hk1 hFc hP1 hD1 rfl (by decide)
              refine W.eq (g2 := F0 m 63 ls []) rfl ?_
              try dsimp only at hq_15
              obtain ⟨ha22, hb22, hc22, hd22⟩ := hq_15
              obtain ⟨ez22, el22⟩ := kf_ls_add (by omega) (by omega) hd22
              refine lv_iinc (v := iz (k + 1)) (lv' := [(4, .int (iz (k + 1))), (3, .int (iz j)), (0, .ref (o 0)), (1, .int (iz p0)), (2, .int (iz p1))]) hx hb dX0_addNumber_63 hl (k := 0) rfl (iz_add k 1) (by decide) rfl (fun ls hl => ?_)
              refine lv_goto (tgt := 41) hx hb dX0_addNumber_66 (by decide) ?_
              exact ih41 (k + 1) r_18 n_19 z_20 F_21 (cv + dn_16) (sv + dm_17) ⟨by omega, by omega, hb22, by omega, by omega, by rw [el22, hlv, kf_ls_snoc (by omega), List.append_assoc]⟩ (by omega) _ _ hP hD hS ls (lv_sub hl [0, 1, 2, 3, 4] rfl)
        exact lp41 _ j r_5 n_6 z_7 F_8 (0 + dn_3) (0 + dm_4) ⟨by omega, by omega, hb9, by omega, by omega, by rw [el9, Int.sub_self]; show _ = _ ++ []; rw [List.append_nil]⟩ (Nat.lt_succ_self _) _ _ hP hD hS ls (lv_sub hl [0, 1, 2, 3, 4] rfl)
      · skip
        refine lv_aload_n hx hb dX0_addNumber_7 rfl (lv_at hl 1 rfl) ?_
        refine va_get (D := (dC, dI)) (ci := 0) (v := .ref (o 1)) (C := RX0) (T := TX0) (N := 12) hx hb hts kt_X0 hown hK hP 0 rfl rfl 2 (by decide) (kx_word hG kq_16_xentry_4 rfl) (fun _ h9 => h9) rfl dX0_addNumber_8 ?_
        refine lv_iload_n hx hb dX0_addNumber_11 rfl (lv_at hl 0 rfl) ?_
        have hPc := hP.sub (ws' := (iU cI 20 (o 1) (r 0) (n 0) (z 0) (F 0))) [1, 2] rfl
        refine xk_pure (va_runV (As := [.int (iz j)]) (rest := []) ⟨hx, hb, hml, hown, hts⟩ (x_get l dC dI cI cB cE 20 (o 1) (r 0) (n 0) (z 0) (F 0) j H.size (by omega) (hE.2.1 0) (by omega) (by omega)) (cwV 1 hts (kx_gV kq_16_xentry_24 kq_13_xints_4 kq_13_xints_5 kq_13_xints_6 kq_13_xints_7 rfl) rfl rfl rfl (by decide +kernel) ⟨Nat.le_of_ble_eq_true rfl, Nat.le_of_ble_eq_true rfl⟩) ⟨pPre_blind, va_recv hK hPc (ci := 1) (q0 := 0) rfl rfl, pPre_give hPc hK hG⟩ rfl rfl hl.1 rfl (lv_room (Nat.le_of_ble_eq_true rfl)) dX0_addNumber_12 ⟨show 0 + 0 ≤ 10 from (by omega), show 0 + 0 ≤ 1720 from (by omega)⟩) hS (fun z_24 locs hq_23 hS => ?_)
        refine W.eq (g2 := F0 m 15 ls [.int (iz z_24)]) rfl ?_
        try dsimp only at hq_23
        have eg_25 : z_24 = F 0 j := by omega
        have hsk_26 := hE.2.1 0 j
        subst eg_25
        refine W.eq (g2 := F0 m 15 ls [.int (iz (F 0 j))]) rfl ?_
        refine lv_bipush (v := iz 48) hx hb dX0_addNumber_15 (by decide) ?_
        refine ki_icmp_ne (tgt := 26) hx hb dX0_addNumber_17 (by decide) (by omega) (by omega) (by omega) (by omega) (fun c_27 => ?_) (fun c_27 => ?_)
        · skip
          have hjz : kf_kz (F 0) p1 (p1 - p0).toNat p0 = j := hkz.trans (kf_kz_stop (by omega))
          refine lv_aload_n hx hb dX0_addNumber_26 rfl (lv_at hl 1 rfl) ?_
          refine va_get (D := (dC, dI)) (ci := 0) (v := .ref (o 3)) (C := RX0) (T := TX0) (N := 12) hx hb hts kt_X0 hown hK hP 0 rfl rfl 4 (by decide) (kx_word hG kq_16_xentry_22 rfl) (fun _ h9 => h9) rfl dX0_addNumber_27 ?_
          refine lv_iconst (v := iz 2) hx hb dX0_addNumber_30 (by decide) ?_
          refine lv_iload_n hx hb dX0_addNumber_31 rfl (lv_at hl 3 rfl) ?_
          refine ki_iadd hx hb dX0_addNumber_32 ?_
          refine lv_iload_n hx hb dX0_addNumber_33 rfl (lv_at hl 0 rfl) ?_
          refine ki_isub hx hb dX0_addNumber_34 ?_
          have hPc := hP.sub (ws' := (iU cI 40 (o 3) (r 2) (n 2) (z 2) (F 2))) [5, 6] rfl
          have hDc := hD.sub (ws' := (iU cI 40 (o 3) (r 2) (n 2) (z 2) (F 2))) [5, 6] (by decide) rfl
          have hFc := va_free (wc := (iU cI 40 (o 3) (r 2) (n 2) (z 2) (F 2))) hD hS hA [5, 6] rfl
          refine xk_call (va_runV (As := [.int (iz ((2 + p1) - j))]) (rest := []) ⟨hx, hb, hml, hown, hts⟩ (x_add l dC dI cI cB cE 40 (o 3) (r 2) (n 2) (z 2) (F 2) ((2 + p1) - j) H.size (by omega) (hE.2.1 2) (by omega) (by omega)) (cwV 1 hts (kx_gV kq_16_xentry_5 kq_15_xspan_46 kq_15_xspan_47 kq_13_xints_6 kq_15_xspan_48 rfl) rfl rfl rfl (by decide +kernel) ⟨Nat.le_of_ble_eq_true rfl, Nat.le_of_ble_eq_true rfl⟩) ⟨kx_blind, va_recv hK hPc (ci := 1) (q0 := 0) rfl rfl, kx_give (ws := []) (tys := []) hPc hDc hK hG hZ hS hFc⟩ rfl rfl hl.1 rfl (lv_room (Nat.le_of_ble_eq_true rfl)) dX0_addNumber_35 ⟨show 0 + 1 ≤ 10 from (by omega), show 0 + 1600 ≤ 1720 from (by omega)⟩) hS (fun q _ h => hFc q h) hFc (fun u dn_29 dm_30 t H locs ht hvm hq_28 hB hk1 hS => ?_)
          obtain ⟨r_31, n_32, z_33, F_34⟩ := u
          obtain ⟨hP1, hK1, hD1⟩ := hB
          rw [ht] at hP1
          obtain ⟨hP, hD⟩ := xj (wr := [(o 0, .inr (0, [.int (iz (z 7)), .int (iz (z 8)), .ref (o 1), .ref (o 2), .ref (o 3), .ref (o 5), .ref (o 4), .int (iz (z 9)), .int (iz (z 10)), .int (iz (z 11)), .int (iz (z 12)), .int (iz (z 13))])), (o 1, .inr (1, [.int (iz 20), .ref (r 0), .int (iz (z 0))])), (r 0, .inl (cI, n 0, .inl (iA (F 0)))), (o 2, .inr (1, [.int (iz 20), .ref (r 1), .int (iz (z 1))])), (r 1, .inl (cI, n 1, .inl (iA (F 1)))), (o 4, .inr (1, [.int (iz 5), .ref (r 3), .int (iz (z 3))])), (r 3, .inl (cI, n 3, .inl (iA (F 3)))), (o 5, .inr (3, [.ref (o 6), .ref (o 7), .ref (o 8)])), (o 6, .inr (1, [.int (iz 20), .ref (r 4), .int (iz (z 4))])), (r 4, .inl (cI, n 4, .inl (iA (F 4)))), (o 7, .inr (1, [.int (iz 20), .ref (r 5), .int (iz (z 5))])), (r 5, .inl (cI, n 5, .inl (iA (F 5)))), (o 8, .inr (1, [.int (iz 20), .ref (r 6), .int (iz (z 6))])), (r 6, .inl (cI, n 6, .inl (iA (F 6))))]) (w1 := (iU cI 40 (o 3) r_31 n_32 z_33 F_34)) (ws' := (eU cI o (va_up r 2 r_31) (va_up n 2 n_32) (va_up z 2 z_33) (va_up F 2 F_34))) hP hD [5, 6] [0, 1, 2, 3, 4, 7, 8, 9, 10, 11, 12, 13, 14, 15] [0, 1, 2, 3, 4, 14, 15, 5, 6, 7, 8, 9, 10, 11, 12, 13] rfl rfl (by decide) (by decide) hk1 hFc hP1 hD1 rfl (by decide)
          refine W.eq (g2 := F0 m 38 ls []) rfl ?_
          try dsimp only at hq_28
          obtain ⟨ha35, hb35, hc35, hd35⟩ := hq_28
          obtain ⟨ez35, el35⟩ := kf_ls_add (by omega) (by omega) hd35
          refine lv_iload_n hx hb dX0_addNumber_38 rfl (lv_at hl 0 rfl) ?_
          refine lv_istore (lv' := [(4, .int (iz j)), (3, .int (iz j)), (0, .ref (o 0)), (1, .int (iz p0)), (2, .int (iz p1))]) hx hb dX0_addNumber_39 hl (by decide) rfl (fun ls hl => ?_)
          have lp41 : ∀ (n0 : Nat) (k : Int) (rv : Nat) (nv : Nat) (zv : Int) (Fv : Int → Int) (cv : Nat) (sv : Nat), ((j ≤ k ∧ k ≤ p1) ∧ (0 ≤ zv ∧ zv ≤ (nv : Int) ∧ (nv : Int) ≤ 40) ∧ (iB Fv) ∧ (cv + psg 40 nv ≤ psg 40 (n 2) ∧ sv + psj 40 nv ≤ psj 40 (n 2)) ∧ (zv = z 2 + 1 + (k - j)) ∧ (kf_ls Fv 0 zv.toNat = (kf_ls (F 2) 0 (z 2).toNat ++ [2 + p1 - j]) ++ kf_ls (F 0) j (k - j).toNat)) → (p1 - k).toNat < n0 → ∀ (H : Heap) (locs : List Loc), va_P (dC, dI) kxCl (eU cI o (va_up r 2 rv) (va_up n 2 nv) (va_up z 2 zv) (va_up F 2 Fv)) H → va_D A (eU cI o (va_up r 2 rv) (va_up n 2 nv) (va_up z 2 zv) (va_up F 2 Fv)) → va_S A s.heap H locs → ∀ ls : Array Slot, lv_has ls 5 [(4, .int (iz k)), (3, .int (iz j)), (0, .ref (o 0)), (1, .int (iz p0)), (2, .int (iz p1))] → W p l e (headSpec [.code yX0_addNumber cX0_addNumber 5 none] ({ frames := 3, cells := 10, slots := 1720, locals := 103 })).room s m ([.ref (o 0), .int (iz p0), .int (iz p1)] : List Value).toArray below meth c H locs cv sv QQ (F0 m 41 ls []) := by
            intro n0
            induction n0 with
            | zero => intro k rv nv zv Fv cv sv hinv hm0; exact absurd hm0 (Nat.not_lt_zero _)
            | succ n0 ih41 =>
              intro k rv nv zv Fv cv sv hinv hm0 H locs hP hD hS ls hl
              obtain ⟨hk, hv, hFv, hcv, hzv, hlv⟩ := hinv
              refine lv_iload hx hb dX0_addNumber_41 (lv_at hl 0 rfl) ?_
              refine lv_iload_n hx hb dX0_addNumber_43 rfl (lv_at hl 4 rfl) ?_
              refine ki_icmp_ge (tgt := 69) hx hb dX0_addNumber_44 (by decide) (by omega) (by omega) (by omega) (by omega) (fun c_36 => ?_) (fun c_36 => ?_)
              · skip
                rw [← hQe]
                exact xk_vret (ov := (fun _ : Nat × Nat × Int × (Int → Int) => none)) (post := (fun (u : Nat × Nat × Int × (Int → Int)) (dn dm : Nat) => match u with | (r2', n2', z2', F2') => ((0 ≤ z2' ∧ z2' ≤ (n2' : Int) ∧ (n2' : Int) ≤ 40) ∧ iB F2') ∧ (dn + psg 40 n2' ≤ psg 40 (n 2) ∧ dm + psj 40 n2' ≤ psj 40 (n 2)) ∧ kf_ls F2' 0 z2'.toNat = kf_ls (F 2) 0 (z 2).toNat ++ kf_kn (F 0) p0 p1)) (ws := (fun u : Nat × Nat × Int × (Int → Int) => match u with | (r2', n2', z2', F2') => (eU cI o (va_up r 2 r2') (va_up n 2 n2') (va_up z 2 z2') (va_up F 2 F2')))) (tys := xT cI cB cE) (rv, nv, zv, Fv) hx hb hr hlocks rfl hP hD hK hS dX0_addNumber_69 (fun dn dm hdn hdm => ⟨⟨by omega, hFv⟩, by omega, by have ek : k = p1 := (by omega); subst ek; rw [hlv, List.append_assoc]; unfold kf_kn; rw [hjz]; rfl⟩) (by omega) (by omega)
              · skip
                refine lv_aload_n hx hb dX0_addNumber_47 rfl (lv_at hl 2 rfl) ?_
                refine va_get (D := (dC, dI)) (ci := 0) (v := .ref (o 3)) (C := RX0) (T := TX0) (N := 12) hx hb hts kt_X0 hown hK hP 0 rfl rfl 4 (by decide) (kx_word hG kq_16_xentry_22 rfl) (fun _ h9 => h9) rfl dX0_addNumber_48 ?_
                refine lv_aload_n hx hb dX0_addNumber_51 rfl (lv_at hl 2 rfl) ?_
                refine va_get (D := (dC, dI)) (ci := 0) (v := .ref (o 1)) (C := RX0) (T := TX0) (N := 12) hx hb hts kt_X0 hown hK hP 0 rfl rfl 2 (by decide) (kx_word hG kq_16_xentry_4 rfl) (fun _ h9 => h9) rfl dX0_addNumber_52 ?_
                refine lv_iload hx hb dX0_addNumber_55 (lv_at hl 0 rfl) ?_
                have hPc := hP.sub (ws' := (iU cI 20 (o 1) (r 0) (n 0) (z 0) (F 0))) [1, 2] rfl
                refine xk_pure (va_runV (As := [.int (iz k)]) (rest := [.ref (o 3)]) ⟨hx, hb, hml, hown, hts⟩ (x_get l dC dI cI cB cE 20 (o 1) (r 0) (n 0) (z 0) (F 0) k H.size (by omega) (hE.2.1 0) (by omega) (by omega)) (cwV 1 hts (kx_gV kq_16_xentry_24 kq_13_xints_4 kq_13_xints_5 kq_13_xints_6 kq_13_xints_7 rfl) rfl rfl rfl (by decide +kernel) ⟨Nat.le_of_ble_eq_true rfl, Nat.le_of_ble_eq_true rfl⟩) ⟨pPre_blind, va_recv hK hPc (ci := 1) (q0 := 0) rfl rfl, pPre_give hPc hK hG⟩ rfl rfl hl.1 rfl (lv_room (Nat.le_of_ble_eq_true rfl)) dX0_addNumber_57 ⟨show cv + 0 ≤ 10 from (by omega), show sv + 0 ≤ 1720 from (by omega)⟩) hS (fun z_38 locs hq_37 hS => ?_)
                refine W.eq (g2 := F0 m 60 ls [.int (iz z_38), .ref (o 3)]) rfl ?_
                try dsimp only at hq_37
                have eg_39 : z_38 = F 0 k := by omega
                have hsk_40 := hE.2.1 0 k
                subst eg_39
                refine W.eq (g2 := F0 m 60 ls [.int (iz (F 0 k)), .ref (o 3)]) rfl ?_
                have hPc := hP.sub (ws' := (iU cI 40 (o 3) rv nv zv Fv)) [5, 6] rfl
                have hDc := hD.sub (ws' := (iU cI 40 (o 3) rv nv zv Fv)) [5, 6] (by decide) rfl
                have hFc := va_free (wc := (iU cI 40 (o 3) rv nv zv Fv)) hD hS hA [5, 6] rfl
                refine xk_call (va_runV (As := [.int (iz (F 0 k))]) (rest := []) ⟨hx, hb, hml, hown, hts⟩ (x_add l dC dI cI cB cE 40 (o 3) rv nv zv Fv (F 0 k) H.size (by omega) hFv (by omega) (by omega)) (cwV 1 hts (kx_gV kq_16_xentry_5 kq_15_xspan_46 kq_15_xspan_47 kq_13_xints_6 kq_15_xspan_48 rfl) rfl rfl rfl (by decide +kernel) ⟨Nat.le_of_ble_eq_true rfl, Nat.le_of_ble_eq_true rfl⟩) ⟨kx_blind, va_recv hK hPc (ci := 1) (q0 := 0) rfl rfl, kx_give (ws := []) (tys := []) hPc hDc hK hG hZ hS hFc⟩ rfl rfl hl.1 rfl (lv_room (Nat.le_of_ble_eq_true rfl)) dX0_addNumber_60 ⟨show cv + 1 ≤ 10 from (by omega), show sv + 1600 ≤ 1720 from (by omega)⟩) hS (fun q _ h => hFc q h) hFc (fun u dn_42 dm_43 t H locs ht hvm hq_41 hB hk1 hS => ?_)
                obtain ⟨r_44, n_45, z_46, F_47⟩ := u
                obtain ⟨hP1, hK1, hD1⟩ := hB
                rw [ht] at hP1
                obtain ⟨hP, hD⟩ := xj (wr := [(o 0, .inr (0, [.int (iz (z 7)), .int (iz (z 8)), .ref (o 1), .ref (o 2), .ref (o 3), .ref (o 5), .ref (o 4), .int (iz (z 9)), .int (iz (z 10)), .int (iz (z 11)), .int (iz (z 12)), .int (iz (z 13))])), (o 1, .inr (1, [.int (iz 20), .ref (r 0), .int (iz (z 0))])), (r 0, .inl (cI, n 0, .inl (iA (F 0)))), (o 2, .inr (1, [.int (iz 20), .ref (r 1), .int (iz (z 1))])), (r 1, .inl (cI, n 1, .inl (iA (F 1)))), (o 4, .inr (1, [.int (iz 5), .ref (r 3), .int (iz (z 3))])), (r 3, .inl (cI, n 3, .inl (iA (F 3)))), (o 5, .inr (3, [.ref (o 6), .ref (o 7), .ref (o 8)])), (o 6, .inr (1, [.int (iz 20), .ref (r 4), .int (iz (z 4))])), (r 4, .inl (cI, n 4, .inl (iA (F 4)))), (o 7, .inr (1, [.int (iz 20), .ref (r 5), .int (iz (z 5))])), (r 5, .inl (cI, n 5, .inl (iA (F 5)))), (o 8, .inr (1, [.int (iz 20), .ref (r 6), .int (iz (z 6))])), (r 6, .inl (cI, n 6, .inl (iA (F 6))))]) (w1 := (iU cI 40 (o 3) r_44 n_45 z_46 F_47)) (ws' := (eU cI o (va_up r 2 r_44) (va_up n 2 n_45) (va_up z 2 z_46) (va_up F 2 F_47))) hP hD [5, 6] [0, 1, 2, 3, 4, 7, 8, 9, 10, 11, 12, 13, 14, 15] [0, 1, 2, 3, 4, 14, 15, 5, 6, 7, 8, 9, 10, 11, 12, 13] rfl rfl (by decide) (by decide) hk1 hFc hP1 hD1 rfl (by decide)
                refine W.eq (g2 := F0 m 63 ls []) rfl ?_
                try dsimp only at hq_41
                obtain ⟨ha48, hb48, hc48, hd48⟩ := hq_41
                obtain ⟨ez48, el48⟩ := kf_ls_add (by omega) (by omega) hd48
                refine lv_iinc (v := iz (k + 1)) (lv' := [(4, .int (iz (k + 1))), (3, .int (iz j)), (0, .ref (o 0)), (1, .int (iz p0)), (2, .int (iz p1))]) hx hb dX0_addNumber_63 hl (k := 0) rfl (iz_add k 1) (by decide) rfl (fun ls hl => ?_)
                refine lv_goto (tgt := 41) hx hb dX0_addNumber_66 (by decide) ?_
                exact ih41 (k + 1) r_44 n_45 z_46 F_47 (cv + dn_42) (sv + dm_43) ⟨by omega, by omega, hb48, by omega, by omega, by rw [el48, hlv, kf_ls_snoc (by omega), List.append_assoc]⟩ (by omega) _ _ hP hD hS ls (lv_sub hl [0, 1, 2, 3, 4] rfl)
          exact lp41 _ j r_31 n_32 z_33 F_34 (0 + dn_29) (0 + dm_30) ⟨by omega, by omega, hb35, by omega, by omega, by rw [el35, Int.sub_self]; show _ = _ ++ []; rw [List.append_nil]⟩ (Nat.lt_succ_self _) _ _ hP hD hS ls (lv_sub hl [0, 1, 2, 3, 4] rfl)
        · skip
          refine lv_iinc (v := iz (j + 1)) (lv' := [(3, .int (iz (j + 1))), (0, .ref (o 0)), (1, .int (iz p0)), (2, .int (iz p1))]) hx hb dX0_addNumber_20 hl (k := 0) rfl (iz_add j 1) (by decide) rfl (fun ls hl => ?_)
          refine lv_goto (tgt := 2) hx hb dX0_addNumber_23 (by decide) ?_
          exact ih2 (j + 1) ⟨by omega, hkz.trans (kf_kz_step (by omega) (by omega))⟩ (by omega) _ _ hP hD hS ls (lv_sub hl [0, 1, 2, 3] rfl)
  exact lp2 _ p0 ⟨by omega, rfl⟩ (Nat.lt_succ_self _) _ _ hP hD hS ls (lv_sub hl [0, 1, 2, 3] rfl)
set_option maxHeartbeats 4000000 in
set_option maxRecDepth 100000 in
theorem x_makeKey2 (l : Launch) (dC : Nat → ClassId) (dI : Nat → Nat → Nat) (cI cB cE : ClassId) (o : Nat → Nat) (r : Nat → Nat) (n : Nat → Nat) (z : Nat → Int) (F : Nat → Int → Int) (p0 : Int) (p1 : Int) (sz : Nat) (hE : eOk n z F) (hsg : ∀ i, 0 ≤ i → i < z 0 → 0 ≤ F 0 i ∧ F 0 i ≤ 255) (hd01 : p0 = 0 ∨ p0 = 1) (hw01 : p1 = 0 ∨ p1 = 1) (hp01 : -2147483648 ≤ p0) (hp02 : p0 < 2147483648) (hp11 : -2147483648 ≤ p1) (hp12 : p1 < 2147483648) : Met l yX0_makeKey [.code yX0_makeKey cX0_makeKey 6 none] ({ frames := 4, cells := 20, slots := 3500, locals := 127 }) (va_Pc [.ref (o 0), .int (iz p0), .int (iz p1)] (kx_Pre dC dI (eU cI o r n z F) (xT cI cB cE) sz)) (xQ (fun _ : Nat × Nat × Int × (Int → Int) => none) (fun (u : Nat × Nat × Int × (Int → Int)) (dn dm : Nat) => match u with | (r2', n2', z2', F2') => ((0 ≤ z2' ∧ z2' ≤ (n2' : Int) ∧ (n2' : Int) ≤ 40) ∧ iB F2') ∧ (dn + psg 40 n2' ≤ psg 40 (n 2) ∧ dm + psj 40 n2' ≤ psj 40 (n 2)) ∧ kf_ls F2' 0 z2'.toNat = kf_kI (F 0) (z 0) p0 p1 0 0 0) (fun u t => kx_At dC dI (va_A (eU cI o r n z F) sz) ((fun u : Nat × Nat × Int × (Int → Int) => match u with | (r2', n2', z2', F2') => (eU cI o (va_up r 2 r2') (va_up n 2 n2') (va_up z 2 z2') (va_up F 2 F2'))) u) (xT cI cB cE) t) (va_A (eU cI o r n z F) sz)) 20 3500 (va_A (eU cI o r n z F) sz) := by
  refine Met.ofW (cc := cX0_makeKey) (maxL := 6) (ret := none) (by decide) rfl ?_
  intro p e s m args below meth c s₁ B hml hv
  obtain ⟨rfl, hsz, hP, hK, hD0, hG, hZ⟩ := hv
  have hx := B.exec
  have hb := B.bytes
  have hr := B.returns
  have hts := kx_hts (a := ([.ref (o 0), .int (iz p0), .int (iz p1)] : List Value).toArray) hG
  have hown : s.vm.findClass RX0 = some m.cls := findClass_of_methodNamed B.named
  have hlocks := B.notSynchronized
  subst hsz
  have hD := hD0.self (sz := s.heap.size)
  generalize hAe : va_A (eU cI o r n z F) s.heap.size = A at hD hZ ⊢
  have hA : ∀ q : Nat, s.heap.size ≤ q → A q := fun q h => by rw [← hAe]; exact Or.inr h
  have hS : va_S A s.heap s.heap [] := va_S.rf
  have hl := lv_entry ([.ref (o 0), .int (iz p0), .int (iz p1)]) (n := 6) (Nat.le_of_ble_eq_true rfl)
  rw [lg_entry_eq]
  generalize (lg_sl ([.ref (o 0), .int (iz p0), .int (iz p1)]) ++ List.replicate (6 - (lg_sl ([.ref (o 0), .int (iz p0), .int (iz p1)])).length) Slot.unset).toArray = ls at hl ⊢
  have hl : lv_has ls 6 [(0, .ref (o 0)), (1, .int (iz p0)), (2, .int (iz p1))] := hl
  generalize hQe : MQ below (xQ (fun _ : Nat × Nat × Int × (Int → Int) => none) (fun (u : Nat × Nat × Int × (Int → Int)) (dn dm : Nat) => match u with | (r2', n2', z2', F2') => ((0 ≤ z2' ∧ z2' ≤ (n2' : Int) ∧ (n2' : Int) ≤ 40) ∧ iB F2') ∧ (dn + psg 40 n2' ≤ psg 40 (n 2) ∧ dm + psj 40 n2' ≤ psj 40 (n 2)) ∧ kf_ls F2' 0 z2'.toNat = kf_kI (F 0) (z 0) p0 p1 0 0 0) (fun u t => kx_At dC dI A ((fun u : Nat × Nat × Int × (Int → Int) => match u with | (r2', n2', z2', F2') => (eU cI o (va_up r 2 r2') (va_up n 2 n2') (va_up z 2 z2') (va_up F 2 F2'))) u) (xT cI cB cE) t) A) ([.ref (o 0), .int (iz p0), .int (iz p1)] : List Value).toArray s 20 3500 A = QQ
  have he0 : 0 ≤ z 0 ∧ z 0 ≤ (n 0 : Int) ∧ (n 0 : Int) ≤ 20 := hE.1 0 (by decide)
  have he1 : 0 ≤ z 1 ∧ z 1 ≤ (n 1 : Int) ∧ (n 1 : Int) ≤ 20 := hE.1 1 (by decide)
  have he2 : 0 ≤ z 2 ∧ z 2 ≤ (n 2 : Int) ∧ (n 2 : Int) ≤ 40 := hE.1 2 (by decide)
  have he3 : 0 ≤ z 3 ∧ z 3 ≤ (n 3 : Int) ∧ (n 3 : Int) ≤ 5 := hE.1 3 (by decide)
  have he4 : 0 ≤ z 4 ∧ z 4 ≤ (n 4 : Int) ∧ (n 4 : Int) ≤ 20 := hE.1 4 (by decide)
  have he5 : 0 ≤ z 5 ∧ z 5 ≤ (n 5 : Int) ∧ (n 5 : Int) ≤ 20 := hE.1 5 (by decide)
  have he6 : 0 ≤ z 6 ∧ z 6 ≤ (n 6 : Int) ∧ (n 6 : Int) ≤ 20 := hE.1 6 (by decide)
  have hbz7 := hE.2.2 7
  have hbz8 := hE.2.2 8
  have hbz9 := hE.2.2 9
  have hbz10 := hE.2.2 10
  have hbz11 := hE.2.2 11
  have hbz12 := hE.2.2 12
  have hbz13 := hE.2.2 13
  have hpa := psg_le 40 (n 2)
  have hpb := psj_le (L := 40) (by omega) (n 2)
  obtain ⟨KK, hKK⟩ : ∃ x, x = kf_kI (F 0) (z 0) p0 p1 0 0 0 := ⟨_, rfl⟩
  have hKl : KK.length ≤ 40 := by rw [hKK]; exact kf_kI_len (F 0) (z 0) p0 p1 (by omega) (by omega)
  have hkk_e : ∀ {L A B : List Int}, A = B → L ++ A = KK → L ++ B = KK := fun e h => by rw [← e]; exact h
  have hkk_z : ∀ {L : List Int} {k9 z9 b9 : Int}, 0 < z9 → b9 = 0 → L ++ kf_kI (F 0) (z 0) p0 p1 k9 0 1 = KK → L ++ kf_kI (F 0) (z 0) p0 p1 k9 b9 z9 = KK := fun h1 h2 h3 => by rw [← h3, h2]; unfold kf_kI; rw [decide_eq_true h1]; rfl
  refine lv_aload_n hx hb dX0_makeKey_0 rfl (lv_at hl 0 rfl) ?_
  refine va_get (D := (dC, dI)) (ci := 0) (v := .ref (o 3)) (C := RX0) (T := TX0) (N := 12) hx hb hts kt_X0 hown hK hP 0 rfl rfl 4 (by decide) (kx_word hG kq_16_xentry_22 rfl) (fun _ h9 => h9) rfl dX0_makeKey_1 ?_
  have hPc := hP.sub (ws' := (iU cI 40 (o 3) (r 2) (n 2) (z 2) (F 2))) [5, 6] rfl
  have hDc := hD.sub (ws' := (iU cI 40 (o 3) (r 2) (n 2) (z 2) (F 2))) [5, 6] (by decide) rfl
  have hFc := va_free (wc := (iU cI 40 (o 3) (r 2) (n 2) (z 2) (F 2))) hD hS hA [5, 6] rfl
  refine xk_call (va_runV (As := []) (rest := []) ⟨hx, hb, hml, hown, hts⟩ (x_clear l dC dI cI cB cE 40 (o 3) (r 2) (n 2) (z 2) (F 2)  s.heap.size ) (cwV 0 hts (kx_gV kq_16_xentry_32 kq_15_xspan_42 kq_15_xspan_43 kq_13_xints_6 kq_15_xspan_44 rfl) rfl rfl rfl (by decide +kernel) ⟨Nat.le_of_ble_eq_true rfl, Nat.le_of_ble_eq_true rfl⟩) ⟨kx_blind, va_recv hK hPc (ci := 1) (q0 := 0) rfl rfl, kx_give (ws := []) (tys := []) hPc hDc hK hG hZ hS hFc⟩ rfl rfl hl.1 rfl (lv_room (Nat.le_of_ble_eq_true rfl)) dX0_makeKey_4 ⟨show 0 + 0 ≤ 20 from (by omega), show 0 + 0 ≤ 3500 from (by omega)⟩) hS (fun q _ h => hFc q h) hFc (fun u dn_2 dm_3 t H locs ht hvm hq_1 hB hk1 hS => ?_)
  obtain ⟨z_4, rfl⟩ : ∃ z, z = u := ⟨_, rfl⟩
  obtain ⟨hP1, hK1, hD1⟩ := hB
  rw [ht] at hP1
  obtain ⟨hP, hD⟩ := xj (wr := [(o 0, .inr (0, [.int (iz (z 7)), .int (iz (z 8)), .ref (o 1), .ref (o 2), .ref (o 3), .ref (o 5), .ref (o 4), .int (iz (z 9)), .int (iz (z 10)), .int (iz (z 11)), .int (iz (z 12)), .int (iz (z 13))])), (o 1, .inr (1, [.int (iz 20), .ref (r 0), .int (iz (z 0))])), (r 0, .inl (cI, n 0, .inl (iA (F 0)))), (o 2, .inr (1, [.int (iz 20), .ref (r 1), .int (iz (z 1))])), (r 1, .inl (cI, n 1, .inl (iA (F 1)))), (o 4, .inr (1, [.int (iz 5), .ref (r 3), .int (iz (z 3))])), (r 3, .inl (cI, n 3, .inl (iA (F 3)))), (o 5, .inr (3, [.ref (o 6), .ref (o 7), .ref (o 8)])), (o 6, .inr (1, [.int (iz 20), .ref (r 4), .int (iz (z 4))])), (r 4, .inl (cI, n 4, .inl (iA (F 4)))), (o 7, .inr (1, [.int (iz 20), .ref (r 5), .int (iz (z 5))])), (r 5, .inl (cI, n 5, .inl (iA (F 5)))), (o 8, .inr (1, [.int (iz 20), .ref (r 6), .int (iz (z 6))])), (r 6, .inl (cI, n 6, .inl (iA (F 6))))]) (w1 := (iU cI 40 (o 3) (r 2) (n 2) z_4 (F 2))) (ws' := (eU cI o r n (va_up z 2 z_4) F)) hP hD [5, 6] [0, 1, 2, 3, 4, 7, 8, 9, 10, 11, 12, 13, 14, 15] [0, 1, 2, 3, 4, 14, 15, 5, 6, 7, 8, 9, 10, 11, 12, 13] rfl rfl (by decide) (by decide) hk1 hFc hP1 hD1 rfl (by decide)
  refine W.eq (g2 := F0 m 7 ls []) rfl ?_
  try dsimp only at hq_1
  obtain ⟨hdc, hmc, hzc⟩ := hq_1
  subst hdc
  subst hmc
  subst hzc
  have hP : va_P (dC, dI) kxCl (eU cI o r n (va_up z 2 0) F) H := hP
  have hD : va_D A (eU cI o r n (va_up z 2 0) F) := hD
  refine lv_iconst (v := iz 0) hx hb dX0_makeKey_7 (by decide) ?_
  refine lv_istore_n (lv' := [(3, .int (iz 0)), (0, .ref (o 0)), (1, .int (iz p0)), (2, .int (iz p1))]) hx hb dX0_makeKey_8 rfl hl (by decide) rfl (fun ls hl => ?_)
  refine lv_iconst (v := iz 0) hx hb dX0_makeKey_9 (by decide) ?_
  refine lv_istore (lv' := [(4, .int (iz 0)), (3, .int (iz 0)), (0, .ref (o 0)), (1, .int (iz p0)), (2, .int (iz p1))]) hx hb dX0_makeKey_10 hl (by decide) rfl (fun ls hl => ?_)
  have lp12 : ∀ (n0 : Nat) (bd : Int) (k : Int) (rv : Nat) (nv : Nat) (zv : Int) (Fv : Int → Int) (cv : Nat) (sv : Nat), ((bd = 0 ∨ bd = 1) ∧ (0 ≤ k ∧ k ≤ z 0) ∧ (0 ≤ zv ∧ zv ≤ (nv : Int) ∧ (nv : Int) ≤ 40) ∧ (iB Fv) ∧ (cv + psg 40 nv ≤ psg 40 (n 2) ∧ sv + psj 40 nv ≤ psj 40 (n 2)) ∧ (kf_ls Fv 0 zv.toNat ++ kf_kI (F 0) (z 0) p0 p1 k bd zv = KK) ∧ (k = 0 ∨ (kf_kl (F 0 (k - 1)) = 0 ∧ ¬ kf_kd (F 0 (k - 1))) ∨ 0 < zv)) → (z 0 - k).toNat < n0 → ∀ (H : Heap) (locs : List Loc), va_P (dC, dI) kxCl (eU cI o (va_up r 2 rv) (va_up n 2 nv) (va_up z 2 zv) (va_up F 2 Fv)) H → va_D A (eU cI o (va_up r 2 rv) (va_up n 2 nv) (va_up z 2 zv) (va_up F 2 Fv)) → va_S A s.heap H locs → ∀ ls : Array Slot, lv_has ls 6 [(4, .int (iz k)), (3, .int (iz bd)), (0, .ref (o 0)), (1, .int (iz p0)), (2, .int (iz p1))] → W p l e (headSpec [.code yX0_makeKey cX0_makeKey 6 none] ({ frames := 4, cells := 20, slots := 3500, locals := 127 })).room s m ([.ref (o 0), .int (iz p0), .int (iz p1)] : List Value).toArray below meth c H locs cv sv QQ (F0 m 12 ls []) := by
    intro n0
    induction n0 with
    | zero => intro bd k rv nv zv Fv cv sv hinv hm0; exact absurd hm0 (Nat.not_lt_zero _)
    | succ n0 ih12 =>
      intro bd k rv nv zv Fv cv sv hinv hm0 H locs hP hD hS ls hl
      obtain ⟨hbd, hk, hv, hFv, hcv, hkk, hne⟩ := hinv
      refine lv_iload hx hb dX0_makeKey_12 (lv_at hl 0 rfl) ?_
      refine lv_aload_n hx hb dX0_makeKey_14 rfl (lv_at hl 2 rfl) ?_
      refine va_get (D := (dC, dI)) (ci := 0) (v := .ref (o 1)) (C := RX0) (T := TX0) (N := 12) hx hb hts kt_X0 hown hK hP 0 rfl rfl 2 (by decide) (kx_word hG kq_16_xentry_4 rfl) (fun _ h9 => h9) rfl dX0_makeKey_15 ?_
      have hPc := hP.sub (ws' := (iU cI 20 (o 1) (r 0) (n 0) (z 0) (F 0))) [1, 2] rfl
      refine xk_pure (va_runV (As := []) (rest := [.int (iz k)]) ⟨hx, hb, hml, hown, hts⟩ (x_size l dC dI cI cB cE 20 (o 1) (r 0) (n 0) (z 0) (F 0)  H.size ) (cwV 0 hts (kx_gV kq_16_xentry_23 kq_15_xspan_10 kq_15_xspan_11 kq_13_xints_6 kq_15_xspan_12 rfl) rfl rfl rfl (by decide +kernel) ⟨Nat.le_of_ble_eq_true rfl, Nat.le_of_ble_eq_true rfl⟩) ⟨pPre_blind, va_recv hK hPc (ci := 1) (q0 := 0) rfl rfl, pPre_give hPc hK hG⟩ rfl rfl hl.1 rfl (lv_room (Nat.le_of_ble_eq_true rfl)) dX0_makeKey_18 ⟨show cv + 0 ≤ 20 from (by omega), show sv + 0 ≤ 3500 from (by omega)⟩) hS (fun z_6 locs hq_5 hS => ?_)
      refine W.eq (g2 := F0 m 21 ls [.int (iz z_6), .int (iz k)]) rfl ?_
      try dsimp only at hq_5
      have hq_5 := hq_5.symm
      subst hq_5
      refine ki_icmp_ge (tgt := 167) hx hb dX0_makeKey_21 (by decide) (by omega) (by omega) (by omega) (by omega) (fun c_7 => ?_) (fun c_7 => ?_)
      · skip
        rw [← hQe]
        exact xk_vret (ov := (fun _ : Nat × Nat × Int × (Int → Int) => none)) (post := (fun (u : Nat × Nat × Int × (Int → Int)) (dn dm : Nat) => match u with | (r2', n2', z2', F2') => ((0 ≤ z2' ∧ z2' ≤ (n2' : Int) ∧ (n2' : Int) ≤ 40) ∧ iB F2') ∧ (dn + psg 40 n2' ≤ psg 40 (n 2) ∧ dm + psj 40 n2' ≤ psj 40 (n 2)) ∧ kf_ls F2' 0 z2'.toNat = kf_kI (F 0) (z 0) p0 p1 0 0 0)) (ws := (fun u : Nat × Nat × Int × (Int → Int) => match u with | (r2', n2', z2', F2') => (eU cI o (va_up r 2 r2') (va_up n 2 n2') (va_up z 2 z2') (va_up F 2 F2')))) (tys := xT cI cB cE) (rv, nv, zv, Fv) hx hb hr hlocks rfl hP hD hK hS dX0_makeKey_167 (fun dn dm hdn hdm => ⟨⟨by omega, hFv⟩, by omega, by rw [← hKK, ← hkk, kf_kI_end (F 0) (z 0) p0 p1 k bd zv (by omega), List.append_nil]⟩) (by omega) (by omega)
      · skip
        refine lv_aload_n hx hb dX0_makeKey_24 rfl (lv_at hl 2 rfl) ?_
        refine va_get (D := (dC, dI)) (ci := 0) (v := .ref (o 1)) (C := RX0) (T := TX0) (N := 12) hx hb hts kt_X0 hown hK hP 0 rfl rfl 2 (by decide) (kx_word hG kq_16_xentry_4 rfl) (fun _ h9 => h9) rfl dX0_makeKey_25 ?_
        refine lv_iload hx hb dX0_makeKey_28 (lv_at hl 0 rfl) ?_
        have hPc := hP.sub (ws' := (iU cI 20 (o 1) (r 0) (n 0) (z 0) (F 0))) [1, 2] rfl
        refine xk_pure (va_runV (As := [.int (iz k)]) (rest := []) ⟨hx, hb, hml, hown, hts⟩ (x_get l dC dI cI cB cE 20 (o 1) (r 0) (n 0) (z 0) (F 0) k H.size (by omega) (hE.2.1 0) (by omega) (by omega)) (cwV 1 hts (kx_gV kq_16_xentry_24 kq_13_xints_4 kq_13_xints_5 kq_13_xints_6 kq_13_xints_7 rfl) rfl rfl rfl (by decide +kernel) ⟨Nat.le_of_ble_eq_true rfl, Nat.le_of_ble_eq_true rfl⟩) ⟨pPre_blind, va_recv hK hPc (ci := 1) (q0 := 0) rfl rfl, pPre_give hPc hK hG⟩ rfl rfl hl.1 rfl (lv_room (Nat.le_of_ble_eq_true rfl)) dX0_makeKey_30 ⟨show cv + 0 ≤ 20 from (by omega), show sv + 0 ≤ 3500 from (by omega)⟩) hS (fun z_9 locs hq_8 hS => ?_)
        refine W.eq (g2 := F0 m 33 ls [.int (iz z_9)]) rfl ?_
        try dsimp only at hq_8
        have eg_10 : z_9 = F 0 k := by omega
        have hsk_11 := hE.2.1 0 k
        subst eg_10
        refine W.eq (g2 := F0 m 33 ls [.int (iz (F 0 k))]) rfl ?_
        refine lv_istore (lv' := [(5, .int (iz (F 0 k))), (4, .int (iz k)), (3, .int (iz bd)), (0, .ref (o 0)), (1, .int (iz p0)), (2, .int (iz p1))]) hx hb dX0_makeKey_33 hl (by decide) rfl (fun ls hl => ?_)
        refine lv_iload hx hb dX0_makeKey_35 (lv_at hl 0 rfl) ?_
        have hPc : va_P (dC, dI) kxCl [] H := fun k q h => by simp at h
        refine xk_pure (va_runS (As := [.int (iz (F 0 k))]) (rest := []) ⟨hx, hb, hml, hown, hts⟩ (x_isLetter2 l dC dI cI cB cE (F 0 k) H.size (by omega) (by omega) (hsg k (by omega) (by omega))) (va_cwS 1 hts (kx_gS kq_16_xentry_33 kq_16_xentry_34 kq_16_xentry_2 kq_16_xentry_35 rfl) rfl rfl rfl (by decide +kernel) ⟨Nat.le_of_ble_eq_true rfl, Nat.le_of_ble_eq_true rfl⟩) ⟨pPre_blind, pPre_give hPc hK hG⟩ rfl rfl hl.1 rfl (lv_room (Nat.le_of_ble_eq_true rfl)) dX0_makeKey_37 ⟨show cv + 0 ≤ 20 from (by omega), show sv + 0 ≤ 3500 from (by omega)⟩) hS (fun z_13 locs hq_12 hS => ?_)
        refine W.eq (g2 := F0 m 40 ls [.int (iz z_13)]) rfl ?_
        try dsimp only at hq_12
        rcases hq_12 with ⟨rfl, hq_12⟩ | ⟨rfl, hq_12⟩
        · skip
          refine ki_if_ne (tgt := 74) hx hb dX0_makeKey_40 (by decide) (by omega) (by omega) (fun c_14 => ?_) (fun c_14 => ?_)
          · skip
            refine lv_iload_n hx hb dX0_makeKey_74 rfl (lv_at hl 2 rfl) ?_
            refine ki_if_eq (tgt := 88) hx hb dX0_makeKey_75 (by decide) (by omega) (by omega) (fun c_15 => ?_) (fun c_15 => ?_)
            · skip
              refine lv_iload hx hb dX0_makeKey_88 (lv_at hl 0 rfl) ?_
              have hPc : va_P (dC, dI) kxCl [] H := fun k q h => by simp at h
              refine xk_pure (va_runS (As := [.int (iz (F 0 k))]) (rest := []) ⟨hx, hb, hml, hown, hts⟩ (x_isLetter2 l dC dI cI cB cE (F 0 k) H.size (by omega) (by omega) (hsg k (by omega) (by omega))) (va_cwS 1 hts (kx_gS kq_16_xentry_33 kq_16_xentry_34 kq_16_xentry_2 kq_16_xentry_35 rfl) rfl rfl rfl (by decide +kernel) ⟨Nat.le_of_ble_eq_true rfl, Nat.le_of_ble_eq_true rfl⟩) ⟨pPre_blind, pPre_give hPc hK hG⟩ rfl rfl hl.1 rfl (lv_room (Nat.le_of_ble_eq_true rfl)) dX0_makeKey_90 ⟨show cv + 0 ≤ 20 from (by omega), show sv + 0 ≤ 3500 from (by omega)⟩) hS (fun z_17 locs hq_16 hS => ?_)
              refine W.eq (g2 := F0 m 93 ls [.int (iz z_17)]) rfl ?_
              try dsimp only at hq_16
              have ez_18 : z_17 = 1 := by omega
              subst ez_18
              refine W.eq (g2 := F0 m 93 ls [.int (iz 1)]) rfl ?_
              refine ki_if_eq (tgt := 115) hx hb dX0_makeKey_93 (by decide) (by omega) (by omega) (fun c_19 => ?_) (fun c_19 => ?_)
              · omega
              · skip
                have elt := kf_kI_let (F 0) (z 0) p0 p1 k bd zv 1 (by omega) (by omega) (by omega) (by omega)
                have hr109 := kf_kI_r1 (hkk_e elt hkk) hKl (by omega)
                have hkb9 := kf_kl_sp (F 0 k)
                have hsgk := hsg k (by omega) (by omega)
                refine lv_aload_n hx hb dX0_makeKey_96 rfl (lv_at hl 3 rfl) ?_
                refine va_get (D := (dC, dI)) (ci := 0) (v := .ref (o 3)) (C := RX0) (T := TX0) (N := 12) hx hb hts kt_X0 hown hK hP 0 rfl rfl 4 (by decide) (kx_word hG kq_16_xentry_22 rfl) (fun _ h9 => h9) rfl dX0_makeKey_97 ?_
                refine lv_iload hx hb dX0_makeKey_100 (lv_at hl 0 rfl) ?_
                refine lv_sipush (v := iz 128) hx hb dX0_makeKey_102 (by decide) ?_
                refine ki_irem hx hb dX0_makeKey_105 (by omega) (by omega) (by omega) (by omega) ?_
                have hPc : va_P (dC, dI) kxCl [] H := fun k q h => by simp at h
                refine xk_pure (va_runS (As := [.int (iz ((F 0 k) % 128))]) (rest := [.ref (o 3)]) ⟨hx, hb, hml, hown, hts⟩ (x_smallOf l dC dI cI cB cE ((F 0 k) % 128) H.size (by omega) (by omega)) (va_cwS 1 hts (kx_gS kq_16_xentry_0 kq_16_xentry_1 kq_16_xentry_2 kq_16_xentry_3 rfl) rfl rfl rfl (by decide +kernel) ⟨Nat.le_of_ble_eq_true rfl, Nat.le_of_ble_eq_true rfl⟩) ⟨pPre_blind, pPre_give hPc hK hG⟩ rfl rfl hl.1 rfl (lv_room (Nat.le_of_ble_eq_true rfl)) dX0_makeKey_106 ⟨show cv + 0 ≤ 20 from (by omega), show sv + 0 ≤ 3500 from (by omega)⟩) hS (fun z_21 locs hq_20 hS => ?_)
                refine W.eq (g2 := F0 m 109 ls [.int (iz z_21), .ref (o 3)]) rfl ?_
                try dsimp only at hq_20
                have es_22 : z_21 = kf_kl (F 0 k) := by omega
                subst es_22
                refine W.eq (g2 := F0 m 109 ls [.int (iz (kf_kl (F 0 k))), .ref (o 3)]) rfl ?_
                have hPc := hP.sub (ws' := (iU cI 40 (o 3) rv nv zv Fv)) [5, 6] rfl
                have hDc := hD.sub (ws' := (iU cI 40 (o 3) rv nv zv Fv)) [5, 6] (by decide) rfl
                have hFc := va_free (wc := (iU cI 40 (o 3) rv nv zv Fv)) hD hS hA [5, 6] rfl
                refine xk_call (va_runV (As := [.int (iz (kf_kl (F 0 k)))]) (rest := []) ⟨hx, hb, hml, hown, hts⟩ (x_add l dC dI cI cB cE 40 (o 3) rv nv zv Fv (kf_kl (F 0 k)) H.size (by omega) hFv (by omega) (by omega)) (cwV 1 hts (kx_gV kq_16_xentry_5 kq_15_xspan_46 kq_15_xspan_47 kq_13_xints_6 kq_15_xspan_48 rfl) rfl rfl rfl (by decide +kernel) ⟨Nat.le_of_ble_eq_true rfl, Nat.le_of_ble_eq_true rfl⟩) ⟨kx_blind, va_recv hK hPc (ci := 1) (q0 := 0) rfl rfl, kx_give (ws := []) (tys := []) hPc hDc hK hG hZ hS hFc⟩ rfl rfl hl.1 rfl (lv_room (Nat.le_of_ble_eq_true rfl)) dX0_makeKey_109 ⟨show cv + 1 ≤ 20 from (by omega), show sv + 1600 ≤ 3500 from (by omega)⟩) hS (fun q _ h => hFc q h) hFc (fun u dn_24 dm_25 t H locs ht hvm hq_23 hB hk1 hS => ?_)
                obtain ⟨r_26, n_27, z_28, F_29⟩ := u
                obtain ⟨hP1, hK1, hD1⟩ := hB
                rw [ht] at hP1
                obtain ⟨hP, hD⟩ := xj (wr := [(o 0, .inr (0, [.int (iz (z 7)), .int (iz (z 8)), .ref (o 1), .ref (o 2), .ref (o 3), .ref (o 5), .ref (o 4), .int (iz (z 9)), .int (iz (z 10)), .int (iz (z 11)), .int (iz (z 12)), .int (iz (z 13))])), (o 1, .inr (1, [.int (iz 20), .ref (r 0), .int (iz (z 0))])), (r 0, .inl (cI, n 0, .inl (iA (F 0)))), (o 2, .inr (1, [.int (iz 20), .ref (r 1), .int (iz (z 1))])), (r 1, .inl (cI, n 1, .inl (iA (F 1)))), (o 4, .inr (1, [.int (iz 5), .ref (r 3), .int (iz (z 3))])), (r 3, .inl (cI, n 3, .inl (iA (F 3)))), (o 5, .inr (3, [.ref (o 6), .ref (o 7), .ref (o 8)])), (o 6, .inr (1, [.int (iz 20), .ref (r 4), .int (iz (z 4))])), (r 4, .inl (cI, n 4, .inl (iA (F 4)))), (o 7, .inr (1, [.int (iz 20), .ref (r 5), .int (iz (z 5))])), (r 5, .inl (cI, n 5, .inl (iA (F 5)))), (o 8, .inr (1, [.int (iz 20), .ref (r 6), .int (iz (z 6))])), (r 6, .inl (cI, n 6, .inl (iA (F 6))))]) (w1 := (iU cI 40 (o 3) r_26 n_27 z_28 F_29)) (ws' := (eU cI o (va_up r 2 r_26) (va_up n 2 n_27) (va_up z 2 z_28) (va_up F 2 F_29))) hP hD [5, 6] [0, 1, 2, 3, 4, 7, 8, 9, 10, 11, 12, 13, 14, 15] [0, 1, 2, 3, 4, 14, 15, 5, 6, 7, 8, 9, 10, 11, 12, 13] rfl rfl (by decide) (by decide) hk1 hFc hP1 hD1 rfl (by decide)
                refine W.eq (g2 := F0 m 112 ls []) rfl ?_
                try dsimp only at hq_23
                obtain ⟨ha30, hb30, hc30, hd30⟩ := hq_23
                obtain ⟨ez30, el30⟩ := kf_ls_add (by omega) (by omega) hd30
                have hkk2 : kf_ls F_29 0 (z_28).toNat ++ kf_kI (F 0) (z 0) p0 p1 (k + 1) 0 1 = KK := by rw [el30, ← hkk, elt]; simp only [List.append_assoc, List.cons_append, List.nil_append]
                refine lv_goto (tgt := 161) hx hb dX0_makeKey_112 (by decide) ?_
                refine lv_iinc (v := iz (k + 1)) (lv' := [(4, .int (iz (k + 1))), (5, .int (iz (F 0 k))), (3, .int (iz bd)), (0, .ref (o 0)), (1, .int (iz p0)), (2, .int (iz p1))]) hx hb dX0_makeKey_161 hl (k := 1) rfl (iz_add k 1) (by decide) rfl (fun ls hl => ?_)
                refine lv_goto (tgt := 12) hx hb dX0_makeKey_164 (by decide) ?_
                exact ih12 bd (k + 1) r_26 n_27 z_28 F_29 (cv + dn_24) (sv + dm_25) ⟨by omega, by omega, by omega, hb30, by omega, hkk_z (show 0 < z_28 by omega) (show bd = 0 by omega) hkk2, Or.inr (Or.inr (by omega))⟩ (by omega) _ _ hP hD hS ls (lv_sub hl [0, 2, 3, 4, 5] rfl)
            · skip
              have ebk := kf_kI_brk (F 0) (z 0) p0 p1 k bd zv (by omega) (by omega) (by omega)
              have hr83 := kf_kI_r1 (hkk_e ebk hkk) hKl (by omega)
              refine lv_aload_n hx hb dX0_makeKey_78 rfl (lv_at hl 3 rfl) ?_
              refine va_get (D := (dC, dI)) (ci := 0) (v := .ref (o 3)) (C := RX0) (T := TX0) (N := 12) hx hb hts kt_X0 hown hK hP 0 rfl rfl 4 (by decide) (kx_word hG kq_16_xentry_22 rfl) (fun _ h9 => h9) rfl dX0_makeKey_79 ?_
              refine lv_iconst (v := iz 1) hx hb dX0_makeKey_82 (by decide) ?_
              have hPc := hP.sub (ws' := (iU cI 40 (o 3) rv nv zv Fv)) [5, 6] rfl
              have hDc := hD.sub (ws' := (iU cI 40 (o 3) rv nv zv Fv)) [5, 6] (by decide) rfl
              have hFc := va_free (wc := (iU cI 40 (o 3) rv nv zv Fv)) hD hS hA [5, 6] rfl
              refine xk_call (va_runV (As := [.int (iz 1)]) (rest := []) ⟨hx, hb, hml, hown, hts⟩ (x_add l dC dI cI cB cE 40 (o 3) rv nv zv Fv 1 H.size (by omega) hFv (by omega) (by omega)) (cwV 1 hts (kx_gV kq_16_xentry_5 kq_15_xspan_46 kq_15_xspan_47 kq_13_xints_6 kq_15_xspan_48 rfl) rfl rfl rfl (by decide +kernel) ⟨Nat.le_of_ble_eq_true rfl, Nat.le_of_ble_eq_true rfl⟩) ⟨kx_blind, va_recv hK hPc (ci := 1) (q0 := 0) rfl rfl, kx_give (ws := []) (tys := []) hPc hDc hK hG hZ hS hFc⟩ rfl rfl hl.1 rfl (lv_room (Nat.le_of_ble_eq_true rfl)) dX0_makeKey_83 ⟨show cv + 1 ≤ 20 from (by omega), show sv + 1600 ≤ 3500 from (by omega)⟩) hS (fun q _ h => hFc q h) hFc (fun u dn_32 dm_33 t H locs ht hvm hq_31 hB hk1 hS => ?_)
              obtain ⟨r_34, n_35, z_36, F_37⟩ := u
              obtain ⟨hP1, hK1, hD1⟩ := hB
              rw [ht] at hP1
              obtain ⟨hP, hD⟩ := xj (wr := [(o 0, .inr (0, [.int (iz (z 7)), .int (iz (z 8)), .ref (o 1), .ref (o 2), .ref (o 3), .ref (o 5), .ref (o 4), .int (iz (z 9)), .int (iz (z 10)), .int (iz (z 11)), .int (iz (z 12)), .int (iz (z 13))])), (o 1, .inr (1, [.int (iz 20), .ref (r 0), .int (iz (z 0))])), (r 0, .inl (cI, n 0, .inl (iA (F 0)))), (o 2, .inr (1, [.int (iz 20), .ref (r 1), .int (iz (z 1))])), (r 1, .inl (cI, n 1, .inl (iA (F 1)))), (o 4, .inr (1, [.int (iz 5), .ref (r 3), .int (iz (z 3))])), (r 3, .inl (cI, n 3, .inl (iA (F 3)))), (o 5, .inr (3, [.ref (o 6), .ref (o 7), .ref (o 8)])), (o 6, .inr (1, [.int (iz 20), .ref (r 4), .int (iz (z 4))])), (r 4, .inl (cI, n 4, .inl (iA (F 4)))), (o 7, .inr (1, [.int (iz 20), .ref (r 5), .int (iz (z 5))])), (r 5, .inl (cI, n 5, .inl (iA (F 5)))), (o 8, .inr (1, [.int (iz 20), .ref (r 6), .int (iz (z 6))])), (r 6, .inl (cI, n 6, .inl (iA (F 6))))]) (w1 := (iU cI 40 (o 3) r_34 n_35 z_36 F_37)) (ws' := (eU cI o (va_up r 2 r_34) (va_up n 2 n_35) (va_up z 2 z_36) (va_up F 2 F_37))) hP hD [5, 6] [0, 1, 2, 3, 4, 7, 8, 9, 10, 11, 12, 13, 14, 15] [0, 1, 2, 3, 4, 14, 15, 5, 6, 7, 8, 9, 10, 11, 12, 13] rfl rfl (by decide) (by decide) hk1 hFc hP1 hD1 rfl (by decide)
              refine W.eq (g2 := F0 m 86 ls []) rfl ?_
              try dsimp only at hq_31
              obtain ⟨ha38, hb38, hc38, hd38⟩ := hq_31
              obtain ⟨ez38, el38⟩ := kf_ls_add (by omega) (by omega) hd38
              have hkk1 : kf_ls F_37 0 (z_36).toNat ++ kf_kI (F 0) (z 0) p0 p1 k 0 zv = KK := by rw [el38, ← hkk, ebk]; simp only [List.append_assoc, List.cons_append, List.nil_append]
              refine lv_iconst (v := iz 0) hx hb dX0_makeKey_86 (by decide) ?_
              refine lv_istore_n (lv' := [(3, .int (iz 0)), (5, .int (iz (F 0 k))), (4, .int (iz k)), (0, .ref (o 0)), (1, .int (iz p0)), (2, .int (iz p1))]) hx hb dX0_makeKey_87 rfl hl (by decide) rfl (fun ls hl => ?_)
              refine lv_iload hx hb dX0_makeKey_88 (lv_at hl 1 rfl) ?_
              have hPc : va_P (dC, dI) kxCl [] H := fun k q h => by simp at h
              refine xk_pure (va_runS (As := [.int (iz (F 0 k))]) (rest := []) ⟨hx, hb, hml, hown, hts⟩ (x_isLetter2 l dC dI cI cB cE (F 0 k) H.size (by omega) (by omega) (hsg k (by omega) (by omega))) (va_cwS 1 hts (kx_gS kq_16_xentry_33 kq_16_xentry_34 kq_16_xentry_2 kq_16_xentry_35 rfl) rfl rfl rfl (by decide +kernel) ⟨Nat.le_of_ble_eq_true rfl, Nat.le_of_ble_eq_true rfl⟩) ⟨pPre_blind, pPre_give hPc hK hG⟩ rfl rfl hl.1 rfl (lv_room (Nat.le_of_ble_eq_true rfl)) dX0_makeKey_90 ⟨show (cv + dn_32) + 0 ≤ 20 from (by omega), show (sv + dm_33) + 0 ≤ 3500 from (by omega)⟩) hS (fun z_40 locs hq_39 hS => ?_)
              refine W.eq (g2 := F0 m 93 ls [.int (iz z_40)]) rfl ?_
              try dsimp only at hq_39
              have ez_41 : z_40 = 1 := by omega
              subst ez_41
              refine W.eq (g2 := F0 m 93 ls [.int (iz 1)]) rfl ?_
              refine ki_if_eq (tgt := 115) hx hb dX0_makeKey_93 (by decide) (by omega) (by omega) (fun c_42 => ?_) (fun c_42 => ?_)
              · omega
              · skip
                have elt := kf_kI_let (F 0) (z 0) p0 p1 k 0 zv 1 (by omega) (by omega) (by omega) (by omega)
                have hr109 := kf_kI_r1 (hkk_e elt hkk1) hKl (by omega)
                have hkb9 := kf_kl_sp (F 0 k)
                have hsgk := hsg k (by omega) (by omega)
                refine lv_aload_n hx hb dX0_makeKey_96 rfl (lv_at hl 3 rfl) ?_
                refine va_get (D := (dC, dI)) (ci := 0) (v := .ref (o 3)) (C := RX0) (T := TX0) (N := 12) hx hb hts kt_X0 hown hK hP 0 rfl rfl 4 (by decide) (kx_word hG kq_16_xentry_22 rfl) (fun _ h9 => h9) rfl dX0_makeKey_97 ?_
                refine lv_iload hx hb dX0_makeKey_100 (lv_at hl 1 rfl) ?_
                refine lv_sipush (v := iz 128) hx hb dX0_makeKey_102 (by decide) ?_
                refine ki_irem hx hb dX0_makeKey_105 (by omega) (by omega) (by omega) (by omega) ?_
                have hPc : va_P (dC, dI) kxCl [] H := fun k q h => by simp at h
                refine xk_pure (va_runS (As := [.int (iz ((F 0 k) % 128))]) (rest := [.ref (o 3)]) ⟨hx, hb, hml, hown, hts⟩ (x_smallOf l dC dI cI cB cE ((F 0 k) % 128) H.size (by omega) (by omega)) (va_cwS 1 hts (kx_gS kq_16_xentry_0 kq_16_xentry_1 kq_16_xentry_2 kq_16_xentry_3 rfl) rfl rfl rfl (by decide +kernel) ⟨Nat.le_of_ble_eq_true rfl, Nat.le_of_ble_eq_true rfl⟩) ⟨pPre_blind, pPre_give hPc hK hG⟩ rfl rfl hl.1 rfl (lv_room (Nat.le_of_ble_eq_true rfl)) dX0_makeKey_106 ⟨show (cv + dn_32) + 0 ≤ 20 from (by omega), show (sv + dm_33) + 0 ≤ 3500 from (by omega)⟩) hS (fun z_44 locs hq_43 hS => ?_)
                refine W.eq (g2 := F0 m 109 ls [.int (iz z_44), .ref (o 3)]) rfl ?_
                try dsimp only at hq_43
                have es_45 : z_44 = kf_kl (F 0 k) := by omega
                subst es_45
                refine W.eq (g2 := F0 m 109 ls [.int (iz (kf_kl (F 0 k))), .ref (o 3)]) rfl ?_
                have hPc := hP.sub (ws' := (iU cI 40 (o 3) r_34 n_35 z_36 F_37)) [5, 6] rfl
                have hDc := hD.sub (ws' := (iU cI 40 (o 3) r_34 n_35 z_36 F_37)) [5, 6] (by decide) rfl
                have hFc := va_free (wc := (iU cI 40 (o 3) r_34 n_35 z_36 F_37)) hD hS hA [5, 6] rfl
                refine xk_call (va_runV (As := [.int (iz (kf_kl (F 0 k)))]) (rest := []) ⟨hx, hb, hml, hown, hts⟩ (x_add l dC dI cI cB cE 40 (o 3) r_34 n_35 z_36 F_37 (kf_kl (F 0 k)) H.size (by omega) hb38 (by omega) (by omega)) (cwV 1 hts (kx_gV kq_16_xentry_5 kq_15_xspan_46 kq_15_xspan_47 kq_13_xints_6 kq_15_xspan_48 rfl) rfl rfl rfl (by decide +kernel) ⟨Nat.le_of_ble_eq_true rfl, Nat.le_of_ble_eq_true rfl⟩) ⟨kx_blind, va_recv hK hPc (ci := 1) (q0 := 0) rfl rfl, kx_give (ws := []) (tys := []) hPc hDc hK hG hZ hS hFc⟩ rfl rfl hl.1 rfl (lv_room (Nat.le_of_ble_eq_true rfl)) dX0_makeKey_109 ⟨show (cv + dn_32) + 1 ≤ 20 from (by omega), show (sv + dm_33) + 1600 ≤ 3500 from (by omega)⟩) hS (fun q _ h => hFc q h) hFc (fun u dn_47 dm_48 t H locs ht hvm hq_46 hB hk1 hS => ?_)
                obtain ⟨r_49, n_50, z_51, F_52⟩ := u
                obtain ⟨hP1, hK1, hD1⟩ := hB
                rw [ht] at hP1
                obtain ⟨hP, hD⟩ := xj (wr := [(o 0, .inr (0, [.int (iz (z 7)), .int (iz (z 8)), .ref (o 1), .ref (o 2), .ref (o 3), .ref (o 5), .ref (o 4), .int (iz (z 9)), .int (iz (z 10)), .int (iz (z 11)), .int (iz (z 12)), .int (iz (z 13))])), (o 1, .inr (1, [.int (iz 20), .ref (r 0), .int (iz (z 0))])), (r 0, .inl (cI, n 0, .inl (iA (F 0)))), (o 2, .inr (1, [.int (iz 20), .ref (r 1), .int (iz (z 1))])), (r 1, .inl (cI, n 1, .inl (iA (F 1)))), (o 4, .inr (1, [.int (iz 5), .ref (r 3), .int (iz (z 3))])), (r 3, .inl (cI, n 3, .inl (iA (F 3)))), (o 5, .inr (3, [.ref (o 6), .ref (o 7), .ref (o 8)])), (o 6, .inr (1, [.int (iz 20), .ref (r 4), .int (iz (z 4))])), (r 4, .inl (cI, n 4, .inl (iA (F 4)))), (o 7, .inr (1, [.int (iz 20), .ref (r 5), .int (iz (z 5))])), (r 5, .inl (cI, n 5, .inl (iA (F 5)))), (o 8, .inr (1, [.int (iz 20), .ref (r 6), .int (iz (z 6))])), (r 6, .inl (cI, n 6, .inl (iA (F 6))))]) (w1 := (iU cI 40 (o 3) r_49 n_50 z_51 F_52)) (ws' := (eU cI o (va_up r 2 r_49) (va_up n 2 n_50) (va_up z 2 z_51) (va_up F 2 F_52))) hP hD [5, 6] [0, 1, 2, 3, 4, 7, 8, 9, 10, 11, 12, 13, 14, 15] [0, 1, 2, 3, 4, 14, 15, 5, 6, 7, 8, 9, 10, 11, 12, 13] rfl rfl (by decide) (by decide) hk1 hFc hP1 hD1 rfl (by decide)
                refine W.eq (g2 := F0 m 112 ls []) rfl ?_
                try dsimp only at hq_46
                obtain ⟨ha53, hb53, hc53, hd53⟩ := hq_46
                obtain ⟨ez53, el53⟩ := kf_ls_add (by omega) (by omega) hd53
                have hkk2 : kf_ls F_52 0 (z_51).toNat ++ kf_kI (F 0) (z 0) p0 p1 (k + 1) 0 1 = KK := by rw [el53, ← hkk1, elt]; simp only [List.append_assoc, List.cons_append, List.nil_append]
                refine lv_goto (tgt := 161) hx hb dX0_makeKey_112 (by decide) ?_
                refine lv_iinc (v := iz (k + 1)) (lv' := [(4, .int (iz (k + 1))), (3, .int (iz 0)), (5, .int (iz (F 0 k))), (0, .ref (o 0)), (1, .int (iz p0)), (2, .int (iz p1))]) hx hb dX0_makeKey_161 hl (k := 2) rfl (iz_add k 1) (by decide) rfl (fun ls hl => ?_)
                refine lv_goto (tgt := 12) hx hb dX0_makeKey_164 (by decide) ?_
                exact ih12 0 (k + 1) r_49 n_50 z_51 F_52 ((cv + dn_32) + dn_47) ((sv + dm_33) + dm_48) ⟨by omega, by omega, by omega, hb53, by omega, hkk_z (show 0 < z_51 by omega) (show 0 = 0 by omega) hkk2, Or.inr (Or.inr (by omega))⟩ (by omega) _ _ hP hD hS ls (lv_sub hl [0, 1, 3, 4, 5] rfl)
          · omega
        · skip
          refine ki_if_ne (tgt := 74) hx hb dX0_makeKey_40 (by decide) (by omega) (by omega) (fun c_54 => ?_) (fun c_54 => ?_)
          · omega
          · skip
            refine lv_iload hx hb dX0_makeKey_43 (lv_at hl 0 rfl) ?_
            have hPc : va_P (dC, dI) kxCl [] H := fun k q h => by simp at h
            refine xk_pure (va_runS (As := [.int (iz (F 0 k))]) (rest := []) ⟨hx, hb, hml, hown, hts⟩ (x_isDigit l dC dI cI cB cE (F 0 k) H.size (by omega) (by omega)) (va_cwS 1 hts (kx_gS kq_16_xentry_29 kq_16_xentry_30 kq_16_xentry_2 kq_16_xentry_31 rfl) rfl rfl rfl (by decide +kernel) ⟨Nat.le_of_ble_eq_true rfl, Nat.le_of_ble_eq_true rfl⟩) ⟨pPre_blind, pPre_give hPc hK hG⟩ rfl rfl hl.1 rfl (lv_room (Nat.le_of_ble_eq_true rfl)) dX0_makeKey_45 ⟨show cv + 0 ≤ 20 from (by omega), show sv + 0 ≤ 3500 from (by omega)⟩) hS (fun z_56 locs hq_55 hS => ?_)
            refine W.eq (g2 := F0 m 48 ls [.int (iz z_56)]) rfl ?_
            try dsimp only at hq_55
            rcases hq_55 with ⟨rfl, hq_55⟩ | ⟨rfl, hq_55⟩
            · skip
              refine ki_if_ne (tgt := 74) hx hb dX0_makeKey_48 (by decide) (by omega) (by omega) (fun c_57 => ?_) (fun c_57 => ?_)
              · skip
                refine lv_iload_n hx hb dX0_makeKey_74 rfl (lv_at hl 2 rfl) ?_
                refine ki_if_eq (tgt := 88) hx hb dX0_makeKey_75 (by decide) (by omega) (by omega) (fun c_58 => ?_) (fun c_58 => ?_)
                · skip
                  refine lv_iload hx hb dX0_makeKey_88 (lv_at hl 0 rfl) ?_
                  have hPc : va_P (dC, dI) kxCl [] H := fun k q h => by simp at h
                  refine xk_pure (va_runS (As := [.int (iz (F 0 k))]) (rest := []) ⟨hx, hb, hml, hown, hts⟩ (x_isLetter2 l dC dI cI cB cE (F 0 k) H.size (by omega) (by omega) (hsg k (by omega) (by omega))) (va_cwS 1 hts (kx_gS kq_16_xentry_33 kq_16_xentry_34 kq_16_xentry_2 kq_16_xentry_35 rfl) rfl rfl rfl (by decide +kernel) ⟨Nat.le_of_ble_eq_true rfl, Nat.le_of_ble_eq_true rfl⟩) ⟨pPre_blind, pPre_give hPc hK hG⟩ rfl rfl hl.1 rfl (lv_room (Nat.le_of_ble_eq_true rfl)) dX0_makeKey_90 ⟨show cv + 0 ≤ 20 from (by omega), show sv + 0 ≤ 3500 from (by omega)⟩) hS (fun z_60 locs hq_59 hS => ?_)
                  refine W.eq (g2 := F0 m 93 ls [.int (iz z_60)]) rfl ?_
                  try dsimp only at hq_59
                  have ez_61 : z_60 = 0 := by omega
                  subst ez_61
                  refine W.eq (g2 := F0 m 93 ls [.int (iz 0)]) rfl ?_
                  refine ki_if_eq (tgt := 115) hx hb dX0_makeKey_93 (by decide) (by omega) (by omega) (fun c_62 => ?_) (fun c_62 => ?_)
                  · skip
                    refine lv_iload_n hx hb dX0_makeKey_115 rfl (lv_at hl 4 rfl) ?_
                    refine ki_if_ne (tgt := 132) hx hb dX0_makeKey_116 (by decide) (by omega) (by omega) (fun c_63 => ?_) (fun c_63 => ?_)
                    · skip
                      refine lv_aload_n hx hb dX0_makeKey_132 rfl (lv_at hl 3 rfl) ?_
                      refine va_get (D := (dC, dI)) (ci := 0) (v := .ref (o 1)) (C := RX0) (T := TX0) (N := 12) hx hb hts kt_X0 hown hK hP 0 rfl rfl 2 (by decide) (kx_word hG kq_16_xentry_4 rfl) (fun _ h9 => h9) rfl dX0_makeKey_133 ?_
                      refine lv_iload hx hb dX0_makeKey_136 (lv_at hl 1 rfl) ?_
                      refine lv_iconst (v := iz 1) hx hb dX0_makeKey_138 (by decide) ?_
                      refine ki_isub hx hb dX0_makeKey_139 ?_
                      have hPc := hP.sub (ws' := (iU cI 20 (o 1) (r 0) (n 0) (z 0) (F 0))) [1, 2] rfl
                      refine xk_pure (va_runV (As := [.int (iz (k - 1))]) (rest := []) ⟨hx, hb, hml, hown, hts⟩ (x_get l dC dI cI cB cE 20 (o 1) (r 0) (n 0) (z 0) (F 0) (k - 1) H.size (by omega) (hE.2.1 0) (by omega) (by omega)) (cwV 1 hts (kx_gV kq_16_xentry_24 kq_13_xints_4 kq_13_xints_5 kq_13_xints_6 kq_13_xints_7 rfl) rfl rfl rfl (by decide +kernel) ⟨Nat.le_of_ble_eq_true rfl, Nat.le_of_ble_eq_true rfl⟩) ⟨pPre_blind, va_recv hK hPc (ci := 1) (q0 := 0) rfl rfl, pPre_give hPc hK hG⟩ rfl rfl hl.1 rfl (lv_room (Nat.le_of_ble_eq_true rfl)) dX0_makeKey_140 ⟨show cv + 0 ≤ 20 from (by omega), show sv + 0 ≤ 3500 from (by omega)⟩) hS (fun z_65 locs hq_64 hS => ?_)
                      refine W.eq (g2 := F0 m 143 ls [.int (iz z_65)]) rfl ?_
                      try dsimp only at hq_64
                      have hPc : va_P (dC, dI) kxCl [] H := fun k q h => by simp at h
                      refine xk_pure (va_runS (As := [.int (iz z_65)]) (rest := []) ⟨hx, hb, hml, hown, hts⟩ (x_isDigit l dC dI cI cB cE z_65 H.size (by omega) (by omega)) (va_cwS 1 hts (kx_gS kq_16_xentry_29 kq_16_xentry_30 kq_16_xentry_2 kq_16_xentry_31 rfl) rfl rfl rfl (by decide +kernel) ⟨Nat.le_of_ble_eq_true rfl, Nat.le_of_ble_eq_true rfl⟩) ⟨pPre_blind, pPre_give hPc hK hG⟩ rfl rfl hl.1 rfl (lv_room (Nat.le_of_ble_eq_true rfl)) dX0_makeKey_143 ⟨show cv + 0 ≤ 20 from (by omega), show sv + 0 ≤ 3500 from (by omega)⟩) hS (fun z_67 locs hq_66 hS => ?_)
                      refine W.eq (g2 := F0 m 146 ls [.int (iz z_67)]) rfl ?_
                      try dsimp only at hq_66
                      rcases hq_66 with ⟨rfl, hq_66⟩ | ⟨rfl, hq_66⟩
                      · skip
                        refine ki_if_ne (tgt := 161) hx hb dX0_makeKey_146 (by decide) (by omega) (by omega) (fun c_68 => ?_) (fun c_68 => ?_)
                        · skip
                          have hpm : 0 < k ∧ kf_kd (F 0 (k - 1)) := by omega
                          have hzp : 0 < zv := by omega
                          have hkk2 : kf_ls Fv 0 (zv).toNat ++ kf_kI (F 0) (z 0) p0 p1 (k + 1) 0 1 = KK := by rw [← hkk, kf_kI_mid (F 0) (z 0) p0 p1 k bd zv 1 (by omega) (by omega) (by omega) hpm (by omega) (by omega)]
                          refine lv_iinc (v := iz (k + 1)) (lv' := [(4, .int (iz (k + 1))), (5, .int (iz (F 0 k))), (3, .int (iz bd)), (0, .ref (o 0)), (1, .int (iz p0)), (2, .int (iz p1))]) hx hb dX0_makeKey_161 hl (k := 1) rfl (iz_add k 1) (by decide) rfl (fun ls hl => ?_)
                          refine lv_goto (tgt := 12) hx hb dX0_makeKey_164 (by decide) ?_
                          exact ih12 bd (k + 1) rv nv zv Fv cv sv ⟨by omega, by omega, by omega, hFv, by omega, hkk_z (show 0 < zv by omega) (show bd = 0 by omega) hkk2, Or.inr (Or.inr (by omega))⟩ (by omega) _ _ hP hD hS ls (lv_sub hl [0, 2, 3, 4, 5] rfl)
                        · omega
                      · skip
                        refine ki_if_ne (tgt := 161) hx hb dX0_makeKey_146 (by decide) (by omega) (by omega) (fun c_69 => ?_) (fun c_69 => ?_)
                        · omega
                        · skip
                          have enm := kf_kI_num (F 0) (z 0) p0 p1 k bd zv 1 (by omega) (by omega) (by omega) (by omega) (by omega) (by omega)
                          have hke := kf_ke_bd (F 0) (z 0) (z 0 - k).toNat k (by omega)
                          have hrn := kf_kI_rn (hkk_e enm hkk) hKl (by omega) (by omega)
                          refine lv_aload_n hx hb dX0_makeKey_149 rfl (lv_at hl 3 rfl) ?_
                          refine lv_iload hx hb dX0_makeKey_150 (lv_at hl 1 rfl) ?_
                          refine lv_aload_n hx hb dX0_makeKey_152 rfl (lv_at hl 3 rfl) ?_
                          refine lv_iload hx hb dX0_makeKey_153 (lv_at hl 1 rfl) ?_
                          have hPc := hP.sub (ws' := (eU cI o (va_up r 2 rv) (va_up n 2 nv) (va_up z 2 zv) (va_up F 2 Fv))) [0, 1, 2, 3, 4, 5, 6, 7, 8, 9, 10, 11, 12, 13, 14, 15] rfl
                          refine xk_pure (va_runV (As := [.int (iz k)]) (rest := [.int (iz k), .ref (o 0)]) ⟨hx, hb, hml, hown, hts⟩ (x_digitsEnd2 l dC dI cI cB cE o (va_up r 2 rv) (va_up n 2 nv) (va_up z 2 zv) (va_up F 2 Fv) k H.size (hE.i 2 (by decide) (show 0 ≤ zv ∧ zv ≤ ((nv : Nat) : Int) ∧ ((nv : Nat) : Int) ≤ 40 by omega) hFv (by omega)) (show 0 ≤ k ∧ k ≤ z 0 by omega) (by omega) (by omega)) (cwV 1 hts (kx_gV kq_16_xentry_36 kq_16_xentry_37 kq_16_xentry_38 kq_16_xentry_2 kq_16_xentry_39 rfl) rfl rfl rfl (by decide +kernel) ⟨Nat.le_of_ble_eq_true rfl, Nat.le_of_ble_eq_true rfl⟩) ⟨pPre_blind, va_recv hK hPc (ci := 0) (q0 := 0) rfl rfl, pPre_give hPc hK hG⟩ rfl rfl hl.1 rfl (lv_room (Nat.le_of_ble_eq_true rfl)) dX0_makeKey_155 ⟨show cv + 0 ≤ 20 from (by omega), show sv + 0 ≤ 3500 from (by omega)⟩) hS (fun z_71 locs hq_70 hS => ?_)
                          refine W.eq (g2 := F0 m 158 ls [.int (iz z_71), .int (iz k), .ref (o 0)]) rfl ?_
                          try dsimp only at hq_70
                          try simp (decide := true) only [va_ev, ↓reduceIte] at hq_70
                          subst hq_70
                          refine W.eq (g2 := F0 m 158 ls [.int (iz (kf_ke (F 0) (z 0) (z 0 - k).toNat k)), .int (iz k), .ref (o 0)]) rfl ?_
                          have hPc := hP.sub (ws' := (eU cI o (va_up r 2 rv) (va_up n 2 nv) (va_up z 2 zv) (va_up F 2 Fv))) [0, 1, 2, 3, 4, 5, 6, 7, 8, 9, 10, 11, 12, 13, 14, 15] rfl
                          have hDc := hD.sub (ws' := (eU cI o (va_up r 2 rv) (va_up n 2 nv) (va_up z 2 zv) (va_up F 2 Fv))) [0, 1, 2, 3, 4, 5, 6, 7, 8, 9, 10, 11, 12, 13, 14, 15] (by decide) rfl
                          have hFc := va_free (wc := (eU cI o (va_up r 2 rv) (va_up n 2 nv) (va_up z 2 zv) (va_up F 2 Fv))) hD hS hA [0, 1, 2, 3, 4, 5, 6, 7, 8, 9, 10, 11, 12, 13, 14, 15] rfl
                          refine xk_call (va_runV (As := [.int (iz k), .int (iz (kf_ke (F 0) (z 0) (z 0 - k).toNat k))]) (rest := []) ⟨hx, hb, hml, hown, hts⟩ (x_addNumber2 l dC dI cI cB cE o (va_up r 2 rv) (va_up n 2 nv) (va_up z 2 zv) (va_up F 2 Fv) k (kf_ke (F 0) (z 0) (z 0 - k).toNat k) H.size (hE.i 2 (by decide) (show 0 ≤ zv ∧ zv ≤ ((nv : Nat) : Int) ∧ ((nv : Nat) : Int) ≤ 40 by omega) hFv (by omega)) (show 0 ≤ k ∧ k ≤ (kf_ke (F 0) (z 0) (z 0 - k).toNat k) ∧ (kf_ke (F 0) (z 0) (z 0 - k).toNat k) ≤ z 0 by omega) (show zv + 1 + ((kf_ke (F 0) (z 0) (z 0 - k).toNat k) - kf_kz (F 0) (kf_ke (F 0) (z 0) (z 0 - k).toNat k) ((kf_ke (F 0) (z 0) (z 0 - k).toNat k) - k).toNat k) ≤ 40 by omega) (by omega) (by omega) (by omega) (by omega)) (cwV 2 hts (kx_gV kq_16_xentry_40 kq_16_xentry_41 kq_16_xentry_42 kq_16_xentry_2 kq_16_xentry_43 rfl) rfl rfl rfl (by decide +kernel) ⟨Nat.le_of_ble_eq_true rfl, Nat.le_of_ble_eq_true rfl⟩) ⟨kx_blind, va_recv hK hPc (ci := 0) (q0 := 0) rfl rfl, kx_give (ws := []) (tys := []) hPc hDc hK hG hZ hS hFc⟩ rfl rfl hl.1 rfl (lv_room (Nat.le_of_ble_eq_true rfl)) dX0_makeKey_158 ⟨show cv + 10 ≤ 20 from (by omega), show sv + 1720 ≤ 3500 from (by omega)⟩) hS (fun q _ h => hFc q h) hFc (fun u dn_73 dm_74 t H locs ht hvm hq_72 hB hk1 hS => ?_)
                          obtain ⟨r2_75, n2_76, z2_77, F2_78⟩ := u
                          obtain ⟨hP1, hK1, hD1⟩ := hB
                          rw [ht] at hP1
                          obtain ⟨hP, hD⟩ := xj (wr := []) (w1 := (eU cI o (va_up (va_up r 2 rv) 2 r2_75) (va_up (va_up n 2 nv) 2 n2_76) (va_up (va_up z 2 zv) 2 z2_77) (va_up (va_up F 2 Fv) 2 F2_78))) (ws' := (eU cI o (va_up r 2 r2_75) (va_up n 2 n2_76) (va_up z 2 z2_77) (va_up F 2 F2_78))) hP hD [0, 1, 2, 3, 4, 5, 6, 7, 8, 9, 10, 11, 12, 13, 14, 15] [] [0, 1, 2, 3, 4, 5, 6, 7, 8, 9, 10, 11, 12, 13, 14, 15] rfl rfl (by decide) (by decide) hk1 hFc hP1 hD1 rfl (by decide)
                          refine W.eq (g2 := F0 m 161 ls []) rfl ?_
                          try dsimp only at hq_72
                          try simp (decide := true) only [va_ev, ↓reduceIte] at hq_72
                          obtain ⟨⟨ha79, hb79⟩, hc79, el79⟩ := hq_72
                          have hzp := kf_kn_pos el79
                          have hkk2 : kf_ls F2_78 0 (z2_77).toNat ++ kf_kI (F 0) (z 0) p0 p1 (k + 1) 0 1 = KK := by rw [el79, ← hkk, enm]; simp only [List.append_assoc, List.cons_append, List.nil_append]
                          refine lv_iinc (v := iz (k + 1)) (lv' := [(4, .int (iz (k + 1))), (5, .int (iz (F 0 k))), (3, .int (iz bd)), (0, .ref (o 0)), (1, .int (iz p0)), (2, .int (iz p1))]) hx hb dX0_makeKey_161 hl (k := 1) rfl (iz_add k 1) (by decide) rfl (fun ls hl => ?_)
                          refine lv_goto (tgt := 12) hx hb dX0_makeKey_164 (by decide) ?_
                          exact ih12 bd (k + 1) r2_75 n2_76 z2_77 F2_78 (cv + dn_73) (sv + dm_74) ⟨by omega, by omega, by omega, hb79, by omega, hkk_z (show 0 < z2_77 by omega) (show bd = 0 by omega) hkk2, Or.inr (Or.inr (by omega))⟩ (by omega) _ _ hP hD hS ls (lv_sub hl [0, 2, 3, 4, 5] rfl)
                    · skip
                      have enm := kf_kI_one (F 0) (z 0) p0 p1 k bd zv 1 (by omega) (by omega) (by omega) (by omega) (by omega)
                      have hrn := kf_kI_rn (hkk_e enm hkk) hKl (by omega) (by omega)
                      refine lv_aload_n hx hb dX0_makeKey_119 rfl (lv_at hl 3 rfl) ?_
                      refine lv_iload hx hb dX0_makeKey_120 (lv_at hl 1 rfl) ?_
                      refine lv_iload hx hb dX0_makeKey_122 (lv_at hl 1 rfl) ?_
                      refine lv_iconst (v := iz 1) hx hb dX0_makeKey_124 (by decide) ?_
                      refine ki_iadd hx hb dX0_makeKey_125 ?_
                      have hPc := hP.sub (ws' := (eU cI o (va_up r 2 rv) (va_up n 2 nv) (va_up z 2 zv) (va_up F 2 Fv))) [0, 1, 2, 3, 4, 5, 6, 7, 8, 9, 10, 11, 12, 13, 14, 15] rfl
                      have hDc := hD.sub (ws' := (eU cI o (va_up r 2 rv) (va_up n 2 nv) (va_up z 2 zv) (va_up F 2 Fv))) [0, 1, 2, 3, 4, 5, 6, 7, 8, 9, 10, 11, 12, 13, 14, 15] (by decide) rfl
                      have hFc := va_free (wc := (eU cI o (va_up r 2 rv) (va_up n 2 nv) (va_up z 2 zv) (va_up F 2 Fv))) hD hS hA [0, 1, 2, 3, 4, 5, 6, 7, 8, 9, 10, 11, 12, 13, 14, 15] rfl
                      refine xk_call (va_runV (As := [.int (iz k), .int (iz (k + 1))]) (rest := []) ⟨hx, hb, hml, hown, hts⟩ (x_addNumber2 l dC dI cI cB cE o (va_up r 2 rv) (va_up n 2 nv) (va_up z 2 zv) (va_up F 2 Fv) k (k + 1) H.size (hE.i 2 (by decide) (show 0 ≤ zv ∧ zv ≤ ((nv : Nat) : Int) ∧ ((nv : Nat) : Int) ≤ 40 by omega) hFv (by omega)) (show 0 ≤ k ∧ k ≤ (k + 1) ∧ (k + 1) ≤ z 0 by omega) (show zv + 1 + ((k + 1) - kf_kz (F 0) (k + 1) ((k + 1) - k).toNat k) ≤ 40 by omega) (by omega) (by omega) (by omega) (by omega)) (cwV 2 hts (kx_gV kq_16_xentry_40 kq_16_xentry_41 kq_16_xentry_42 kq_16_xentry_2 kq_16_xentry_43 rfl) rfl rfl rfl (by decide +kernel) ⟨Nat.le_of_ble_eq_true rfl, Nat.le_of_ble_eq_true rfl⟩) ⟨kx_blind, va_recv hK hPc (ci := 0) (q0 := 0) rfl rfl, kx_give (ws := []) (tys := []) hPc hDc hK hG hZ hS hFc⟩ rfl rfl hl.1 rfl (lv_room (Nat.le_of_ble_eq_true rfl)) dX0_makeKey_126 ⟨show cv + 10 ≤ 20 from (by omega), show sv + 1720 ≤ 3500 from (by omega)⟩) hS (fun q _ h => hFc q h) hFc (fun u dn_81 dm_82 t H locs ht hvm hq_80 hB hk1 hS => ?_)
                      obtain ⟨r2_83, n2_84, z2_85, F2_86⟩ := u
                      obtain ⟨hP1, hK1, hD1⟩ := hB
                      rw [ht] at hP1
                      obtain ⟨hP, hD⟩ := xj (wr := []) (w1 := (eU cI o (va_up (va_up r 2 rv) 2 r2_83) (va_up (va_up n 2 nv) 2 n2_84) (va_up (va_up z 2 zv) 2 z2_85) (va_up (va_up F 2 Fv) 2 F2_86))) (ws' := (eU cI o (va_up r 2 r2_83) (va_up n 2 n2_84) (va_up z 2 z2_85) (va_up F 2 F2_86))) hP hD [0, 1, 2, 3, 4, 5, 6, 7, 8, 9, 10, 11, 12, 13, 14, 15] [] [0, 1, 2, 3, 4, 5, 6, 7, 8, 9, 10, 11, 12, 13, 14, 15] rfl rfl (by decide) (by decide) hk1 hFc hP1 hD1 rfl (by decide)
                      refine W.eq (g2 := F0 m 129 ls []) rfl ?_
                      try dsimp only at hq_80
                      try simp (decide := true) only [va_ev, ↓reduceIte] at hq_80
                      obtain ⟨⟨ha87, hb87⟩, hc87, el87⟩ := hq_80
                      have hzp := kf_kn_pos el87
                      have hkk2 : kf_ls F2_86 0 (z2_85).toNat ++ kf_kI (F 0) (z 0) p0 p1 (k + 1) 0 1 = KK := by rw [el87, ← hkk, enm]; simp only [List.append_assoc, List.cons_append, List.nil_append]
                      refine lv_goto (tgt := 161) hx hb dX0_makeKey_129 (by decide) ?_
                      refine lv_iinc (v := iz (k + 1)) (lv' := [(4, .int (iz (k + 1))), (5, .int (iz (F 0 k))), (3, .int (iz bd)), (0, .ref (o 0)), (1, .int (iz p0)), (2, .int (iz p1))]) hx hb dX0_makeKey_161 hl (k := 1) rfl (iz_add k 1) (by decide) rfl (fun ls hl => ?_)
                      refine lv_goto (tgt := 12) hx hb dX0_makeKey_164 (by decide) ?_
                      exact ih12 bd (k + 1) r2_83 n2_84 z2_85 F2_86 (cv + dn_81) (sv + dm_82) ⟨by omega, by omega, by omega, hb87, by omega, hkk_z (show 0 < z2_85 by omega) (show bd = 0 by omega) hkk2, Or.inr (Or.inr (by omega))⟩ (by omega) _ _ hP hD hS ls (lv_sub hl [0, 2, 3, 4, 5] rfl)
                  · omega
                · skip
                  have ebk := kf_kI_brk (F 0) (z 0) p0 p1 k bd zv (by omega) (by omega) (by omega)
                  have hr83 := kf_kI_r1 (hkk_e ebk hkk) hKl (by omega)
                  refine lv_aload_n hx hb dX0_makeKey_78 rfl (lv_at hl 3 rfl) ?_
                  refine va_get (D := (dC, dI)) (ci := 0) (v := .ref (o 3)) (C := RX0) (T := TX0) (N := 12) hx hb hts kt_X0 hown hK hP 0 rfl rfl 4 (by decide) (kx_word hG kq_16_xentry_22 rfl) (fun _ h9 => h9) rfl dX0_makeKey_79 ?_
                  refine lv_iconst (v := iz 1) hx hb dX0_makeKey_82 (by decide) ?_
                  have hPc := hP.sub (ws' := (iU cI 40 (o 3) rv nv zv Fv)) [5, 6] rfl
                  have hDc := hD.sub (ws' := (iU cI 40 (o 3) rv nv zv Fv)) [5, 6] (by decide) rfl
                  have hFc := va_free (wc := (iU cI 40 (o 3) rv nv zv Fv)) hD hS hA [5, 6] rfl
                  refine xk_call (va_runV (As := [.int (iz 1)]) (rest := []) ⟨hx, hb, hml, hown, hts⟩ (x_add l dC dI cI cB cE 40 (o 3) rv nv zv Fv 1 H.size (by omega) hFv (by omega) (by omega)) (cwV 1 hts (kx_gV kq_16_xentry_5 kq_15_xspan_46 kq_15_xspan_47 kq_13_xints_6 kq_15_xspan_48 rfl) rfl rfl rfl (by decide +kernel) ⟨Nat.le_of_ble_eq_true rfl, Nat.le_of_ble_eq_true rfl⟩) ⟨kx_blind, va_recv hK hPc (ci := 1) (q0 := 0) rfl rfl, kx_give (ws := []) (tys := []) hPc hDc hK hG hZ hS hFc⟩ rfl rfl hl.1 rfl (lv_room (Nat.le_of_ble_eq_true rfl)) dX0_makeKey_83 ⟨show cv + 1 ≤ 20 from (by omega), show sv + 1600 ≤ 3500 from (by omega)⟩) hS (fun q _ h => hFc q h) hFc (fun u dn_89 dm_90 t H locs ht hvm hq_88 hB hk1 hS => ?_)
                  obtain ⟨r_91, n_92, z_93, F_94⟩ := u
                  obtain ⟨hP1, hK1, hD1⟩ := hB
                  rw [ht] at hP1
                  obtain ⟨hP, hD⟩ := xj (wr := [(o 0, .inr (0, [.int (iz (z 7)), .int (iz (z 8)), .ref (o 1), .ref (o 2), .ref (o 3), .ref (o 5), .ref (o 4), .int (iz (z 9)), .int (iz (z 10)), .int (iz (z 11)), .int (iz (z 12)), .int (iz (z 13))])), (o 1, .inr (1, [.int (iz 20), .ref (r 0), .int (iz (z 0))])), (r 0, .inl (cI, n 0, .inl (iA (F 0)))), (o 2, .inr (1, [.int (iz 20), .ref (r 1), .int (iz (z 1))])), (r 1, .inl (cI, n 1, .inl (iA (F 1)))), (o 4, .inr (1, [.int (iz 5), .ref (r 3), .int (iz (z 3))])), (r 3, .inl (cI, n 3, .inl (iA (F 3)))), (o 5, .inr (3, [.ref (o 6), .ref (o 7), .ref (o 8)])), (o 6, .inr (1, [.int (iz 20), .ref (r 4), .int (iz (z 4))])), (r 4, .inl (cI, n 4, .inl (iA (F 4)))), (o 7, .inr (1, [.int (iz 20), .ref (r 5), .int (iz (z 5))])), (r 5, .inl (cI, n 5, .inl (iA (F 5)))), (o 8, .inr (1, [.int (iz 20), .ref (r 6), .int (iz (z 6))])), (r 6, .inl (cI, n 6, .inl (iA (F 6))))]) (w1 := (iU cI 40 (o 3) r_91 n_92 z_93 F_94)) (ws' := (eU cI o (va_up r 2 r_91) (va_up n 2 n_92) (va_up z 2 z_93) (va_up F 2 F_94))) hP hD [5, 6] [0, 1, 2, 3, 4, 7, 8, 9, 10, 11, 12, 13, 14, 15] [0, 1, 2, 3, 4, 14, 15, 5, 6, 7, 8, 9, 10, 11, 12, 13] rfl rfl (by decide) (by decide) hk1 hFc hP1 hD1 rfl (by decide)
                  refine W.eq (g2 := F0 m 86 ls []) rfl ?_
                  try dsimp only at hq_88
                  obtain ⟨ha95, hb95, hc95, hd95⟩ := hq_88
                  obtain ⟨ez95, el95⟩ := kf_ls_add (by omega) (by omega) hd95
                  have hkk1 : kf_ls F_94 0 (z_93).toNat ++ kf_kI (F 0) (z 0) p0 p1 k 0 zv = KK := by rw [el95, ← hkk, ebk]; simp only [List.append_assoc, List.cons_append, List.nil_append]
                  refine lv_iconst (v := iz 0) hx hb dX0_makeKey_86 (by decide) ?_
                  refine lv_istore_n (lv' := [(3, .int (iz 0)), (5, .int (iz (F 0 k))), (4, .int (iz k)), (0, .ref (o 0)), (1, .int (iz p0)), (2, .int (iz p1))]) hx hb dX0_makeKey_87 rfl hl (by decide) rfl (fun ls hl => ?_)
                  refine lv_iload hx hb dX0_makeKey_88 (lv_at hl 1 rfl) ?_
                  have hPc : va_P (dC, dI) kxCl [] H := fun k q h => by simp at h
                  refine xk_pure (va_runS (As := [.int (iz (F 0 k))]) (rest := []) ⟨hx, hb, hml, hown, hts⟩ (x_isLetter2 l dC dI cI cB cE (F 0 k) H.size (by omega) (by omega) (hsg k (by omega) (by omega))) (va_cwS 1 hts (kx_gS kq_16_xentry_33 kq_16_xentry_34 kq_16_xentry_2 kq_16_xentry_35 rfl) rfl rfl rfl (by decide +kernel) ⟨Nat.le_of_ble_eq_true rfl, Nat.le_of_ble_eq_true rfl⟩) ⟨pPre_blind, pPre_give hPc hK hG⟩ rfl rfl hl.1 rfl (lv_room (Nat.le_of_ble_eq_true rfl)) dX0_makeKey_90 ⟨show (cv + dn_89) + 0 ≤ 20 from (by omega), show (sv + dm_90) + 0 ≤ 3500 from (by omega)⟩) hS (fun z_97 locs hq_96 hS => ?_)
                  refine W.eq (g2 := F0 m 93 ls [.int (iz z_97)]) rfl ?_
                  try dsimp only at hq_96
                  have ez_98 : z_97 = 0 := by omega
                  subst ez_98
                  refine W.eq (g2 := F0 m 93 ls [.int (iz 0)]) rfl ?_
                  refine ki_if_eq (tgt := 115) hx hb dX0_makeKey_93 (by decide) (by omega) (by omega) (fun c_99 => ?_) (fun c_99 => ?_)
                  · skip
                    refine lv_iload_n hx hb dX0_makeKey_115 rfl (lv_at hl 4 rfl) ?_
                    refine ki_if_ne (tgt := 132) hx hb dX0_makeKey_116 (by decide) (by omega) (by omega) (fun c_100 => ?_) (fun c_100 => ?_)
                    · skip
                      refine lv_aload_n hx hb dX0_makeKey_132 rfl (lv_at hl 3 rfl) ?_
                      refine va_get (D := (dC, dI)) (ci := 0) (v := .ref (o 1)) (C := RX0) (T := TX0) (N := 12) hx hb hts kt_X0 hown hK hP 0 rfl rfl 2 (by decide) (kx_word hG kq_16_xentry_4 rfl) (fun _ h9 => h9) rfl dX0_makeKey_133 ?_
                      refine lv_iload hx hb dX0_makeKey_136 (lv_at hl 2 rfl) ?_
                      refine lv_iconst (v := iz 1) hx hb dX0_makeKey_138 (by decide) ?_
                      refine ki_isub hx hb dX0_makeKey_139 ?_
                      have hPc := hP.sub (ws' := (iU cI 20 (o 1) (r 0) (n 0) (z 0) (F 0))) [1, 2] rfl
                      refine xk_pure (va_runV (As := [.int (iz (k - 1))]) (rest := []) ⟨hx, hb, hml, hown, hts⟩ (x_get l dC dI cI cB cE 20 (o 1) (r 0) (n 0) (z 0) (F 0) (k - 1) H.size (by omega) (hE.2.1 0) (by omega) (by omega)) (cwV 1 hts (kx_gV kq_16_xentry_24 kq_13_xints_4 kq_13_xints_5 kq_13_xints_6 kq_13_xints_7 rfl) rfl rfl rfl (by decide +kernel) ⟨Nat.le_of_ble_eq_true rfl, Nat.le_of_ble_eq_true rfl⟩) ⟨pPre_blind, va_recv hK hPc (ci := 1) (q0 := 0) rfl rfl, pPre_give hPc hK hG⟩ rfl rfl hl.1 rfl (lv_room (Nat.le_of_ble_eq_true rfl)) dX0_makeKey_140 ⟨show (cv + dn_89) + 0 ≤ 20 from (by omega), show (sv + dm_90) + 0 ≤ 3500 from (by omega)⟩) hS (fun z_102 locs hq_101 hS => ?_)
                      refine W.eq (g2 := F0 m 143 ls [.int (iz z_102)]) rfl ?_
                      try dsimp only at hq_101
                      have hPc : va_P (dC, dI) kxCl [] H := fun k q h => by simp at h
                      refine xk_pure (va_runS (As := [.int (iz z_102)]) (rest := []) ⟨hx, hb, hml, hown, hts⟩ (x_isDigit l dC dI cI cB cE z_102 H.size (by omega) (by omega)) (va_cwS 1 hts (kx_gS kq_16_xentry_29 kq_16_xentry_30 kq_16_xentry_2 kq_16_xentry_31 rfl) rfl rfl rfl (by decide +kernel) ⟨Nat.le_of_ble_eq_true rfl, Nat.le_of_ble_eq_true rfl⟩) ⟨pPre_blind, pPre_give hPc hK hG⟩ rfl rfl hl.1 rfl (lv_room (Nat.le_of_ble_eq_true rfl)) dX0_makeKey_143 ⟨show (cv + dn_89) + 0 ≤ 20 from (by omega), show (sv + dm_90) + 0 ≤ 3500 from (by omega)⟩) hS (fun z_104 locs hq_103 hS => ?_)
                      refine W.eq (g2 := F0 m 146 ls [.int (iz z_104)]) rfl ?_
                      try dsimp only at hq_103
                      rcases hq_103 with ⟨rfl, hq_103⟩ | ⟨rfl, hq_103⟩
                      · skip
                        refine ki_if_ne (tgt := 161) hx hb dX0_makeKey_146 (by decide) (by omega) (by omega) (fun c_105 => ?_) (fun c_105 => ?_)
                        · skip
                          have hpm : 0 < k ∧ kf_kd (F 0 (k - 1)) := by omega
                          have hzp : 0 < z_93 := by omega
                          have hkk2 : kf_ls F_94 0 (z_93).toNat ++ kf_kI (F 0) (z 0) p0 p1 (k + 1) 0 1 = KK := by rw [← hkk1, kf_kI_mid (F 0) (z 0) p0 p1 k 0 zv 1 (by omega) (by omega) (by omega) hpm (by omega) (by omega)]
                          refine lv_iinc (v := iz (k + 1)) (lv' := [(4, .int (iz (k + 1))), (3, .int (iz 0)), (5, .int (iz (F 0 k))), (0, .ref (o 0)), (1, .int (iz p0)), (2, .int (iz p1))]) hx hb dX0_makeKey_161 hl (k := 2) rfl (iz_add k 1) (by decide) rfl (fun ls hl => ?_)
                          refine lv_goto (tgt := 12) hx hb dX0_makeKey_164 (by decide) ?_
                          exact ih12 0 (k + 1) r_91 n_92 z_93 F_94 (cv + dn_89) (sv + dm_90) ⟨by omega, by omega, by omega, hb95, by omega, hkk_z (show 0 < z_93 by omega) (show 0 = 0 by omega) hkk2, Or.inr (Or.inr (by omega))⟩ (by omega) _ _ hP hD hS ls (lv_sub hl [0, 1, 3, 4, 5] rfl)
                        · omega
                      · skip
                        refine ki_if_ne (tgt := 161) hx hb dX0_makeKey_146 (by decide) (by omega) (by omega) (fun c_106 => ?_) (fun c_106 => ?_)
                        · omega
                        · skip
                          have enm := kf_kI_num (F 0) (z 0) p0 p1 k 0 zv 1 (by omega) (by omega) (by omega) (by omega) (by omega) (by omega)
                          have hke := kf_ke_bd (F 0) (z 0) (z 0 - k).toNat k (by omega)
                          have hrn := kf_kI_rn (hkk_e enm hkk1) hKl (by omega) (by omega)
                          refine lv_aload_n hx hb dX0_makeKey_149 rfl (lv_at hl 3 rfl) ?_
                          refine lv_iload hx hb dX0_makeKey_150 (lv_at hl 2 rfl) ?_
                          refine lv_aload_n hx hb dX0_makeKey_152 rfl (lv_at hl 3 rfl) ?_
                          refine lv_iload hx hb dX0_makeKey_153 (lv_at hl 2 rfl) ?_
                          have hPc := hP.sub (ws' := (eU cI o (va_up r 2 r_91) (va_up n 2 n_92) (va_up z 2 z_93) (va_up F 2 F_94))) [0, 1, 2, 3, 4, 5, 6, 7, 8, 9, 10, 11, 12, 13, 14, 15] rfl
                          refine xk_pure (va_runV (As := [.int (iz k)]) (rest := [.int (iz k), .ref (o 0)]) ⟨hx, hb, hml, hown, hts⟩ (x_digitsEnd2 l dC dI cI cB cE o (va_up r 2 r_91) (va_up n 2 n_92) (va_up z 2 z_93) (va_up F 2 F_94) k H.size (hE.i 2 (by decide) (show 0 ≤ z_93 ∧ z_93 ≤ ((n_92 : Nat) : Int) ∧ ((n_92 : Nat) : Int) ≤ 40 by omega) hb95 (by omega)) (show 0 ≤ k ∧ k ≤ z 0 by omega) (by omega) (by omega)) (cwV 1 hts (kx_gV kq_16_xentry_36 kq_16_xentry_37 kq_16_xentry_38 kq_16_xentry_2 kq_16_xentry_39 rfl) rfl rfl rfl (by decide +kernel) ⟨Nat.le_of_ble_eq_true rfl, Nat.le_of_ble_eq_true rfl⟩) ⟨pPre_blind, va_recv hK hPc (ci := 0) (q0 := 0) rfl rfl, pPre_give hPc hK hG⟩ rfl rfl hl.1 rfl (lv_room (Nat.le_of_ble_eq_true rfl)) dX0_makeKey_155 ⟨show (cv + dn_89) + 0 ≤ 20 from (by omega), show (sv + dm_90) + 0 ≤ 3500 from (by omega)⟩) hS (fun z_108 locs hq_107 hS => ?_)
                          refine W.eq (g2 := F0 m 158 ls [.int (iz z_108), .int (iz k), .ref (o 0)]) rfl ?_
                          try dsimp only at hq_107
                          try simp (decide := true) only [va_ev, ↓reduceIte] at hq_107
                          subst hq_107
                          refine W.eq (g2 := F0 m 158 ls [.int (iz (kf_ke (F 0) (z 0) (z 0 - k).toNat k)), .int (iz k), .ref (o 0)]) rfl ?_
                          have hPc := hP.sub (ws' := (eU cI o (va_up r 2 r_91) (va_up n 2 n_92) (va_up z 2 z_93) (va_up F 2 F_94))) [0, 1, 2, 3, 4, 5, 6, 7, 8, 9, 10, 11, 12, 13, 14, 15] rfl
                          have hDc := hD.sub (ws' := (eU cI o (va_up r 2 r_91) (va_up n 2 n_92) (va_up z 2 z_93) (va_up F 2 F_94))) [0, 1, 2, 3, 4, 5, 6, 7, 8, 9, 10, 11, 12, 13, 14, 15] (by decide) rfl
                          have hFc := va_free (wc := (eU cI o (va_up r 2 r_91) (va_up n 2 n_92) (va_up z 2 z_93) (va_up F 2 F_94))) hD hS hA [0, 1, 2, 3, 4, 5, 6, 7, 8, 9, 10, 11, 12, 13, 14, 15] rfl
                          refine xk_call (va_runV (As := [.int (iz k), .int (iz (kf_ke (F 0) (z 0) (z 0 - k).toNat k))]) (rest := []) ⟨hx, hb, hml, hown, hts⟩ (x_addNumber2 l dC dI cI cB cE o (va_up r 2 r_91) (va_up n 2 n_92) (va_up z 2 z_93) (va_up F 2 F_94) k (kf_ke (F 0) (z 0) (z 0 - k).toNat k) H.size (hE.i 2 (by decide) (show 0 ≤ z_93 ∧ z_93 ≤ ((n_92 : Nat) : Int) ∧ ((n_92 : Nat) : Int) ≤ 40 by omega) hb95 (by omega)) (show 0 ≤ k ∧ k ≤ (kf_ke (F 0) (z 0) (z 0 - k).toNat k) ∧ (kf_ke (F 0) (z 0) (z 0 - k).toNat k) ≤ z 0 by omega) (show z_93 + 1 + ((kf_ke (F 0) (z 0) (z 0 - k).toNat k) - kf_kz (F 0) (kf_ke (F 0) (z 0) (z 0 - k).toNat k) ((kf_ke (F 0) (z 0) (z 0 - k).toNat k) - k).toNat k) ≤ 40 by omega) (by omega) (by omega) (by omega) (by omega)) (cwV 2 hts (kx_gV kq_16_xentry_40 kq_16_xentry_41 kq_16_xentry_42 kq_16_xentry_2 kq_16_xentry_43 rfl) rfl rfl rfl (by decide +kernel) ⟨Nat.le_of_ble_eq_true rfl, Nat.le_of_ble_eq_true rfl⟩) ⟨kx_blind, va_recv hK hPc (ci := 0) (q0 := 0) rfl rfl, kx_give (ws := []) (tys := []) hPc hDc hK hG hZ hS hFc⟩ rfl rfl hl.1 rfl (lv_room (Nat.le_of_ble_eq_true rfl)) dX0_makeKey_158 ⟨show (cv + dn_89) + 10 ≤ 20 from (by omega), show (sv + dm_90) + 1720 ≤ 3500 from (by omega)⟩) hS (fun q _ h => hFc q h) hFc (fun u dn_110 dm_111 t H locs ht hvm hq_109 hB hk1 hS => ?_)
                          obtain ⟨r2_112, n2_113, z2_114, F2_115⟩ := u
                          obtain ⟨hP1, hK1, hD1⟩ := hB
                          rw [ht] at hP1
                          obtain ⟨hP, hD⟩ := xj (wr := []) (w1 := (eU cI o (va_up (va_up r 2 r_91) 2 r2_112) (va_up (va_up n 2 n_92) 2 n2_113) (va_up (va_up z 2 z_93) 2 z2_114) (va_up (va_up F 2 F_94) 2 F2_115))) (ws' := (eU cI o (va_up r 2 r2_112) (va_up n 2 n2_113) (va_up z 2 z2_114) (va_up F 2 F2_115))) hP hD [0, 1, 2, 3, 4, 5, 6, 7, 8, 9, 10, 11, 12, 13, 14, 15] [] [0, 1, 2, 3, 4, 5, 6, 7, 8, 9, 10, 11, 12, 13, 14, 15] rfl rfl (by decide) (by decide) hk1 hFc hP1 hD1 rfl (by decide)
                          refine W.eq (g2 := F0 m 161 ls []) rfl ?_
                          try dsimp only at hq_109
                          try simp (decide := true) only [va_ev, ↓reduceIte] at hq_109
                          obtain ⟨⟨ha116, hb116⟩, hc116, el116⟩ := hq_109
                          have hzp := kf_kn_pos el116
                          have hkk2 : kf_ls F2_115 0 (z2_114).toNat ++ kf_kI (F 0) (z 0) p0 p1 (k + 1) 0 1 = KK := by rw [el116, ← hkk1, enm]; simp only [List.append_assoc, List.cons_append, List.nil_append]
                          refine lv_iinc (v := iz (k + 1)) (lv' := [(4, .int (iz (k + 1))), (3, .int (iz 0)), (5, .int (iz (F 0 k))), (0, .ref (o 0)), (1, .int (iz p0)), (2, .int (iz p1))]) hx hb dX0_makeKey_161 hl (k := 2) rfl (iz_add k 1) (by decide) rfl (fun ls hl => ?_)
                          refine lv_goto (tgt := 12) hx hb dX0_makeKey_164 (by decide) ?_
                          exact ih12 0 (k + 1) r2_112 n2_113 z2_114 F2_115 ((cv + dn_89) + dn_110) ((sv + dm_90) + dm_111) ⟨by omega, by omega, by omega, hb116, by omega, hkk_z (show 0 < z2_114 by omega) (show 0 = 0 by omega) hkk2, Or.inr (Or.inr (by omega))⟩ (by omega) _ _ hP hD hS ls (lv_sub hl [0, 1, 3, 4, 5] rfl)
                    · skip
                      have enm := kf_kI_one (F 0) (z 0) p0 p1 k 0 zv 1 (by omega) (by omega) (by omega) (by omega) (by omega)
                      have hrn := kf_kI_rn (hkk_e enm hkk1) hKl (by omega) (by omega)
                      refine lv_aload_n hx hb dX0_makeKey_119 rfl (lv_at hl 3 rfl) ?_
                      refine lv_iload hx hb dX0_makeKey_120 (lv_at hl 2 rfl) ?_
                      refine lv_iload hx hb dX0_makeKey_122 (lv_at hl 2 rfl) ?_
                      refine lv_iconst (v := iz 1) hx hb dX0_makeKey_124 (by decide) ?_
                      refine ki_iadd hx hb dX0_makeKey_125 ?_
                      have hPc := hP.sub (ws' := (eU cI o (va_up r 2 r_91) (va_up n 2 n_92) (va_up z 2 z_93) (va_up F 2 F_94))) [0, 1, 2, 3, 4, 5, 6, 7, 8, 9, 10, 11, 12, 13, 14, 15] rfl
                      have hDc := hD.sub (ws' := (eU cI o (va_up r 2 r_91) (va_up n 2 n_92) (va_up z 2 z_93) (va_up F 2 F_94))) [0, 1, 2, 3, 4, 5, 6, 7, 8, 9, 10, 11, 12, 13, 14, 15] (by decide) rfl
                      have hFc := va_free (wc := (eU cI o (va_up r 2 r_91) (va_up n 2 n_92) (va_up z 2 z_93) (va_up F 2 F_94))) hD hS hA [0, 1, 2, 3, 4, 5, 6, 7, 8, 9, 10, 11, 12, 13, 14, 15] rfl
                      refine xk_call (va_runV (As := [.int (iz k), .int (iz (k + 1))]) (rest := []) ⟨hx, hb, hml, hown, hts⟩ (x_addNumber2 l dC dI cI cB cE o (va_up r 2 r_91) (va_up n 2 n_92) (va_up z 2 z_93) (va_up F 2 F_94) k (k + 1) H.size (hE.i 2 (by decide) (show 0 ≤ z_93 ∧ z_93 ≤ ((n_92 : Nat) : Int) ∧ ((n_92 : Nat) : Int) ≤ 40 by omega) hb95 (by omega)) (show 0 ≤ k ∧ k ≤ (k + 1) ∧ (k + 1) ≤ z 0 by omega) (show z_93 + 1 + ((k + 1) - kf_kz (F 0) (k + 1) ((k + 1) - k).toNat k) ≤ 40 by omega) (by omega) (by omega) (by omega) (by omega)) (cwV 2 hts (kx_gV kq_16_xentry_40 kq_16_xentry_41 kq_16_xentry_42 kq_16_xentry_2 kq_16_xentry_43 rfl) rfl rfl rfl (by decide +kernel) ⟨Nat.le_of_ble_eq_true rfl, Nat.le_of_ble_eq_true rfl⟩) ⟨kx_blind, va_recv hK hPc (ci := 0) (q0 := 0) rfl rfl, kx_give (ws := []) (tys := []) hPc hDc hK hG hZ hS hFc⟩ rfl rfl hl.1 rfl (lv_room (Nat.le_of_ble_eq_true rfl)) dX0_makeKey_126 ⟨show (cv + dn_89) + 10 ≤ 20 from (by omega), show (sv + dm_90) + 1720 ≤ 3500 from (by omega)⟩) hS (fun q _ h => hFc q h) hFc (fun u dn_118 dm_119 t H locs ht hvm hq_117 hB hk1 hS => ?_)
                      obtain ⟨r2_120, n2_121, z2_122, F2_123⟩ := u
                      obtain ⟨hP1, hK1, hD1⟩ := hB
                      rw [ht] at hP1
                      obtain ⟨hP, hD⟩ := xj (wr := []) (w1 := (eU cI o (va_up (va_up r 2 r_91) 2 r2_120) (va_up (va_up n 2 n_92) 2 n2_121) (va_up (va_up z 2 z_93) 2 z2_122) (va_up (va_up F 2 F_94) 2 F2_123))) (ws' := (eU cI o (va_up r 2 r2_120) (va_up n 2 n2_121) (va_up z 2 z2_122) (va_up F 2 F2_123))) hP hD [0, 1, 2, 3, 4, 5, 6, 7, 8, 9, 10, 11, 12, 13, 14, 15] [] [0, 1, 2, 3, 4, 5, 6, 7, 8, 9, 10, 11, 12, 13, 14, 15] rfl rfl (by decide) (by decide) hk1 hFc hP1 hD1 rfl (by decide)
                      refine W.eq (g2 := F0 m 129 ls []) rfl ?_
                      try dsimp only at hq_117
                      try simp (decide := true) only [va_ev, ↓reduceIte] at hq_117
                      obtain ⟨⟨ha124, hb124⟩, hc124, el124⟩ := hq_117
                      have hzp := kf_kn_pos el124
                      have hkk2 : kf_ls F2_123 0 (z2_122).toNat ++ kf_kI (F 0) (z 0) p0 p1 (k + 1) 0 1 = KK := by rw [el124, ← hkk1, enm]; simp only [List.append_assoc, List.cons_append, List.nil_append]
                      refine lv_goto (tgt := 161) hx hb dX0_makeKey_129 (by decide) ?_
                      refine lv_iinc (v := iz (k + 1)) (lv' := [(4, .int (iz (k + 1))), (3, .int (iz 0)), (5, .int (iz (F 0 k))), (0, .ref (o 0)), (1, .int (iz p0)), (2, .int (iz p1))]) hx hb dX0_makeKey_161 hl (k := 2) rfl (iz_add k 1) (by decide) rfl (fun ls hl => ?_)
                      refine lv_goto (tgt := 12) hx hb dX0_makeKey_164 (by decide) ?_
                      exact ih12 0 (k + 1) r2_120 n2_121 z2_122 F2_123 ((cv + dn_89) + dn_118) ((sv + dm_90) + dm_119) ⟨by omega, by omega, by omega, hb124, by omega, hkk_z (show 0 < z2_122 by omega) (show 0 = 0 by omega) hkk2, Or.inr (Or.inr (by omega))⟩ (by omega) _ _ hP hD hS ls (lv_sub hl [0, 1, 3, 4, 5] rfl)
                  · omega
              · omega
            · skip
              refine ki_if_ne (tgt := 74) hx hb dX0_makeKey_48 (by decide) (by omega) (by omega) (fun c_125 => ?_) (fun c_125 => ?_)
              · omega
              · skip
                refine lv_iload_n hx hb dX0_makeKey_51 rfl (lv_at hl 5 rfl) ?_
                refine ki_if_eq (tgt := 69) hx hb dX0_makeKey_52 (by decide) (by omega) (by omega) (fun c_126 => ?_) (fun c_126 => ?_)
                · skip
                  refine lv_iconst (v := iz 0) hx hb dX0_makeKey_69 (by decide) ?_
                  refine lv_istore_n (lv' := [(3, .int (iz 0)), (5, .int (iz (F 0 k))), (4, .int (iz k)), (0, .ref (o 0)), (1, .int (iz p0)), (2, .int (iz p1))]) hx hb dX0_makeKey_70 rfl hl (by decide) rfl (fun ls hl => ?_)
                  refine lv_goto (tgt := 161) hx hb dX0_makeKey_71 (by decide) ?_
                  refine lv_iinc (v := iz (k + 1)) (lv' := [(4, .int (iz (k + 1))), (3, .int (iz 0)), (5, .int (iz (F 0 k))), (0, .ref (o 0)), (1, .int (iz p0)), (2, .int (iz p1))]) hx hb dX0_makeKey_161 hl (k := 2) rfl (iz_add k 1) (by decide) rfl (fun ls hl => ?_)
                  refine lv_goto (tgt := 12) hx hb dX0_makeKey_164 (by decide) ?_
                  exact ih12 0 (k + 1) rv nv zv Fv cv sv ⟨by omega, by omega, by omega, hFv, by omega, by rw [← kf_kI_sep (F 0) (z 0) p0 p1 k bd zv 0 (by omega) (by omega) (by omega)]; exact hkk, Or.inr (Or.inl (by rw [show k + 1 - 1 = k by omega]; exact ⟨by omega, by omega⟩))⟩ (by omega) _ _ hP hD hS ls (lv_sub hl [0, 1, 3, 4, 5] rfl)
                · skip
                  refine lv_aload_n hx hb dX0_makeKey_55 rfl (lv_at hl 3 rfl) ?_
                  refine va_get (D := (dC, dI)) (ci := 0) (v := .ref (o 3)) (C := RX0) (T := TX0) (N := 12) hx hb hts kt_X0 hown hK hP 0 rfl rfl 4 (by decide) (kx_word hG kq_16_xentry_22 rfl) (fun _ h9 => h9) rfl dX0_makeKey_56 ?_
                  have hPc := hP.sub (ws' := (iU cI 40 (o 3) rv nv zv Fv)) [5, 6] rfl
                  refine xk_pure (va_runV (As := []) (rest := []) ⟨hx, hb, hml, hown, hts⟩ (x_size l dC dI cI cB cE 40 (o 3) rv nv zv Fv  H.size ) (cwV 0 hts (kx_gV kq_16_xentry_23 kq_15_xspan_10 kq_15_xspan_11 kq_13_xints_6 kq_15_xspan_12 rfl) rfl rfl rfl (by decide +kernel) ⟨Nat.le_of_ble_eq_true rfl, Nat.le_of_ble_eq_true rfl⟩) ⟨pPre_blind, va_recv hK hPc (ci := 1) (q0 := 0) rfl rfl, pPre_give hPc hK hG⟩ rfl rfl hl.1 rfl (lv_room (Nat.le_of_ble_eq_true rfl)) dX0_makeKey_59 ⟨show cv + 0 ≤ 20 from (by omega), show sv + 0 ≤ 3500 from (by omega)⟩) hS (fun z_128 locs hq_127 hS => ?_)
                  refine W.eq (g2 := F0 m 62 ls [.int (iz z_128)]) rfl ?_
                  try dsimp only at hq_127
                  have hq_127 := hq_127.symm
                  subst hq_127
                  refine ki_if_le (tgt := 69) hx hb dX0_makeKey_62 (by decide) (by omega) (by omega) (fun c_129 => ?_) (fun c_129 => ?_)
                  · skip
                    refine lv_iconst (v := iz 0) hx hb dX0_makeKey_69 (by decide) ?_
                    refine lv_istore_n (lv' := [(3, .int (iz 0)), (5, .int (iz (F 0 k))), (4, .int (iz k)), (0, .ref (o 0)), (1, .int (iz p0)), (2, .int (iz p1))]) hx hb dX0_makeKey_70 rfl hl (by decide) rfl (fun ls hl => ?_)
                    refine lv_goto (tgt := 161) hx hb dX0_makeKey_71 (by decide) ?_
                    refine lv_iinc (v := iz (k + 1)) (lv' := [(4, .int (iz (k + 1))), (3, .int (iz 0)), (5, .int (iz (F 0 k))), (0, .ref (o 0)), (1, .int (iz p0)), (2, .int (iz p1))]) hx hb dX0_makeKey_161 hl (k := 2) rfl (iz_add k 1) (by decide) rfl (fun ls hl => ?_)
                    refine lv_goto (tgt := 12) hx hb dX0_makeKey_164 (by decide) ?_
                    exact ih12 0 (k + 1) rv nv zv Fv cv sv ⟨by omega, by omega, by omega, hFv, by omega, by rw [← kf_kI_sep (F 0) (z 0) p0 p1 k bd zv 0 (by omega) (by omega) (by omega)]; exact hkk, Or.inr (Or.inl (by rw [show k + 1 - 1 = k by omega]; exact ⟨by omega, by omega⟩))⟩ (by omega) _ _ hP hD hS ls (lv_sub hl [0, 1, 3, 4, 5] rfl)
                  · skip
                    refine lv_iconst (v := iz 1) hx hb dX0_makeKey_65 (by decide) ?_
                    refine lv_goto (tgt := 70) hx hb dX0_makeKey_66 (by decide) ?_
                    refine lv_istore_n (lv' := [(3, .int (iz 1)), (5, .int (iz (F 0 k))), (4, .int (iz k)), (0, .ref (o 0)), (1, .int (iz p0)), (2, .int (iz p1))]) hx hb dX0_makeKey_70 rfl hl (by decide) rfl (fun ls hl => ?_)
                    refine lv_goto (tgt := 161) hx hb dX0_makeKey_71 (by decide) ?_
                    refine lv_iinc (v := iz (k + 1)) (lv' := [(4, .int (iz (k + 1))), (3, .int (iz 1)), (5, .int (iz (F 0 k))), (0, .ref (o 0)), (1, .int (iz p0)), (2, .int (iz p1))]) hx hb dX0_makeKey_161 hl (k := 2) rfl (iz_add k 1) (by decide) rfl (fun ls hl => ?_)
                    refine lv_goto (tgt := 12) hx hb dX0_makeKey_164 (by decide) ?_
                    exact ih12 1 (k + 1) rv nv zv Fv cv sv ⟨by omega, by omega, by omega, hFv, by omega, by rw [← kf_kI_sep (F 0) (z 0) p0 p1 k bd zv 1 (by omega) (by omega) (by omega)]; exact hkk, Or.inr (Or.inl (by rw [show k + 1 - 1 = k by omega]; exact ⟨by omega, by omega⟩))⟩ (by omega) _ _ hP hD hS ls (lv_sub hl [0, 1, 3, 4, 5] rfl)
  exact lp12 _ 0 0 (r 2) (n 2) 0 (F 2) (0 + 0) (0 + 0) ⟨by omega, by omega, by omega, (hE.2.1 2), by omega, (by rw [hKK]; exact List.nil_append _), Or.inl rfl⟩ (Nat.lt_succ_self _) _ _ hP hD hS ls (lv_sub hl [0, 1, 2, 3, 4] rfl)
