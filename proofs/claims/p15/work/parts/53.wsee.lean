/-! see, exact -/
def wr_is (F : Nat → Int → Int) (a b : Int) : Prop := a = b ∨ ∃ j, 0 ≤ j ∧ j < F 13 a ∧ F 12 (5 * a + j) = b
def wr_ad (n : Int) (F : Nat → Int → Int) (a b : Int) : Prop := (0 ≤ a ∧ a < n) ∧ (0 ≤ b ∧ b < n) ∧ F 13 a < 5 ∧ ¬ wr_is F a b

set_option maxHeartbeats 4000000 in
set_option maxRecDepth 100000 in
theorem x_has2 (l : Launch) (dC : Nat → ClassId) (dI : Nat → Nat → Nat) (cI cB cE : ClassId) (L : Int) (o : Nat) (r : Nat) (n : Nat) (z : Int) (F : Int → Int) (p0 : Int) (sz : Nat) (hok : 0 ≤ z ∧ z ≤ (n : Int) ∧ (n : Int) ≤ L ∧ L ≤ 1600) (hF : iB F) (hp01 : -2147483648 ≤ p0) (hp02 : p0 < 2147483648) : Met l yX1_has [.code yX1_has cX1_has 3 (some .boolean)] ({ frames := 1, cells := 0, slots := 0, locals := 21 }) (va_Pc [.ref o, .int (iz p0)] (pPre dC dI (iU cI L o r n z F) (xT cI cB cE) sz)) (pQ (fun z => some (.int (iz z))) (fun (q : Int) => (q = 1 ∧ ∃ i, 0 ≤ i ∧ i < z ∧ F i = p0) ∨ (q = 0 ∧ ∀ i, 0 ≤ i → i < z → ¬ F i = p0))) 0 0 (fun _ => False) := by
  refine Met.ofW (cc := cX1_has) (maxL := 3) (ret := (some .boolean)) (by decide) rfl ?_
  intro p e s m args below meth c s₁ B hml hv
  obtain ⟨rfl, hsz, hP, hK, hG⟩ := hv
  have hx := B.exec
  have hb := B.bytes
  have hr := B.returns
  have hts := kx_hts (a := ([.ref o, .int (iz p0)] : List Value).toArray) hG
  have hown : s.vm.findClass RX1 = some m.cls := findClass_of_methodNamed B.named
  have hlocks := B.notSynchronized
  subst hsz
  have hS : va_S (fun _ => False) s.heap s.heap [] := va_S.rf
  have hl := lv_entry ([.ref o, .int (iz p0)]) (n := 3) (Nat.le_of_ble_eq_true rfl)
  rw [lg_entry_eq]
  generalize (lg_sl ([.ref o, .int (iz p0)]) ++ List.replicate (3 - (lg_sl ([.ref o, .int (iz p0)])).length) Slot.unset).toArray = ls at hl ⊢
  have hl : lv_has ls 3 [(0, .ref o), (1, .int (iz p0))] := hl
  generalize hQe : MQ below (pQ (fun z => some (.int (iz z))) (fun (q : Int) => (q = 1 ∧ ∃ i, 0 ≤ i ∧ i < z ∧ F i = p0) ∨ (q = 0 ∧ ∀ i, 0 ≤ i → i < z → ¬ F i = p0))) ([.ref o, .int (iz p0)] : List Value).toArray s 0 0 (fun _ => False) = QQ
  refine lv_iconst (v := iz 0) hx hb dX1_has_0 (by decide) ?_
  refine lv_istore_n (lv' := [(2, .int (iz 0)), (0, .ref o), (1, .int (iz p0))]) hx hb dX1_has_1 rfl hl (by decide) rfl (fun ls hl => ?_)
  have lp2 : ∀ (n0 : Nat) (k : Int), ((0 ≤ k ∧ k ≤ z) ∧ (∀ i, 0 ≤ i → i < k → ¬ F i = p0)) → (z - k).toNat < n0 → ∀ (locs : List Loc), va_S (fun _ => False) s.heap s.heap locs → ∀ ls : Array Slot, lv_has ls 3 [(2, .int (iz k)), (0, .ref o), (1, .int (iz p0))] → W p l e (headSpec [.code yX1_has cX1_has 3 (some .boolean)] ({ frames := 1, cells := 0, slots := 0, locals := 21 })).room s m ([.ref o, .int (iz p0)] : List Value).toArray below meth c s.heap locs 0 0 QQ (F0 m 2 ls []) := by
    intro n0
    induction n0 with
    | zero => intro k hinv hm0; exact absurd hm0 (Nat.not_lt_zero _)
    | succ n0 ih2 =>
      intro k hinv hm0 locs hS ls hl
      obtain ⟨hk, hh⟩ := hinv
      refine lv_iload_n hx hb dX1_has_2 rfl (lv_at hl 0 rfl) ?_
      refine lv_aload_n hx hb dX1_has_3 rfl (lv_at hl 1 rfl) ?_
      refine va_get (D := (dC, dI)) (ci := 1) (v := .int (iz z)) (C := RX1) (T := TX1) (N := 3) hx hb hts kt_X1 hown hK hP 0 rfl rfl 2 (by decide) (kx_word hG kq_13_xints_0 rfl) (fun _ h9 => h9) rfl dX1_has_4 ?_
      refine ki_icmp_ge (tgt := 27) hx hb dX1_has_7 (by decide) (by omega) (by omega) (by omega) (by omega) (fun c_1 => ?_) (fun c_1 => ?_)
      · skip
        refine lv_iconst (v := iz 0) hx hb dX1_has_27 (by decide) ?_
        rw [← hQe]
        exact xp_iret (z := 0) hx hb hr (mz_bool (by omega)).1 hlocks rfl hS.2.2 dX1_has_28 (Or.inr ⟨rfl, fun i a b => hh i a (by omega)⟩)
      · skip
        refine lv_aload_n hx hb dX1_has_10 rfl (lv_at hl 1 rfl) ?_
        refine lv_iload_n hx hb dX1_has_11 rfl (lv_at hl 0 rfl) ?_
        have hPc := hP.sub (ws' := (iU cI L o r n z F)) [0, 1] rfl
        refine xk_pure (va_runV (As := [.int (iz k)]) (rest := []) ⟨hx, hb, hml, hown, hts⟩ (x_get l dC dI cI cB cE L o r n z F k s.heap.size hok hF (by omega) (by omega)) (cwV 1 hts (kx_gV kq_13_xints_3 kq_13_xints_4 kq_13_xints_5 kq_13_xints_6 kq_13_xints_7 rfl) rfl rfl rfl (by decide +kernel) ⟨Nat.le_of_ble_eq_true rfl, Nat.le_of_ble_eq_true rfl⟩) ⟨pPre_blind, va_recv hK hPc (ci := 1) (q0 := 0) rfl rfl, pPre_give hPc hK hG⟩ rfl rfl hl.1 rfl (lv_room (Nat.le_of_ble_eq_true rfl)) dX1_has_12 ⟨Nat.le_of_ble_eq_true rfl, Nat.le_of_ble_eq_true rfl⟩) hS (fun z_3 locs hq_2 hS => ?_)
        refine W.eq (g2 := F0 m 15 ls [.int (iz z_3)]) rfl ?_
        try dsimp only at hq_2
        refine lv_iload_n hx hb dX1_has_15 rfl (lv_at hl 2 rfl) ?_
        refine ki_icmp_ne (tgt := 21) hx hb dX1_has_16 (by decide) (by omega) (by omega) (by omega) (by omega) (fun c_4 => ?_) (fun c_4 => ?_)
        · skip
          refine lv_iinc (v := iz (k + 1)) (lv' := [(2, .int (iz (k + 1))), (0, .ref o), (1, .int (iz p0))]) hx hb dX1_has_21 hl (k := 0) rfl (iz_add k 1) (by decide) rfl (fun ls hl => ?_)
          refine lv_goto (tgt := 2) hx hb dX1_has_24 (by decide) ?_
          exact ih2 (k + 1) ⟨by omega, fun i a b => by by_cases c9 : i = k; (rw [c9]; omega); exact hh i a (by omega)⟩ (by omega) _ hS ls (lv_sub hl [0, 1, 2] rfl)
        · skip
          refine lv_iconst (v := iz 1) hx hb dX1_has_19 (by decide) ?_
          rw [← hQe]
          exact xp_iret (z := 1) hx hb hr (mz_bool (by omega)).1 hlocks rfl hS.2.2 dX1_has_20 (Or.inl ⟨rfl, k, by omega, by omega, by omega⟩)
  exact lp2 _ 0 ⟨by omega, fun i a b => absurd b (by omega)⟩ (Nat.lt_succ_self _) _ hS ls (lv_sub hl [0, 1, 2] rfl)
set_option maxHeartbeats 4000000 in
set_option maxRecDepth 100000 in
theorem y_see2 (l : Launch) (hlf : l.stackTraces = false) (dC : Nat → ClassId) (dI : Nat → Nat → Nat) (cI cB cE : ClassId) (o r n : Nat → Nat) (z : Nat → Int) (F : Nat → Int → Int) (G : Nat → Option Nat) (N : Nat) (Eo Er En : Nat → Nat → Nat) (Ez : Nat → Nat → Int) (EF : Nat → Nat → Int → Int) (p0 : Int) (p1 : Int) (sz : Nat) (hok : xOk n z F) (hxG : xG N (z 12) G Eo) (hPE : eA N En Ez EF) (hp01 : -2147483648 ≤ p0) (hp02 : p0 < 2147483648) (hp11 : -2147483648 ≤ p1) (hp12 : p1 < 2147483648) : vx_Met l yX5_see [.code yX5_see cX5_see 4 (some .int)] ({ frames := 8, cells := 150, slots := 46000, locals := 121 }) (va_Pc [.ref (o 15), .int (iz p0), .int (iz p1)] (kx_Pre dC dI (xU cI cB cE o r n z F G (Eo 0 0) ++ eP cI N Eo Er En Ez EF) (xT cI cB cE) sz)) (xQ (fun u : (Int) × (Nat → Nat) × (Nat → Nat) × (Nat → Int) × (Nat → Int → Int) × (Nat → Nat → Nat) × (Nat → Nat → Nat) × (Nat → Nat → Int) × (Nat → Nat → Int → Int) => match u with | (q, r', n', z', F', Er', En', Ez', EF') => some (.int (iz q))) (fun (u : (Int) × (Nat → Nat) × (Nat → Nat) × (Nat → Int) × (Nat → Int → Int) × (Nat → Nat → Nat) × (Nat → Nat → Nat) × (Nat → Nat → Int) × (Nat → Nat → Int → Int)) (dn dm : Nat) => match u with | (q, r', n', z', F', Er', En', Ez', EF') => xR [] [] [3] [3] N z F En Ez EF n' z' F' En' Ez' EF' ∧ (dn + xg n' ≤ xg n + 10 ∧ dm + xp n' ≤ xp n + 1700) ∧ ((q = 0 ∧ ¬ ((0 ≤ p0 ∧ p0 < z 12) ∧ (0 ≤ p1 ∧ p1 < z 12) ∧ Ez ((p0 + 1).toNat) 3 < 5 ∧ ¬ p0 = p1 ∧ ∀ i, 0 ≤ i → i < Ez ((p0 + 1).toNat) 3 → ¬ EF ((p0 + 1).toNat) 3 i = p1) ∧ ∀ j, Ez' j = Ez j ∧ EF' j = EF j) ∨ (q = 1 ∧ ((0 ≤ p0 ∧ p0 < z 12) ∧ (0 ≤ p1 ∧ p1 < z 12) ∧ Ez ((p0 + 1).toNat) 3 < 5 ∧ ¬ p0 = p1 ∧ ∀ i, 0 ≤ i → i < Ez ((p0 + 1).toNat) 3 → ¬ EF ((p0 + 1).toNat) 3 i = p1) ∧ iAdd 5 (Ez ((p0 + 1).toNat) 3) (EF ((p0 + 1).toNat) 3) (Ez' ((p0 + 1).toNat) 3) (EF' ((p0 + 1).toNat) 3) p1 ∧ (∀ j, j ≠ ((p0 + 1).toNat) → Ez' j = Ez j ∧ EF' j = EF j)))) (fun u t => kx_At dC dI (va_A (xU cI cB cE o r n z F G (Eo 0 0) ++ eP cI N Eo Er En Ez EF) sz) ((fun u : (Int) × (Nat → Nat) × (Nat → Nat) × (Nat → Int) × (Nat → Int → Int) × (Nat → Nat → Nat) × (Nat → Nat → Nat) × (Nat → Nat → Int) × (Nat → Nat → Int → Int) => match u with | (q, r', n', z', F', Er', En', Ez', EF') => (xU cI cB cE o r' n' z' F' G (Eo 0 0) ++ eP cI N Eo Er' En' Ez' EF')) u) (xT cI cB cE) t) (va_A (xU cI cB cE o r n z F G (Eo 0 0) ++ eP cI N Eo Er En Ez EF) sz)) (yX (fun E => (E = "java/util/NoSuchElementException" ∧ (¬ ((0 ≤ p0 ∧ p0 < z 12) ∧ (0 ≤ p1 ∧ p1 < z 12)))) ∨ (E = "java/lang/UnsupportedOperationException" ∧ ((0 ≤ p0 ∧ p0 < z 12) ∧ (0 ≤ p1 ∧ p1 < z 12) ∧ 5 ≤ Ez ((p0 + 1).toNat) 3))) 3 20 (fun t => ∃ u : (Nat → Nat) × (Nat → Nat) × (Nat → Int) × (Nat → Int → Int) × (Nat → Nat → Nat) × (Nat → Nat → Nat) × (Nat → Nat → Int) × (Nat → Nat → Int → Int), match u with | (r', n', z', F', Er', En', Ez', EF') => xR [] [] [] [] N z F En Ez EF n' z' F' En' Ez' EF' ∧ kx_At dC dI (va_A (xU cI cB cE o r n z F G (Eo 0 0) ++ eP cI N Eo Er En Ez EF) sz) (xU cI cB cE o r' n' z' F' G (Eo 0 0) ++ eP cI N Eo Er' En' Ez' EF') (xT cI cB cE) t) (va_A (xU cI cB cE o r n z F G (Eo 0 0) ++ eP cI N Eo Er En Ez EF) sz)) 150 46000 (va_A (xU cI cB cE o r n z F G (Eo 0 0) ++ eP cI N Eo Er En Ez EF) sz) := by
  refine vx_ofW (cc := cX5_see) (maxL := 4) (ret := (some .int)) (by decide) rfl ?_
  intro p e s m args below meth c s₁ B hml htab hv
  obtain ⟨rfl, hsz, hP, hK, hD0, hG, hZ⟩ := hv
  have hx := B.exec
  have hb := B.bytes
  have hr := B.returns
  have hts := kx_hts (a := ([.ref (o 15), .int (iz p0), .int (iz p1)] : List Value).toArray) hG
  have hown : s.vm.findClass RX5 = some m.cls := findClass_of_methodNamed B.named
  have hlocks := B.notSynchronized
  subst hsz
  have hD := hD0.self (sz := s.heap.size)
  generalize hAe : va_A (xU cI cB cE o r n z F G (Eo 0 0) ++ eP cI N Eo Er En Ez EF) s.heap.size = A at hD hZ ⊢
  have hA : ∀ q : Nat, s.heap.size ≤ q → A q := fun q h => by rw [← hAe]; exact Or.inr h
  have hS : va_S A s.heap s.heap [] := va_S.rf
  have hl := lv_entry ([.ref (o 15), .int (iz p0), .int (iz p1)]) (n := 4) (Nat.le_of_ble_eq_true rfl)
  rw [lg_entry_eq]
  generalize (lg_sl ([.ref (o 15), .int (iz p0), .int (iz p1)]) ++ List.replicate (4 - (lg_sl ([.ref (o 15), .int (iz p0), .int (iz p1)])).length) Slot.unset).toArray = ls at hl ⊢
  obtain ⟨hN1, hN2, hN3, hN4⟩ := hxG
  have hef : eFr [3] [3] En Ez EF En Ez EF := eFr.rf
  have hfr : xFr [] [] z F z F := xFr.rf
  have hxgl := xg_le n
  have hxpl := xp_le n
  have hl : lv_has ls 4 [(0, .ref (o 15)), (1, .int (iz p0)), (2, .int (iz p1))] := hl
  refine lv_aload_n hx hb dX5_see_0 rfl (lv_at hl 0 rfl) ?_
  refine lv_iload_n hx hb dX5_see_1 rfl (lv_at hl 1 rfl) ?_
  have hxz_1 : -2147483648 ≤ z 12 ∧ z 12 < 2147483648 := hok.2.2.2.1 12
  have hxG9 : xG N (z 12) G Eo := ⟨by omega, by omega, by omega, fun e9 h9 => hN4 e9 (by omega)⟩
  have hP : va_P (dC, dI) kxCl (xU cI cB cE o r n z F G (Eo 0 0) ++ eP cI N Eo Er En Ez EF) s.heap := hP
  have hD : va_D A (xU cI cB cE o r n z F G (Eo 0 0) ++ eP cI N Eo Er En Ez EF) := hD
  have hFc := xw_free hD hS hA
  refine yk_call (vx_runV (As := [.int (iz p0)]) (rest := []) ⟨hx, hb, hml, hown, hts⟩ (y_needEntry l hlf dC dI cI cB cE o r n z F G N Eo Er En Ez EF p0 s.heap.size hok hxG9 hPE (by omega) (by omega)) (cwV 1 hts (kx_gV kq_21_xcalls_10 kq_21_xcalls_11 kq_21_xcalls_12 kq_18_xrows_4 kq_21_xcalls_13 rfl) rfl rfl rfl (by decide +kernel) ⟨Nat.le_of_ble_eq_true rfl, Nat.le_of_ble_eq_true rfl⟩) ⟨kx_blind, va_recv hK hP (ci := 5) (q0 := 0) rfl rfl, kx_give (ws := []) (tys := []) hP hD hK hG hZ hS hFc⟩ rfl rfl hl.1 rfl (lv_room (Nat.le_of_ble_eq_true rfl)) dX5_see_2 ⟨show 0 + 1 ≤ 150 from (by omega), show 0 + 6 ≤ 46000 from (by omega)⟩) hS (fun q _ h => hFc q h) hFc (fun E ce q9 t H1 locs ht hvm hEx hBx hk1 hS hcell hcv hcl => ?_) (fun u dn_4 dm_5 t H locs ht hvm hq_2 hB hk1 hS => ?_)
  · skip
    exact ky_out (fun x hx => (htab x hx).elim) hlocks hcell hcv hcl (by obtain ⟨rfl, h9⟩ := hEx; exact Or.inl ⟨rfl, by first | trivial | omega⟩) (fun t9 ht9 hvm9 => by obtain ⟨⟨r8, n8, z8, F8, Er8, En8, Ez8, EF8⟩, hR8, hP8, hK8, hD8⟩ := hBx; exact ⟨(r8, n8, z8, F8, Er8, En8, Ez8, EF8), hR8, (by rw [ht9, ← ht]; exact hP8), va_K.moved hvm9 hK, hD8.weaken (fun _ q _ h => hFc _ h)⟩) hS hS.2.2 (by omega) (by omega) (by omega) (by omega)
  · skip
    obtain ⟨r_6, n_7, z_8, F_9, Er_10, En_11, Ez_12, EF_13⟩ := u
    obtain ⟨hP, hK1, hD1⟩ := hB
    rw [ht] at hP
    have hD := hD1.weaken (fun _ q _ h => hFc _ h)
    obtain ⟨hR14, hC14, hq_2⟩ := hq_2
    obtain ⟨rfl, rfl, rfl, rfl, rfl, rfl, rfl, hq_2⟩ := hq_2
    obtain ⟨rfl, hq_2⟩ := hq_2
    refine W.eq (g2 := F0 m 5 ls []) rfl ?_
    refine lv_aload_n hx hb dX5_see_5 rfl (lv_at hl 0 rfl) ?_
    refine lv_iload_n hx hb dX5_see_6 rfl (lv_at hl 2 rfl) ?_
    have hxG9 : xG N (z 12) G Eo := ⟨by omega, by omega, by omega, fun e9 h9 => hN4 e9 (by omega)⟩
    have hP : va_P (dC, dI) kxCl (xU cI cB cE o r n z F G (Eo 0 0) ++ eP cI N Eo Er En Ez EF) H := hP
    have hD : va_D A (xU cI cB cE o r n z F G (Eo 0 0) ++ eP cI N Eo Er En Ez EF) := hD
    have hFc := xw_free hD hS hA
    refine yk_call (vx_runV (As := [.int (iz p1)]) (rest := []) ⟨hx, hb, hml, hown, hts⟩ (y_needEntry l hlf dC dI cI cB cE o r n z F G N Eo Er En Ez EF p1 H.size hok hxG9 hPE (by omega) (by omega)) (cwV 1 hts (kx_gV kq_21_xcalls_10 kq_21_xcalls_11 kq_21_xcalls_12 kq_18_xrows_4 kq_21_xcalls_13 rfl) rfl rfl rfl (by decide +kernel) ⟨Nat.le_of_ble_eq_true rfl, Nat.le_of_ble_eq_true rfl⟩) ⟨kx_blind, va_recv hK hP (ci := 5) (q0 := 0) rfl rfl, kx_give (ws := []) (tys := []) hP hD hK hG hZ hS hFc⟩ rfl rfl hl.1 rfl (lv_room (Nat.le_of_ble_eq_true rfl)) dX5_see_7 ⟨show (0 + dn_4) + 1 ≤ 150 from (by omega), show (0 + dm_5) + 6 ≤ 46000 from (by omega)⟩) hS (fun q _ h => hFc q h) hFc (fun E ce q9 t H1 locs ht hvm hEx hBx hk1 hS hcell hcv hcl => ?_) (fun u dn_17 dm_18 t H locs ht hvm hq_15 hB hk1 hS => ?_)
    · skip
      exact ky_out (fun x hx => (htab x hx).elim) hlocks hcell hcv hcl (by obtain ⟨rfl, h9⟩ := hEx; exact Or.inl ⟨rfl, by first | trivial | omega⟩) (fun t9 ht9 hvm9 => by obtain ⟨⟨r8, n8, z8, F8, Er8, En8, Ez8, EF8⟩, hR8, hP8, hK8, hD8⟩ := hBx; exact ⟨(r8, n8, z8, F8, Er8, En8, Ez8, EF8), hR8, (by rw [ht9, ← ht]; exact hP8), va_K.moved hvm9 hK, hD8.weaken (fun _ q _ h => hFc _ h)⟩) hS hS.2.2 (by omega) (by omega) (by omega) (by omega)
    · skip
      obtain ⟨r_19, n_20, z_21, F_22, Er_23, En_24, Ez_25, EF_26⟩ := u
      obtain ⟨hP, hK1, hD1⟩ := hB
      rw [ht] at hP
      have hD := hD1.weaken (fun _ q _ h => hFc _ h)
      obtain ⟨hR27, hC27, hq_15⟩ := hq_15
      obtain ⟨rfl, rfl, rfl, rfl, rfl, rfl, rfl, hq_15⟩ := hq_15
      obtain ⟨rfl, hq_15⟩ := hq_15
      refine W.eq (g2 := F0 m 10 ls []) rfl ?_
      refine lv_aload_n hx hb dX5_see_10 rfl (lv_at hl 0 rfl) ?_
      refine lv_iload_n hx hb dX5_see_11 rfl (lv_at hl 1 rfl) ?_
      have hxG9 : xG N (z 12) G Eo := ⟨by omega, by omega, by omega, fun e9 h9 => hN4 e9 (by omega)⟩
      have hP : va_P (dC, dI) kxCl (xU cI cB cE o r n z F G (Eo 0 0) ++ eP cI N Eo Er En Ez EF) H := hP
      refine xk_pure (va_runV (As := [.int (iz p0)]) (rest := []) ⟨hx, hb, hml, hown, hts⟩ (y_known l dC dI cI cB cE o r n z F G N Eo Er En Ez EF p0 H.size hok hxG9 hPE (by omega) (by omega)) (cwV 1 hts (kx_gV kq_18_xrows_8 kq_18_xrows_9 kq_18_xrows_10 kq_18_xrows_4 kq_18_xrows_11 rfl) rfl rfl rfl (by decide +kernel) ⟨Nat.le_of_ble_eq_true rfl, Nat.le_of_ble_eq_true rfl⟩) ⟨pPre_blind, va_recv hK hP (ci := 5) (q0 := 0) rfl rfl, pPre_give hP hK hG⟩ rfl rfl hl.1 rfl (lv_room (Nat.le_of_ble_eq_true rfl)) dX5_see_12 ⟨show ((0 + dn_4) + dn_17) + 0 ≤ 150 from (by omega), show ((0 + dm_5) + dm_18) + 0 ≤ 46000 from (by omega)⟩) hS (fun z_29 locs hq_28 hS => ?_)
      refine W.eq (g2 := F0 m 15 ls [.ref z_29.toNat]) rfl ?_
      try dsimp only at hq_28
      obtain ⟨j30, hj30, ez30, hje30⟩ := hq_28
      subst ez30
      refine W.eq (g2 := F0 m 15 ls [.ref (Eo j30 0)]) rfl ?_
      have ej30 : j30 = (p0 + 1).toNat := by omega
      subst ej30
      have hP := eP_foc hj30 hP
      have hD := eD_foc hj30 hD
      refine va_getN (D := (dC, dI)) (ci := 0) (v := .ref (Eo ((p0 + 1).toNat) 4)) (C := RX0) (T := TX0) (N := 12) hx hb hts kt_X0 hown hK hP 29 rfl rfl 6 (by decide) (va_Nw.use rfl (kx_nf hG kq_19_xouts_32)) (fun _ h9 => h9) rfl dX5_see_15 ?_
      refine lv_astore_n (lv' := [(3, .ref (Eo ((p0 + 1).toNat) 4)), (0, .ref (o 15)), (1, .int (iz p0)), (2, .int (iz p1))]) hx hb dX5_see_18 rfl hl (by decide) rfl (fun ls hl => ?_)
      refine lv_aload_n hx hb dX5_see_19 rfl (lv_at hl 0 rfl) ?_
      have he_31 : 0 ≤ Ez ((p0 + 1).toNat) 3 ∧ Ez ((p0 + 1).toNat) 3 ≤ ((En ((p0 + 1).toNat) 3 : Nat) : Int) ∧ ((En ((p0 + 1).toNat) 3 : Nat) : Int) ≤ 5 := (hPE ((p0 + 1).toNat) hj30).1 3 (by decide)
      have hPc := hP.sub (ws' := (iU cI 5 (Eo ((p0 + 1).toNat) 4) (Er ((p0 + 1).toNat) 3) (En ((p0 + 1).toNat) 3) (Ez ((p0 + 1).toNat) 3) (EF ((p0 + 1).toNat) 3))) [36, 37] rfl
      refine xk_pure (va_runV (As := []) (rest := []) ⟨hx, hb, hml, hown, hts⟩ (x_isFull l dC dI cI cB cE 5 (Eo ((p0 + 1).toNat) 4) (Er ((p0 + 1).toNat) 3) (En ((p0 + 1).toNat) 3) (Ez ((p0 + 1).toNat) 3) (EF ((p0 + 1).toNat) 3)  H.size (by omega)) (cwV 0 hts (kx_gV kq_21_xcalls_1 kq_15_xspan_35 kq_15_xspan_36 kq_13_xints_6 kq_15_xspan_37 rfl) rfl rfl rfl (by decide +kernel) ⟨Nat.le_of_ble_eq_true rfl, Nat.le_of_ble_eq_true rfl⟩) ⟨pPre_blind, va_recv hK hPc (ci := 1) (q0 := 0) rfl rfl, pPre_give hPc hK hG⟩ rfl rfl hl.1 rfl (lv_room (Nat.le_of_ble_eq_true rfl)) dX5_see_20 ⟨show ((0 + dn_4) + dn_17) + 0 ≤ 150 from (by omega), show ((0 + dm_5) + dm_18) + 0 ≤ 46000 from (by omega)⟩) hS (fun z_33 locs hq_32 hS => ?_)
      refine W.eq (g2 := F0 m 23 ls [.int (iz z_33)]) rfl ?_
      try dsimp only at hq_32
      rcases hq_32 with ⟨rfl, hq_32⟩ | ⟨rfl, hq_32⟩
      · skip
        refine ki_if_eq (tgt := 34) hx hb dX5_see_23 (by decide) (by omega) (by omega) (fun c_34 => ?_) (fun c_34 => ?_)
        · omega
        · skip
          have hP := eP_un0 hj30 hP
          have hD := eD_un0 hj30 hD
          exact ky_thr_UOE hx hb hlf hown hG hZ hS (hl.1.trans hml.symm) dX5_see_26 dX5_see_29 dX5_see_30 dX5_see_33 htab (Nat.le_of_ble_eq_true rfl) (Nat.le_of_ble_eq_true rfl) (show ((0 + dn_4) + dn_17) + 1 ≤ 150 from (by omega)) (show ((0 + dm_5) + dm_18) + 6 ≤ 46000 from (by omega)) hlocks (Or.inr (⟨rfl, by first | trivial | omega⟩)) (fun t hvm h1 h2 => ⟨(r, n, z, F, Er, En, Ez, EF), ⟨hok, xFr.rf, hPE, eFr.rf⟩, hP.kept (fun k q hk => h2 q.1 (hP k q hk).lt), va_K.moved hvm hK, hD⟩) hS.2.2 (by omega) (by omega) (by omega) (by omega)
      · skip
        refine ki_if_eq (tgt := 34) hx hb dX5_see_23 (by decide) (by omega) (by omega) (fun c_35 => ?_) (fun c_35 => ?_)
        · skip
          refine lv_iload_n hx hb dX5_see_34 rfl (lv_at hl 2 rfl) ?_
          refine lv_iload_n hx hb dX5_see_35 rfl (lv_at hl 3 rfl) ?_
          refine ki_icmp_eq (tgt := 47) hx hb dX5_see_36 (by decide) (by omega) (by omega) (by omega) (by omega) (fun c_36 => ?_) (fun c_36 => ?_)
          · skip
            refine lv_iconst (v := iz 0) hx hb dX5_see_47 (by decide) ?_
            have hP := eP_un0 hj30 hP
            have hD := eD_un0 hj30 hD
            refine vx_ret ?_
            exact xk_iret (ov := (fun u : (Int) × (Nat → Nat) × (Nat → Nat) × (Nat → Int) × (Nat → Int → Int) × (Nat → Nat → Nat) × (Nat → Nat → Nat) × (Nat → Nat → Int) × (Nat → Nat → Int → Int) => match u with | (q, r', n', z', F', Er', En', Ez', EF') => some (.int (iz q)))) (post := (fun (u : (Int) × (Nat → Nat) × (Nat → Nat) × (Nat → Int) × (Nat → Int → Int) × (Nat → Nat → Nat) × (Nat → Nat → Nat) × (Nat → Nat → Int) × (Nat → Nat → Int → Int)) (dn dm : Nat) => match u with | (q, r', n', z', F', Er', En', Ez', EF') => xR [] [] [3] [3] N z F En Ez EF n' z' F' En' Ez' EF' ∧ (dn + xg n' ≤ xg n + 10 ∧ dm + xp n' ≤ xp n + 1700) ∧ ((q = 0 ∧ ¬ ((0 ≤ p0 ∧ p0 < z 12) ∧ (0 ≤ p1 ∧ p1 < z 12) ∧ Ez ((p0 + 1).toNat) 3 < 5 ∧ ¬ p0 = p1 ∧ ∀ i, 0 ≤ i → i < Ez ((p0 + 1).toNat) 3 → ¬ EF ((p0 + 1).toNat) 3 i = p1) ∧ ∀ j, Ez' j = Ez j ∧ EF' j = EF j) ∨ (q = 1 ∧ ((0 ≤ p0 ∧ p0 < z 12) ∧ (0 ≤ p1 ∧ p1 < z 12) ∧ Ez ((p0 + 1).toNat) 3 < 5 ∧ ¬ p0 = p1 ∧ ∀ i, 0 ≤ i → i < Ez ((p0 + 1).toNat) 3 → ¬ EF ((p0 + 1).toNat) 3 i = p1) ∧ iAdd 5 (Ez ((p0 + 1).toNat) 3) (EF ((p0 + 1).toNat) 3) (Ez' ((p0 + 1).toNat) 3) (EF' ((p0 + 1).toNat) 3) p1 ∧ (∀ j, j ≠ ((p0 + 1).toNat) → Ez' j = Ez j ∧ EF' j = EF j))))) (ws := (fun u : (Int) × (Nat → Nat) × (Nat → Nat) × (Nat → Int) × (Nat → Int → Int) × (Nat → Nat → Nat) × (Nat → Nat → Nat) × (Nat → Nat → Int) × (Nat → Nat → Int → Int) => match u with | (q, r', n', z', F', Er', En', Ez', EF') => (xU cI cB cE o r' n' z' F' G (Eo 0 0) ++ eP cI N Eo Er' En' Ez' EF'))) (tys := xT cI cB cE) (z := 0) (0, r, n, z, F, Er, En, Ez, EF) hx hb hr rfl hlocks rfl hP hD hK hS dX5_see_48 (fun dn dm hdn hdm => ⟨⟨hok, hfr, hPE, hef⟩, ⟨by omega, by omega⟩, Or.inl ⟨rfl, fun h9 => h9.2.2.2.1 (by omega), fun j => ⟨rfl, rfl⟩⟩⟩) (by omega) (by omega)
          · skip
            refine lv_aload_n hx hb dX5_see_39 rfl (lv_at hl 0 rfl) ?_
            refine lv_iload_n hx hb dX5_see_40 rfl (lv_at hl 3 rfl) ?_
            have hPc := hP.sub (ws' := (iU cI 5 (Eo ((p0 + 1).toNat) 4) (Er ((p0 + 1).toNat) 3) (En ((p0 + 1).toNat) 3) (Ez ((p0 + 1).toNat) 3) (EF ((p0 + 1).toNat) 3))) [36, 37] rfl
            refine xk_pure (va_runV (As := [.int (iz p1)]) (rest := []) ⟨hx, hb, hml, hown, hts⟩ (x_has2 l dC dI cI cB cE 5 (Eo ((p0 + 1).toNat) 4) (Er ((p0 + 1).toNat) 3) (En ((p0 + 1).toNat) 3) (Ez ((p0 + 1).toNat) 3) (EF ((p0 + 1).toNat) 3) p1 H.size (by omega) ((hPE ((p0 + 1).toNat) hj30).2.1 3) (by omega) (by omega)) (cwV 1 hts (kx_gV kq_19_xouts_28 kq_19_xouts_29 kq_19_xouts_30 kq_13_xints_6 kq_19_xouts_31 rfl) rfl rfl rfl (by decide +kernel) ⟨Nat.le_of_ble_eq_true rfl, Nat.le_of_ble_eq_true rfl⟩) ⟨pPre_blind, va_recv hK hPc (ci := 1) (q0 := 0) rfl rfl, pPre_give hPc hK hG⟩ rfl rfl hl.1 rfl (lv_room (Nat.le_of_ble_eq_true rfl)) dX5_see_41 ⟨show ((0 + dn_4) + dn_17) + 0 ≤ 150 from (by omega), show ((0 + dm_5) + dm_18) + 0 ≤ 46000 from (by omega)⟩) hS (fun z_38 locs hq_37 hS => ?_)
            refine W.eq (g2 := F0 m 44 ls [.int (iz z_38)]) rfl ?_
            try dsimp only at hq_37
            rcases hq_37 with ⟨rfl, hq_37⟩ | ⟨rfl, hq_37⟩
            · skip
              refine ki_if_eq (tgt := 49) hx hb dX5_see_44 (by decide) (by omega) (by omega) (fun c_39 => ?_) (fun c_39 => ?_)
              · omega
              · skip
                refine lv_iconst (v := iz 0) hx hb dX5_see_47 (by decide) ?_
                have hP := eP_un0 hj30 hP
                have hD := eD_un0 hj30 hD
                refine vx_ret ?_
                exact xk_iret (ov := (fun u : (Int) × (Nat → Nat) × (Nat → Nat) × (Nat → Int) × (Nat → Int → Int) × (Nat → Nat → Nat) × (Nat → Nat → Nat) × (Nat → Nat → Int) × (Nat → Nat → Int → Int) => match u with | (q, r', n', z', F', Er', En', Ez', EF') => some (.int (iz q)))) (post := (fun (u : (Int) × (Nat → Nat) × (Nat → Nat) × (Nat → Int) × (Nat → Int → Int) × (Nat → Nat → Nat) × (Nat → Nat → Nat) × (Nat → Nat → Int) × (Nat → Nat → Int → Int)) (dn dm : Nat) => match u with | (q, r', n', z', F', Er', En', Ez', EF') => xR [] [] [3] [3] N z F En Ez EF n' z' F' En' Ez' EF' ∧ (dn + xg n' ≤ xg n + 10 ∧ dm + xp n' ≤ xp n + 1700) ∧ ((q = 0 ∧ ¬ ((0 ≤ p0 ∧ p0 < z 12) ∧ (0 ≤ p1 ∧ p1 < z 12) ∧ Ez ((p0 + 1).toNat) 3 < 5 ∧ ¬ p0 = p1 ∧ ∀ i, 0 ≤ i → i < Ez ((p0 + 1).toNat) 3 → ¬ EF ((p0 + 1).toNat) 3 i = p1) ∧ ∀ j, Ez' j = Ez j ∧ EF' j = EF j) ∨ (q = 1 ∧ ((0 ≤ p0 ∧ p0 < z 12) ∧ (0 ≤ p1 ∧ p1 < z 12) ∧ Ez ((p0 + 1).toNat) 3 < 5 ∧ ¬ p0 = p1 ∧ ∀ i, 0 ≤ i → i < Ez ((p0 + 1).toNat) 3 → ¬ EF ((p0 + 1).toNat) 3 i = p1) ∧ iAdd 5 (Ez ((p0 + 1).toNat) 3) (EF ((p0 + 1).toNat) 3) (Ez' ((p0 + 1).toNat) 3) (EF' ((p0 + 1).toNat) 3) p1 ∧ (∀ j, j ≠ ((p0 + 1).toNat) → Ez' j = Ez j ∧ EF' j = EF j))))) (ws := (fun u : (Int) × (Nat → Nat) × (Nat → Nat) × (Nat → Int) × (Nat → Int → Int) × (Nat → Nat → Nat) × (Nat → Nat → Nat) × (Nat → Nat → Int) × (Nat → Nat → Int → Int) => match u with | (q, r', n', z', F', Er', En', Ez', EF') => (xU cI cB cE o r' n' z' F' G (Eo 0 0) ++ eP cI N Eo Er' En' Ez' EF'))) (tys := xT cI cB cE) (z := 0) (0, r, n, z, F, Er, En, Ez, EF) hx hb hr rfl hlocks rfl hP hD hK hS dX5_see_48 (fun dn dm hdn hdm => ⟨⟨hok, hfr, hPE, hef⟩, ⟨by omega, by omega⟩, Or.inl ⟨rfl, fun h9 => by obtain ⟨i, a, b, c⟩ := hq_37; exact h9.2.2.2.2 i a b c, fun j => ⟨rfl, rfl⟩⟩⟩) (by omega) (by omega)
            · skip
              refine ki_if_eq (tgt := 49) hx hb dX5_see_44 (by decide) (by omega) (by omega) (fun c_40 => ?_) (fun c_40 => ?_)
              · skip
                refine lv_aload_n hx hb dX5_see_49 rfl (lv_at hl 0 rfl) ?_
                refine lv_iload_n hx hb dX5_see_50 rfl (lv_at hl 3 rfl) ?_
                have hPc := hP.sub (ws' := (iU cI 5 (Eo ((p0 + 1).toNat) 4) (Er ((p0 + 1).toNat) 3) (En ((p0 + 1).toNat) 3) (Ez ((p0 + 1).toNat) 3) (EF ((p0 + 1).toNat) 3))) [36, 37] rfl
                have hDc := hD.sub (ws' := (iU cI 5 (Eo ((p0 + 1).toNat) 4) (Er ((p0 + 1).toNat) 3) (En ((p0 + 1).toNat) 3) (Ez ((p0 + 1).toNat) 3) (EF ((p0 + 1).toNat) 3))) [36, 37] (by decide) rfl
                have hFc := va_free (wc := (iU cI 5 (Eo ((p0 + 1).toNat) 4) (Er ((p0 + 1).toNat) 3) (En ((p0 + 1).toNat) 3) (Ez ((p0 + 1).toNat) 3) (EF ((p0 + 1).toNat) 3))) hD hS hA [36, 37] rfl
                refine xk_call (va_runV (As := [.int (iz p1)]) (rest := []) ⟨hx, hb, hml, hown, hts⟩ (x_add l dC dI cI cB cE 5 (Eo ((p0 + 1).toNat) 4) (Er ((p0 + 1).toNat) 3) (En ((p0 + 1).toNat) 3) (Ez ((p0 + 1).toNat) 3) (EF ((p0 + 1).toNat) 3) p1 H.size (by omega) ((hPE ((p0 + 1).toNat) hj30).2.1 3) (by omega) (by omega)) (cwV 1 hts (kx_gV kq_18_xrows_39 kq_15_xspan_46 kq_15_xspan_47 kq_13_xints_6 kq_15_xspan_48 rfl) rfl rfl rfl (by decide +kernel) ⟨Nat.le_of_ble_eq_true rfl, Nat.le_of_ble_eq_true rfl⟩) ⟨kx_blind, va_recv hK hPc (ci := 1) (q0 := 0) rfl rfl, kx_give (ws := []) (tys := []) hPc hDc hK hG hZ hS hFc⟩ rfl rfl hl.1 rfl (lv_room (Nat.le_of_ble_eq_true rfl)) dX5_see_51 ⟨show ((0 + dn_4) + dn_17) + 1 ≤ 150 from (by omega), show ((0 + dm_5) + dm_18) + 1600 ≤ 46000 from (by omega)⟩) hS (fun q _ h => hFc q h) hFc (fun u dn_42 dm_43 t H locs ht hvm hq_41 hB hk1 hS => ?_)
                obtain ⟨r_44, n_45, z_46, F_47⟩ := u
                obtain ⟨hP1, hK1, hD1⟩ := hB
                rw [ht] at hP1
                obtain ⟨hP, hD⟩ := xj_pool (wr := [(o 15, .inr (5, [.ref (o 16), .ref (Eo 0 0), .int (iz (z 12)), .int (iz (z 13)), .int (iz (z 14)), .ref (o 0), .ref (o 1), .int (iz (z 15)), .ref (o 13), .ref (o 14), .int (iz (z 16)), .ref (o 2), .ref (o 12), .ref (o 3), .ref (o 10), .ref (o 11)])), (o 16, .inl (cE, 80, .inr (.inr (.inr (.inr G))))), (o 0, .inr (1, [.int (iz 80), .ref (r 0), .int (iz (z 0))])), (r 0, .inl (cI, n 0, .inl (iA (F 0)))), (o 1, .inr (1, [.int (iz 80), .ref (r 1), .int (iz (z 1))])), (r 1, .inl (cI, n 1, .inl (iA (F 1)))), (o 2, .inr (1, [.int (iz 80), .ref (r 2), .int (iz (z 2))])), (r 2, .inl (cI, n 2, .inl (iA (F 2)))), (o 3, .inr (1, [.int (iz 80), .ref (r 3), .int (iz (z 3))])), (r 3, .inl (cI, n 3, .inl (iA (F 3)))), (o 13, .inr (3, [.ref (o 4), .ref (o 5), .ref (o 6)])), (o 4, .inr (1, [.int (iz 1600), .ref (r 4), .int (iz (z 4))])), (r 4, .inl (cI, n 4, .inl (iA (F 4)))), (o 5, .inr (1, [.int (iz 1600), .ref (r 5), .int (iz (z 5))])), (r 5, .inl (cI, n 5, .inl (iA (F 5)))), (o 6, .inr (1, [.int (iz 1600), .ref (r 6), .int (iz (z 6))])), (r 6, .inl (cI, n 6, .inl (iA (F 6)))), (o 14, .inr (3, [.ref (o 7), .ref (o 8), .ref (o 9)])), (o 7, .inr (1, [.int (iz 1600), .ref (r 7), .int (iz (z 7))])), (r 7, .inl (cI, n 7, .inl (iA (F 7)))), (o 8, .inr (1, [.int (iz 1600), .ref (r 8), .int (iz (z 8))])), (r 8, .inl (cI, n 8, .inl (iA (F 8)))), (o 9, .inr (1, [.int (iz 1600), .ref (r 9), .int (iz (z 9))])), (r 9, .inl (cI, n 9, .inl (iA (F 9)))), (o 12, .inr (4, [.int (iz (z 17)), .int (iz (z 18)), .int (iz (z 19)), .int (iz (z 20)), .int (iz (z 21))])), (o 10, .inr (2, [.ref (r 10), .int (iz (z 10)), .int (iz (z 22))])), (r 10, .inl (cB, n 10, .inl (iA (F 10)))), (o 11, .inr (2, [.ref (r 11), .int (iz (z 11)), .int (iz (z 23))])), (r 11, .inl (cB, n 11, .inl (iA (F 11)))), (Eo ((p0 + 1).toNat) 0, .inr (0, [.int (iz (Ez ((p0 + 1).toNat) 7)), .int (iz (Ez ((p0 + 1).toNat) 8)), .ref (Eo ((p0 + 1).toNat) 1), .ref (Eo ((p0 + 1).toNat) 2), .ref (Eo ((p0 + 1).toNat) 3), .ref (Eo ((p0 + 1).toNat) 5), .ref (Eo ((p0 + 1).toNat) 4), .int (iz (Ez ((p0 + 1).toNat) 9)), .int (iz (Ez ((p0 + 1).toNat) 10)), .int (iz (Ez ((p0 + 1).toNat) 11)), .int (iz (Ez ((p0 + 1).toNat) 12)), .int (iz (Ez ((p0 + 1).toNat) 13))])), (Eo ((p0 + 1).toNat) 1, .inr (1, [.int (iz 20), .ref (Er ((p0 + 1).toNat) 0), .int (iz (Ez ((p0 + 1).toNat) 0))])), (Er ((p0 + 1).toNat) 0, .inl (cI, En ((p0 + 1).toNat) 0, .inl (iA (EF ((p0 + 1).toNat) 0)))), (Eo ((p0 + 1).toNat) 2, .inr (1, [.int (iz 20), .ref (Er ((p0 + 1).toNat) 1), .int (iz (Ez ((p0 + 1).toNat) 1))])), (Er ((p0 + 1).toNat) 1, .inl (cI, En ((p0 + 1).toNat) 1, .inl (iA (EF ((p0 + 1).toNat) 1)))), (Eo ((p0 + 1).toNat) 3, .inr (1, [.int (iz 40), .ref (Er ((p0 + 1).toNat) 2), .int (iz (Ez ((p0 + 1).toNat) 2))])), (Er ((p0 + 1).toNat) 2, .inl (cI, En ((p0 + 1).toNat) 2, .inl (iA (EF ((p0 + 1).toNat) 2)))), (Eo ((p0 + 1).toNat) 5, .inr (3, [.ref (Eo ((p0 + 1).toNat) 6), .ref (Eo ((p0 + 1).toNat) 7), .ref (Eo ((p0 + 1).toNat) 8)])), (Eo ((p0 + 1).toNat) 6, .inr (1, [.int (iz 20), .ref (Er ((p0 + 1).toNat) 4), .int (iz (Ez ((p0 + 1).toNat) 4))])), (Er ((p0 + 1).toNat) 4, .inl (cI, En ((p0 + 1).toNat) 4, .inl (iA (EF ((p0 + 1).toNat) 4)))), (Eo ((p0 + 1).toNat) 7, .inr (1, [.int (iz 20), .ref (Er ((p0 + 1).toNat) 5), .int (iz (Ez ((p0 + 1).toNat) 5))])), (Er ((p0 + 1).toNat) 5, .inl (cI, En ((p0 + 1).toNat) 5, .inl (iA (EF ((p0 + 1).toNat) 5)))), (Eo ((p0 + 1).toNat) 8, .inr (1, [.int (iz 20), .ref (Er ((p0 + 1).toNat) 6), .int (iz (Ez ((p0 + 1).toNat) 6))])), (Er ((p0 + 1).toNat) 6, .inl (cI, En ((p0 + 1).toNat) 6, .inl (iA (EF ((p0 + 1).toNat) 6))))]) (w1 := (iU cI 5 (Eo ((p0 + 1).toNat) 4) r_44 n_45 z_46 F_47)) (ws' := ((xU cI cB cE o r n z F G (Eo 0 0)) ++ (eU cI (Eo ((p0 + 1).toNat)) (va_up (Er ((p0 + 1).toNat)) 3 r_44) (va_up (En ((p0 + 1).toNat)) 3 n_45) (va_up (Ez ((p0 + 1).toNat)) 3 z_46) (va_up (EF ((p0 + 1).toNat)) 3 F_47)))) hP hD [36, 37] [0, 1, 2, 3, 4, 5, 6, 7, 8, 9, 10, 11, 12, 13, 14, 15, 16, 17, 18, 19, 20, 21, 22, 23, 24, 25, 26, 27, 28, 29, 30, 31, 32, 33, 34, 35, 38, 39, 40, 41, 42, 43, 44] [0, 1, 2, 3, 4, 5, 6, 7, 8, 9, 10, 11, 12, 13, 14, 15, 16, 17, 18, 19, 20, 21, 22, 23, 24, 25, 26, 27, 28, 29, 30, 31, 32, 33, 34, 35, 43, 44, 36, 37, 38, 39, 40, 41, 42] rfl rfl (by decide) (by decide) hk1 hFc hP1 hD1 rfl (by decide)
                refine W.eq (g2 := F0 m 54 ls []) rfl ?_
                try dsimp only at hq_41
                obtain ⟨ha48, hb48, hc48, hd48⟩ := hq_41
                have hax48 := hd48.1
                refine lv_iconst (v := iz 1) hx hb dX5_see_54 (by decide) ?_
                have hP : va_P (dC, dI) kxCl (((xU cI cB cE o r n z F G (Eo 0 0)) ++ (eU cI (Eo ((p0 + 1).toNat)) (va_up (Er ((p0 + 1).toNat)) 3 r_44) (va_up (En ((p0 + 1).toNat)) 3 n_45) (va_up (Ez ((p0 + 1).toNat)) 3 z_46) (va_up (EF ((p0 + 1).toNat)) 3 F_47))) ++ (eR cI N ((p0 + 1).toNat) Eo Er En Ez EF)) H := hP
                have hD : va_D A (((xU cI cB cE o r n z F G (Eo 0 0)) ++ (eU cI (Eo ((p0 + 1).toNat)) (va_up (Er ((p0 + 1).toNat)) 3 r_44) (va_up (En ((p0 + 1).toNat)) 3 n_45) (va_up (Ez ((p0 + 1).toNat)) 3 z_46) (va_up (EF ((p0 + 1).toNat)) 3 F_47))) ++ (eR cI N ((p0 + 1).toNat) Eo Er En Ez EF)) := hD
                have hP := eP_unf hj30 hP
                have hD := eD_unf hj30 hD
                have hPE49 := hPE.up ((p0 + 1).toNat) ((hPE ((p0 + 1).toNat) hj30).i 3 (by decide) (show 0 ≤ z_46 ∧ z_46 ≤ ((n_45 : Nat) : Int) ∧ ((n_45 : Nat) : Int) ≤ 5 by omega) hb48 (by omega))
                have hef49 := hef.up ((p0 + 1).toNat) (z := (va_up (Ez ((p0 + 1).toNat)) 3 z_46)) (n := (va_up (En ((p0 + 1).toNat)) 3 n_45)) (F := (va_up (EF ((p0 + 1).toNat)) 3 F_47)) (fun k hk => (vfr hk _ (by decide) rfl)) (fun k hk => ⟨(vfr hk _ (by decide) rfl), (vfr hk _ (by decide) rfl)⟩)
                generalize eEr49 : va_up Er ((p0 + 1).toNat) (va_up (Er ((p0 + 1).toNat)) 3 r_44) = Er49 at hP hD
                generalize eEn49 : va_up En ((p0 + 1).toNat) (va_up (En ((p0 + 1).toNat)) 3 n_45) = En49 at hP hD hPE49 hef49
                generalize eEz49 : va_up Ez ((p0 + 1).toNat) (va_up (Ez ((p0 + 1).toNat)) 3 z_46) = Ez49 at hP hD hPE49 hef49
                generalize eEF49 : va_up EF ((p0 + 1).toNat) (va_up (EF ((p0 + 1).toNat)) 3 F_47) = EF49 at hP hD hPE49 hef49
                have hcl49_3 : Ez49 ((p0 + 1).toNat) 3 = z_46 := by rw [← eEz49]; simp (decide := true) only [va_ev, ↓reduceIte]
                have hcF49_3 : EF49 ((p0 + 1).toNat) 3 = F_47 := by rw [← eEF49]; simp (decide := true) only [va_ev, ↓reduceIte]
                refine vx_ret ?_
                exact xk_iret (ov := (fun u : (Int) × (Nat → Nat) × (Nat → Nat) × (Nat → Int) × (Nat → Int → Int) × (Nat → Nat → Nat) × (Nat → Nat → Nat) × (Nat → Nat → Int) × (Nat → Nat → Int → Int) => match u with | (q, r', n', z', F', Er', En', Ez', EF') => some (.int (iz q)))) (post := (fun (u : (Int) × (Nat → Nat) × (Nat → Nat) × (Nat → Int) × (Nat → Int → Int) × (Nat → Nat → Nat) × (Nat → Nat → Nat) × (Nat → Nat → Int) × (Nat → Nat → Int → Int)) (dn dm : Nat) => match u with | (q, r', n', z', F', Er', En', Ez', EF') => xR [] [] [3] [3] N z F En Ez EF n' z' F' En' Ez' EF' ∧ (dn + xg n' ≤ xg n + 10 ∧ dm + xp n' ≤ xp n + 1700) ∧ ((q = 0 ∧ ¬ ((0 ≤ p0 ∧ p0 < z 12) ∧ (0 ≤ p1 ∧ p1 < z 12) ∧ Ez ((p0 + 1).toNat) 3 < 5 ∧ ¬ p0 = p1 ∧ ∀ i, 0 ≤ i → i < Ez ((p0 + 1).toNat) 3 → ¬ EF ((p0 + 1).toNat) 3 i = p1) ∧ ∀ j, Ez' j = Ez j ∧ EF' j = EF j) ∨ (q = 1 ∧ ((0 ≤ p0 ∧ p0 < z 12) ∧ (0 ≤ p1 ∧ p1 < z 12) ∧ Ez ((p0 + 1).toNat) 3 < 5 ∧ ¬ p0 = p1 ∧ ∀ i, 0 ≤ i → i < Ez ((p0 + 1).toNat) 3 → ¬ EF ((p0 + 1).toNat) 3 i = p1) ∧ iAdd 5 (Ez ((p0 + 1).toNat) 3) (EF ((p0 + 1).toNat) 3) (Ez' ((p0 + 1).toNat) 3) (EF' ((p0 + 1).toNat) 3) p1 ∧ (∀ j, j ≠ ((p0 + 1).toNat) → Ez' j = Ez j ∧ EF' j = EF j))))) (ws := (fun u : (Int) × (Nat → Nat) × (Nat → Nat) × (Nat → Int) × (Nat → Int → Int) × (Nat → Nat → Nat) × (Nat → Nat → Nat) × (Nat → Nat → Int) × (Nat → Nat → Int → Int) => match u with | (q, r', n', z', F', Er', En', Ez', EF') => (xU cI cB cE o r' n' z' F' G (Eo 0 0) ++ eP cI N Eo Er' En' Ez' EF'))) (tys := xT cI cB cE) (z := 1) (1, r, n, z, F, Er49, En49, Ez49, EF49) hx hb hr rfl hlocks rfl hP hD hK hS dX5_see_55 (fun dn dm hdn hdm => ⟨⟨hok, hfr, hPE49, hef49⟩, ⟨by omega, by omega⟩, Or.inr ⟨rfl, ⟨by omega, by omega, by omega, by omega, hq_37⟩, (by rw [hcl49_3, hcF49_3]; exact hd48), fun j hj => ⟨by rw [← eEz49]; exact va_up_ne _ _ hj, by rw [← eEF49]; exact va_up_ne _ _ hj⟩⟩⟩) (by omega) (by omega)
              · omega
        · omega
set_option maxHeartbeats 4000000 in
set_option maxRecDepth 100000 in
theorem k_see2 (l : Launch) (dC : Nat → ClassId) (dI : Nat → Nat → Nat) (mo : Nat) (ma : Nat → Nat) (cs : Nat → ClassId) (I : Nat → Int) (F : Nat → Int → Int) (p0 : Int) (p1 : Int) (sz : Nat) (hB : mB I F) (hc : 0 ≤ I 1 ∧ I 1 ≤ 64) (hmy : ∀ e, 0 ≤ F 13 e ∧ F 13 e ≤ 5) (hp01 : -2147483648 ≤ p0) (hp02 : p0 < 2147483648) (hp11 : -2147483648 ≤ p1) (hp12 : p1 < 2147483648) : mMi l yX6_see (.code yX6_see cX6_see 6 (some .int)) 1 23 dC dI mo ma cs I F [.ref mo, .int (iz p0), .int (iz p1)] sz (fun (r : Int) (I' : Nat → Int) (F' : Nat → Int → Int) => (r = 0 ∧ F' = F ∧ I' = va_up I 0 1 ∧ ¬ wr_ad (I 1) F p0 p1) ∨ (r = 0 ∧ F' = F ∧ I' = va_up I 0 2 ∧ ¬ wr_ad (I 1) F p0 p1) ∨ (r = 0 ∧ F' = F ∧ I' = va_up I 0 0 ∧ ¬ wr_ad (I 1) F p0 p1) ∨ (r = 1 ∧ I' = va_up I 0 0 ∧ F' = va_up (va_up F 12 (upI (F 12) (5 * p0 + F 13 p0) p1)) 13 (upI (F 13) p0 (F 13 p0 + 1)) ∧ wr_ad (I 1) F p0 p1)) := by
  refine Met.ofW (cc := cX6_see) (maxL := 6) (ret := (some .int)) (by decide) rfl ?_
  intro p e s m args below meth c s₁ B hml hv
  obtain ⟨rfl, hsz, hP, hK, hD0, hG, hZ⟩ := hv
  have hx := B.exec
  have hb := B.bytes
  have hr := B.returns
  have hts := kx_hts (a := ([.ref mo, .int (iz p0), .int (iz p1)] : List Value).toArray) hG
  have hown : s.vm.findClass RX6 = some m.cls := findClass_of_methodNamed B.named
  have hlocks := B.notSynchronized
  subst hsz
  have hD := hD0.self (sz := s.heap.size)
  generalize hAe : va_A (mW mo ma cs I F) s.heap.size = A at hD hZ ⊢
  have hA : ∀ q : Nat, s.heap.size ≤ q → A q := fun q h => by rw [← hAe]; exact Or.inr h
  have hS : va_S A s.heap s.heap [] := va_S.rf
  have hl := lv_entry ([.ref mo, .int (iz p0), .int (iz p1)]) (n := 6) (Nat.le_of_ble_eq_true rfl)
  rw [lg_entry_eq]
  generalize (lg_sl ([.ref mo, .int (iz p0), .int (iz p1)]) ++ List.replicate (6 - (lg_sl ([.ref mo, .int (iz p0), .int (iz p1)])).length) Slot.unset).toArray = ls at hl ⊢
  have hl : lv_has ls 6 [(0, .ref mo), (1, .int (iz p0)), (2, .int (iz p1))] := hl
  generalize hQe : MQ below (mQi dC dI mo ma cs A (fun (r : Int) (I' : Nat → Int) (F' : Nat → Int → Int) => (r = 0 ∧ F' = F ∧ I' = va_up I 0 1 ∧ ¬ wr_ad (I 1) F p0 p1) ∨ (r = 0 ∧ F' = F ∧ I' = va_up I 0 2 ∧ ¬ wr_ad (I 1) F p0 p1) ∨ (r = 0 ∧ F' = F ∧ I' = va_up I 0 0 ∧ ¬ wr_ad (I 1) F p0 p1) ∨ (r = 1 ∧ I' = va_up I 0 0 ∧ F' = va_up (va_up F 12 (upI (F 12) (5 * p0 + F 13 p0) p1)) 13 (upI (F 13) p0 (F 13 p0 + 1)) ∧ wr_ad (I 1) F p0 p1))) ([.ref mo, .int (iz p0), .int (iz p1)] : List Value).toArray s 0 0 A = QQ
  have hnp := hmy p0
  refine lv_aload_n hx hb dX6_see_0 rfl (lv_at hl 0 rfl) ?_
  refine lv_iload_n hx hb dX6_see_1 rfl (lv_at hl 1 rfl) ?_
  refine mk_calli (As := [.int (iz p0)]) (rest := []) ⟨hx, hb, hml, hown, hts⟩ (k_isNone l dC dI mo ma cs I F p0 s.heap.size hB (by omega) (by omega)) (cwV 1 hts (kx_gV kq_04_msmall_3 kq_04_msmall_4 kq_04_msmall_5 kq_04_msmall_6 kq_04_msmall_7 rfl) rfl rfl rfl (by decide +kernel) ⟨Nat.le_of_ble_eq_true rfl, Nat.le_of_ble_eq_true rfl⟩) hP hD hK hG hZ hS hA rfl hl.1 rfl (Nat.le_of_ble_eq_true rfl) dX6_see_2 ⟨Nat.le_of_ble_eq_true rfl, Nat.le_of_ble_eq_true rfl⟩ (fun z_1 I_3 F_4 H locs hq_2 hP hD hS => ?_)
  try dsimp only at hq_2
  obtain ⟨rfl, rfl, hq_2⟩ := hq_2
  rcases hq_2 with ⟨rfl, hq_2⟩ | ⟨rfl, hq_2⟩
  · skip
    refine ki_if_ne (tgt := 16) hx hb dX6_see_5 (by decide) (by omega) (by omega) (fun c_5 => ?_) (fun c_5 => ?_)
    · skip
      refine lv_iconst (v := iz 1) hx hb dX6_see_16 (by decide) ?_
      refine lv_goto (tgt := 21) hx hb dX6_see_17 (by decide) ?_
      refine lv_istore_n (lv' := [(3, .int (iz 1)), (0, .ref mo), (1, .int (iz p0)), (2, .int (iz p1))]) hx hb dX6_see_21 rfl hl (by decide) rfl (fun ls hl => ?_)
      refine lv_iload_n hx hb dX6_see_22 rfl (lv_at hl 2 rfl) ?_
      refine lv_iload_n hx hb dX6_see_23 rfl (lv_at hl 3 rfl) ?_
      refine ki_icmp_ne (tgt := 31) hx hb dX6_see_24 (by decide) (by omega) (by omega) (by omega) (by omega) (fun c_6 => ?_) (fun c_6 => ?_)
      · skip
        refine lv_iconst (v := iz 0) hx hb dX6_see_31 (by decide) ?_
        refine lv_istore (lv' := [(4, .int (iz 0)), (3, .int (iz 1)), (0, .ref mo), (1, .int (iz p0)), (2, .int (iz p1))]) hx hb dX6_see_32 hl (by decide) rfl (fun ls hl => ?_)
        refine lv_iconst (v := iz 0) hx hb dX6_see_34 (by decide) ?_
        refine lv_istore (lv' := [(5, .int (iz 0)), (4, .int (iz 0)), (3, .int (iz 1)), (0, .ref mo), (1, .int (iz p0)), (2, .int (iz p1))]) hx hb dX6_see_35 hl (by decide) rfl (fun ls hl => ?_)
        have lp37 : ∀ (n : Nat) (is kk : Int), (((is = 0 ∧ ¬ p0 = p1 ∧ ∀ j, 0 ≤ j → j < kk → ¬ F 12 (5 * p0 + j) = p1) ∨ (is = 1 ∧ wr_is F p0 p1)) ∧ (0 ≤ kk ∧ kk ≤ 5)) → (F 13 p0 - kk).toNat < n → ∀ (H : Heap) (locs : List Loc), va_P (dC, dI) kxCl (mW mo ma cs I F) H → va_D A (mW mo ma cs I F) → va_S A s.heap H locs → ∀ ls : Array Slot, lv_has ls 6 [(5, .int (iz kk)), (4, .int (iz is)), (3, .int (iz 1)), (0, .ref mo), (1, .int (iz p0)), (2, .int (iz p1))] → W p l e (headSpec [.code yX6_see cX6_see 6 (some .int)] ({ frames := 1, cells := 0, slots := 0, locals := 23 })).room s m ([.ref mo, .int (iz p0), .int (iz p1)] : List Value).toArray below meth c H locs 0 0 QQ (F0 m 37 ls []) := by
          intro n
          induction n with
          | zero => intro is kk hinv hm; exact absurd hm (Nat.not_lt_zero _)
          | succ n ih37 =>
            intro is kk hinv hm H locs hP hD hS ls hl
            obtain ⟨hi, hk⟩ := hinv
            have hi1 : is = 0 ∨ is = 1 := by rcases hi with h9 | h9; exact Or.inl h9.1; exact Or.inr h9.1
            replace hi := fun (_ : Unit) => hi
            refine lv_iload_n hx hb dX6_see_37 rfl (lv_at hl 2 rfl) ?_
            refine ki_if_ne (tgt := 85) hx hb dX6_see_38 (by decide) (by omega) (by omega) (fun c_7 => ?_) (fun c_7 => ?_)
            · skip
              refine lv_aload_n hx hb dX6_see_85 rfl (lv_at hl 3 rfl) ?_
              refine lv_iload_n hx hb dX6_see_86 rfl (lv_at hl 2 rfl) ?_
              refine lv_iload_n hx hb dX6_see_87 rfl (lv_at hl 2 rfl) ?_
              refine ki_if_ne (tgt := 110) hx hb dX6_see_88 (by decide) (by omega) (by omega) (fun c_8 => ?_) (fun c_8 => ?_)
              · skip
                refine lv_iconst (v := iz 0) hx hb dX6_see_110 (by decide) ?_
                refine lv_iconst (v := iz 0) hx hb dX6_see_111 (by decide) ?_
                refine mk_calli (As := [.int (iz 1), .int (iz 0), .int (iz 0)]) (rest := []) ⟨hx, hb, hml, hown, hts⟩ (k_refused1 l dC dI mo ma cs I F 0 0 H.size (by omega) (by omega) (by omega) (by omega)) (cwV 3 hts (kx_gV kq_04_msmall_8 kq_04_msmall_9 kq_04_msmall_10 kq_04_msmall_6 kq_04_msmall_11 rfl) rfl rfl rfl (by decide +kernel) ⟨Nat.le_of_ble_eq_true rfl, Nat.le_of_ble_eq_true rfl⟩) hP hD hK hG hZ hS hA rfl hl.1 rfl (Nat.le_of_ble_eq_true rfl) dX6_see_112 ⟨Nat.le_of_ble_eq_true rfl, Nat.le_of_ble_eq_true rfl⟩ (fun z_9 I_11 F_12 H locs hq_10 hP hD hS => ?_)
                try dsimp only at hq_10
                obtain ⟨rfl, rfl, rfl⟩ := hq_10
                refine ki_if_ne (tgt := 123) hx hb dX6_see_115 (by decide) (by omega) (by omega) (fun c_13 => ?_) (fun c_13 => ?_)
                · skip
                  refine lv_iconst (v := iz 0) hx hb dX6_see_123 (by decide) ?_
                  rw [← hQe]
                  exact mk_ireti hx hb hr hlocks hP hD hK hS dX6_see_124 (Or.inl ⟨by omega, rfl, rfl, fun h9 => by have a9 := h9.1; have b9 := h9.2.1; omega⟩)
                · omega
              · omega
            · omega
        exact lp37 _ 0 0 ⟨Or.inl ⟨rfl, by omega, fun j a b => absurd b (by omega)⟩, by omega⟩ (Nat.lt_succ_self _) _ _ hP hD hS ls (lv_sub hl [0, 1, 2, 3, 4, 5] rfl)
      · skip
        refine lv_iconst (v := iz 1) hx hb dX6_see_27 (by decide) ?_
        refine lv_goto (tgt := 32) hx hb dX6_see_28 (by decide) ?_
        refine lv_istore (lv' := [(4, .int (iz 1)), (3, .int (iz 1)), (0, .ref mo), (1, .int (iz p0)), (2, .int (iz p1))]) hx hb dX6_see_32 hl (by decide) rfl (fun ls hl => ?_)
        refine lv_iconst (v := iz 0) hx hb dX6_see_34 (by decide) ?_
        refine lv_istore (lv' := [(5, .int (iz 0)), (4, .int (iz 1)), (3, .int (iz 1)), (0, .ref mo), (1, .int (iz p0)), (2, .int (iz p1))]) hx hb dX6_see_35 hl (by decide) rfl (fun ls hl => ?_)
        have lp37 : ∀ (n : Nat) (is kk : Int), (((is = 0 ∧ ¬ p0 = p1 ∧ ∀ j, 0 ≤ j → j < kk → ¬ F 12 (5 * p0 + j) = p1) ∨ (is = 1 ∧ wr_is F p0 p1)) ∧ (0 ≤ kk ∧ kk ≤ 5)) → (F 13 p0 - kk).toNat < n → ∀ (H : Heap) (locs : List Loc), va_P (dC, dI) kxCl (mW mo ma cs I F) H → va_D A (mW mo ma cs I F) → va_S A s.heap H locs → ∀ ls : Array Slot, lv_has ls 6 [(5, .int (iz kk)), (4, .int (iz is)), (3, .int (iz 1)), (0, .ref mo), (1, .int (iz p0)), (2, .int (iz p1))] → W p l e (headSpec [.code yX6_see cX6_see 6 (some .int)] ({ frames := 1, cells := 0, slots := 0, locals := 23 })).room s m ([.ref mo, .int (iz p0), .int (iz p1)] : List Value).toArray below meth c H locs 0 0 QQ (F0 m 37 ls []) := by
          intro n
          induction n with
          | zero => intro is kk hinv hm; exact absurd hm (Nat.not_lt_zero _)
          | succ n ih37 =>
            intro is kk hinv hm H locs hP hD hS ls hl
            obtain ⟨hi, hk⟩ := hinv
            have hi1 : is = 0 ∨ is = 1 := by rcases hi with h9 | h9; exact Or.inl h9.1; exact Or.inr h9.1
            replace hi := fun (_ : Unit) => hi
            refine lv_iload_n hx hb dX6_see_37 rfl (lv_at hl 2 rfl) ?_
            refine ki_if_ne (tgt := 85) hx hb dX6_see_38 (by decide) (by omega) (by omega) (fun c_14 => ?_) (fun c_14 => ?_)
            · skip
              refine lv_aload_n hx hb dX6_see_85 rfl (lv_at hl 3 rfl) ?_
              refine lv_iload_n hx hb dX6_see_86 rfl (lv_at hl 2 rfl) ?_
              refine lv_iload_n hx hb dX6_see_87 rfl (lv_at hl 2 rfl) ?_
              refine ki_if_ne (tgt := 110) hx hb dX6_see_88 (by decide) (by omega) (by omega) (fun c_15 => ?_) (fun c_15 => ?_)
              · skip
                refine lv_iconst (v := iz 0) hx hb dX6_see_110 (by decide) ?_
                refine lv_iconst (v := iz 0) hx hb dX6_see_111 (by decide) ?_
                refine mk_calli (As := [.int (iz 1), .int (iz 0), .int (iz 0)]) (rest := []) ⟨hx, hb, hml, hown, hts⟩ (k_refused1 l dC dI mo ma cs I F 0 0 H.size (by omega) (by omega) (by omega) (by omega)) (cwV 3 hts (kx_gV kq_04_msmall_8 kq_04_msmall_9 kq_04_msmall_10 kq_04_msmall_6 kq_04_msmall_11 rfl) rfl rfl rfl (by decide +kernel) ⟨Nat.le_of_ble_eq_true rfl, Nat.le_of_ble_eq_true rfl⟩) hP hD hK hG hZ hS hA rfl hl.1 rfl (Nat.le_of_ble_eq_true rfl) dX6_see_112 ⟨Nat.le_of_ble_eq_true rfl, Nat.le_of_ble_eq_true rfl⟩ (fun z_16 I_18 F_19 H locs hq_17 hP hD hS => ?_)
                try dsimp only at hq_17
                obtain ⟨rfl, rfl, rfl⟩ := hq_17
                refine ki_if_ne (tgt := 123) hx hb dX6_see_115 (by decide) (by omega) (by omega) (fun c_20 => ?_) (fun c_20 => ?_)
                · skip
                  refine lv_iconst (v := iz 0) hx hb dX6_see_123 (by decide) ?_
                  rw [← hQe]
                  exact mk_ireti hx hb hr hlocks hP hD hK hS dX6_see_124 (Or.inl ⟨by omega, rfl, rfl, fun h9 => by have a9 := h9.1; have b9 := h9.2.1; omega⟩)
                · omega
              · omega
            · omega
        exact lp37 _ 1 0 ⟨Or.inr ⟨rfl, Or.inl (by omega)⟩, by omega⟩ (Nat.lt_succ_self _) _ _ hP hD hS ls (lv_sub hl [0, 1, 2, 3, 4, 5] rfl)
    · omega
  · skip
    refine ki_if_ne (tgt := 16) hx hb dX6_see_5 (by decide) (by omega) (by omega) (fun c_21 => ?_) (fun c_21 => ?_)
    · omega
    · skip
      refine lv_aload_n hx hb dX6_see_8 rfl (lv_at hl 0 rfl) ?_
      refine lv_iload_n hx hb dX6_see_9 rfl (lv_at hl 2 rfl) ?_
      refine mk_calli (As := [.int (iz p1)]) (rest := []) ⟨hx, hb, hml, hown, hts⟩ (k_isNone l dC dI mo ma cs I F p1 H.size hB (by omega) (by omega)) (cwV 1 hts (kx_gV kq_04_msmall_3 kq_04_msmall_4 kq_04_msmall_5 kq_04_msmall_6 kq_04_msmall_7 rfl) rfl rfl rfl (by decide +kernel) ⟨Nat.le_of_ble_eq_true rfl, Nat.le_of_ble_eq_true rfl⟩) hP hD hK hG hZ hS hA rfl hl.1 rfl (Nat.le_of_ble_eq_true rfl) dX6_see_10 ⟨Nat.le_of_ble_eq_true rfl, Nat.le_of_ble_eq_true rfl⟩ (fun z_22 I_24 F_25 H locs hq_23 hP hD hS => ?_)
      try dsimp only at hq_23
      obtain ⟨rfl, rfl, hq_23⟩ := hq_23
      rcases hq_23 with ⟨rfl, hq_23⟩ | ⟨rfl, hq_23⟩
      · skip
        refine ki_if_eq (tgt := 20) hx hb dX6_see_13 (by decide) (by omega) (by omega) (fun c_26 => ?_) (fun c_26 => ?_)
        · omega
        · skip
          refine lv_iconst (v := iz 1) hx hb dX6_see_16 (by decide) ?_
          refine lv_goto (tgt := 21) hx hb dX6_see_17 (by decide) ?_
          refine lv_istore_n (lv' := [(3, .int (iz 1)), (0, .ref mo), (1, .int (iz p0)), (2, .int (iz p1))]) hx hb dX6_see_21 rfl hl (by decide) rfl (fun ls hl => ?_)
          refine lv_iload_n hx hb dX6_see_22 rfl (lv_at hl 2 rfl) ?_
          refine lv_iload_n hx hb dX6_see_23 rfl (lv_at hl 3 rfl) ?_
          refine ki_icmp_ne (tgt := 31) hx hb dX6_see_24 (by decide) (by omega) (by omega) (by omega) (by omega) (fun c_27 => ?_) (fun c_27 => ?_)
          · skip
            refine lv_iconst (v := iz 0) hx hb dX6_see_31 (by decide) ?_
            refine lv_istore (lv' := [(4, .int (iz 0)), (3, .int (iz 1)), (0, .ref mo), (1, .int (iz p0)), (2, .int (iz p1))]) hx hb dX6_see_32 hl (by decide) rfl (fun ls hl => ?_)
            refine lv_iconst (v := iz 0) hx hb dX6_see_34 (by decide) ?_
            refine lv_istore (lv' := [(5, .int (iz 0)), (4, .int (iz 0)), (3, .int (iz 1)), (0, .ref mo), (1, .int (iz p0)), (2, .int (iz p1))]) hx hb dX6_see_35 hl (by decide) rfl (fun ls hl => ?_)
            have lp37 : ∀ (n : Nat) (is kk : Int), (((is = 0 ∧ ¬ p0 = p1 ∧ ∀ j, 0 ≤ j → j < kk → ¬ F 12 (5 * p0 + j) = p1) ∨ (is = 1 ∧ wr_is F p0 p1)) ∧ (0 ≤ kk ∧ kk ≤ 5)) → (F 13 p0 - kk).toNat < n → ∀ (H : Heap) (locs : List Loc), va_P (dC, dI) kxCl (mW mo ma cs I F) H → va_D A (mW mo ma cs I F) → va_S A s.heap H locs → ∀ ls : Array Slot, lv_has ls 6 [(5, .int (iz kk)), (4, .int (iz is)), (3, .int (iz 1)), (0, .ref mo), (1, .int (iz p0)), (2, .int (iz p1))] → W p l e (headSpec [.code yX6_see cX6_see 6 (some .int)] ({ frames := 1, cells := 0, slots := 0, locals := 23 })).room s m ([.ref mo, .int (iz p0), .int (iz p1)] : List Value).toArray below meth c H locs 0 0 QQ (F0 m 37 ls []) := by
              intro n
              induction n with
              | zero => intro is kk hinv hm; exact absurd hm (Nat.not_lt_zero _)
              | succ n ih37 =>
                intro is kk hinv hm H locs hP hD hS ls hl
                obtain ⟨hi, hk⟩ := hinv
                have hi1 : is = 0 ∨ is = 1 := by rcases hi with h9 | h9; exact Or.inl h9.1; exact Or.inr h9.1
                replace hi := fun (_ : Unit) => hi
                refine lv_iload_n hx hb dX6_see_37 rfl (lv_at hl 2 rfl) ?_
                refine ki_if_ne (tgt := 85) hx hb dX6_see_38 (by decide) (by omega) (by omega) (fun c_28 => ?_) (fun c_28 => ?_)
                · skip
                  refine lv_aload_n hx hb dX6_see_85 rfl (lv_at hl 3 rfl) ?_
                  refine lv_iload_n hx hb dX6_see_86 rfl (lv_at hl 2 rfl) ?_
                  refine lv_iload_n hx hb dX6_see_87 rfl (lv_at hl 2 rfl) ?_
                  refine ki_if_ne (tgt := 110) hx hb dX6_see_88 (by decide) (by omega) (by omega) (fun c_29 => ?_) (fun c_29 => ?_)
                  · skip
                    refine lv_iconst (v := iz 0) hx hb dX6_see_110 (by decide) ?_
                    refine lv_iconst (v := iz 0) hx hb dX6_see_111 (by decide) ?_
                    refine mk_calli (As := [.int (iz 1), .int (iz 0), .int (iz 0)]) (rest := []) ⟨hx, hb, hml, hown, hts⟩ (k_refused1 l dC dI mo ma cs I F 0 0 H.size (by omega) (by omega) (by omega) (by omega)) (cwV 3 hts (kx_gV kq_04_msmall_8 kq_04_msmall_9 kq_04_msmall_10 kq_04_msmall_6 kq_04_msmall_11 rfl) rfl rfl rfl (by decide +kernel) ⟨Nat.le_of_ble_eq_true rfl, Nat.le_of_ble_eq_true rfl⟩) hP hD hK hG hZ hS hA rfl hl.1 rfl (Nat.le_of_ble_eq_true rfl) dX6_see_112 ⟨Nat.le_of_ble_eq_true rfl, Nat.le_of_ble_eq_true rfl⟩ (fun z_30 I_32 F_33 H locs hq_31 hP hD hS => ?_)
                    try dsimp only at hq_31
                    obtain ⟨rfl, rfl, rfl⟩ := hq_31
                    refine ki_if_ne (tgt := 123) hx hb dX6_see_115 (by decide) (by omega) (by omega) (fun c_34 => ?_) (fun c_34 => ?_)
                    · skip
                      refine lv_iconst (v := iz 0) hx hb dX6_see_123 (by decide) ?_
                      rw [← hQe]
                      exact mk_ireti hx hb hr hlocks hP hD hK hS dX6_see_124 (Or.inl ⟨by omega, rfl, rfl, fun h9 => by have a9 := h9.1; have b9 := h9.2.1; omega⟩)
                    · omega
                  · omega
                · omega
            exact lp37 _ 0 0 ⟨Or.inl ⟨rfl, by omega, fun j a b => absurd b (by omega)⟩, by omega⟩ (Nat.lt_succ_self _) _ _ hP hD hS ls (lv_sub hl [0, 1, 2, 3, 4, 5] rfl)
          · skip
            refine lv_iconst (v := iz 1) hx hb dX6_see_27 (by decide) ?_
            refine lv_goto (tgt := 32) hx hb dX6_see_28 (by decide) ?_
            refine lv_istore (lv' := [(4, .int (iz 1)), (3, .int (iz 1)), (0, .ref mo), (1, .int (iz p0)), (2, .int (iz p1))]) hx hb dX6_see_32 hl (by decide) rfl (fun ls hl => ?_)
            refine lv_iconst (v := iz 0) hx hb dX6_see_34 (by decide) ?_
            refine lv_istore (lv' := [(5, .int (iz 0)), (4, .int (iz 1)), (3, .int (iz 1)), (0, .ref mo), (1, .int (iz p0)), (2, .int (iz p1))]) hx hb dX6_see_35 hl (by decide) rfl (fun ls hl => ?_)
            have lp37 : ∀ (n : Nat) (is kk : Int), (((is = 0 ∧ ¬ p0 = p1 ∧ ∀ j, 0 ≤ j → j < kk → ¬ F 12 (5 * p0 + j) = p1) ∨ (is = 1 ∧ wr_is F p0 p1)) ∧ (0 ≤ kk ∧ kk ≤ 5)) → (F 13 p0 - kk).toNat < n → ∀ (H : Heap) (locs : List Loc), va_P (dC, dI) kxCl (mW mo ma cs I F) H → va_D A (mW mo ma cs I F) → va_S A s.heap H locs → ∀ ls : Array Slot, lv_has ls 6 [(5, .int (iz kk)), (4, .int (iz is)), (3, .int (iz 1)), (0, .ref mo), (1, .int (iz p0)), (2, .int (iz p1))] → W p l e (headSpec [.code yX6_see cX6_see 6 (some .int)] ({ frames := 1, cells := 0, slots := 0, locals := 23 })).room s m ([.ref mo, .int (iz p0), .int (iz p1)] : List Value).toArray below meth c H locs 0 0 QQ (F0 m 37 ls []) := by
              intro n
              induction n with
              | zero => intro is kk hinv hm; exact absurd hm (Nat.not_lt_zero _)
              | succ n ih37 =>
                intro is kk hinv hm H locs hP hD hS ls hl
                obtain ⟨hi, hk⟩ := hinv
                have hi1 : is = 0 ∨ is = 1 := by rcases hi with h9 | h9; exact Or.inl h9.1; exact Or.inr h9.1
                replace hi := fun (_ : Unit) => hi
                refine lv_iload_n hx hb dX6_see_37 rfl (lv_at hl 2 rfl) ?_
                refine ki_if_ne (tgt := 85) hx hb dX6_see_38 (by decide) (by omega) (by omega) (fun c_35 => ?_) (fun c_35 => ?_)
                · skip
                  refine lv_aload_n hx hb dX6_see_85 rfl (lv_at hl 3 rfl) ?_
                  refine lv_iload_n hx hb dX6_see_86 rfl (lv_at hl 2 rfl) ?_
                  refine lv_iload_n hx hb dX6_see_87 rfl (lv_at hl 2 rfl) ?_
                  refine ki_if_ne (tgt := 110) hx hb dX6_see_88 (by decide) (by omega) (by omega) (fun c_36 => ?_) (fun c_36 => ?_)
                  · skip
                    refine lv_iconst (v := iz 0) hx hb dX6_see_110 (by decide) ?_
                    refine lv_iconst (v := iz 0) hx hb dX6_see_111 (by decide) ?_
                    refine mk_calli (As := [.int (iz 1), .int (iz 0), .int (iz 0)]) (rest := []) ⟨hx, hb, hml, hown, hts⟩ (k_refused1 l dC dI mo ma cs I F 0 0 H.size (by omega) (by omega) (by omega) (by omega)) (cwV 3 hts (kx_gV kq_04_msmall_8 kq_04_msmall_9 kq_04_msmall_10 kq_04_msmall_6 kq_04_msmall_11 rfl) rfl rfl rfl (by decide +kernel) ⟨Nat.le_of_ble_eq_true rfl, Nat.le_of_ble_eq_true rfl⟩) hP hD hK hG hZ hS hA rfl hl.1 rfl (Nat.le_of_ble_eq_true rfl) dX6_see_112 ⟨Nat.le_of_ble_eq_true rfl, Nat.le_of_ble_eq_true rfl⟩ (fun z_37 I_39 F_40 H locs hq_38 hP hD hS => ?_)
                    try dsimp only at hq_38
                    obtain ⟨rfl, rfl, rfl⟩ := hq_38
                    refine ki_if_ne (tgt := 123) hx hb dX6_see_115 (by decide) (by omega) (by omega) (fun c_41 => ?_) (fun c_41 => ?_)
                    · skip
                      refine lv_iconst (v := iz 0) hx hb dX6_see_123 (by decide) ?_
                      rw [← hQe]
                      exact mk_ireti hx hb hr hlocks hP hD hK hS dX6_see_124 (Or.inl ⟨by omega, rfl, rfl, fun h9 => by have a9 := h9.1; have b9 := h9.2.1; omega⟩)
                    · omega
                  · omega
                · omega
            exact lp37 _ 1 0 ⟨Or.inr ⟨rfl, Or.inl (by omega)⟩, by omega⟩ (Nat.lt_succ_self _) _ _ hP hD hS ls (lv_sub hl [0, 1, 2, 3, 4, 5] rfl)
      · skip
        refine ki_if_eq (tgt := 20) hx hb dX6_see_13 (by decide) (by omega) (by omega) (fun c_42 => ?_) (fun c_42 => ?_)
        · skip
          refine lv_iconst (v := iz 0) hx hb dX6_see_20 (by decide) ?_
          refine lv_istore_n (lv' := [(3, .int (iz 0)), (0, .ref mo), (1, .int (iz p0)), (2, .int (iz p1))]) hx hb dX6_see_21 rfl hl (by decide) rfl (fun ls hl => ?_)
          refine lv_iload_n hx hb dX6_see_22 rfl (lv_at hl 2 rfl) ?_
          refine lv_iload_n hx hb dX6_see_23 rfl (lv_at hl 3 rfl) ?_
          refine ki_icmp_ne (tgt := 31) hx hb dX6_see_24 (by decide) (by omega) (by omega) (by omega) (by omega) (fun c_43 => ?_) (fun c_43 => ?_)
          · skip
            refine lv_iconst (v := iz 0) hx hb dX6_see_31 (by decide) ?_
            refine lv_istore (lv' := [(4, .int (iz 0)), (3, .int (iz 0)), (0, .ref mo), (1, .int (iz p0)), (2, .int (iz p1))]) hx hb dX6_see_32 hl (by decide) rfl (fun ls hl => ?_)
            refine lv_iconst (v := iz 0) hx hb dX6_see_34 (by decide) ?_
            refine lv_istore (lv' := [(5, .int (iz 0)), (4, .int (iz 0)), (3, .int (iz 0)), (0, .ref mo), (1, .int (iz p0)), (2, .int (iz p1))]) hx hb dX6_see_35 hl (by decide) rfl (fun ls hl => ?_)
            have lp37 : ∀ (n : Nat) (is kk : Int), (((is = 0 ∧ ¬ p0 = p1 ∧ ∀ j, 0 ≤ j → j < kk → ¬ F 12 (5 * p0 + j) = p1) ∨ (is = 1 ∧ wr_is F p0 p1)) ∧ (0 ≤ kk ∧ kk ≤ 5)) → (F 13 p0 - kk).toNat < n → ∀ (H : Heap) (locs : List Loc), va_P (dC, dI) kxCl (mW mo ma cs I F) H → va_D A (mW mo ma cs I F) → va_S A s.heap H locs → ∀ ls : Array Slot, lv_has ls 6 [(5, .int (iz kk)), (4, .int (iz is)), (3, .int (iz 0)), (0, .ref mo), (1, .int (iz p0)), (2, .int (iz p1))] → W p l e (headSpec [.code yX6_see cX6_see 6 (some .int)] ({ frames := 1, cells := 0, slots := 0, locals := 23 })).room s m ([.ref mo, .int (iz p0), .int (iz p1)] : List Value).toArray below meth c H locs 0 0 QQ (F0 m 37 ls []) := by
              intro n
              induction n with
              | zero => intro is kk hinv hm; exact absurd hm (Nat.not_lt_zero _)
              | succ n ih37 =>
                intro is kk hinv hm H locs hP hD hS ls hl
                obtain ⟨hi, hk⟩ := hinv
                have hi1 : is = 0 ∨ is = 1 := by rcases hi with h9 | h9; exact Or.inl h9.1; exact Or.inr h9.1
                replace hi := fun (_ : Unit) => hi
                refine lv_iload_n hx hb dX6_see_37 rfl (lv_at hl 2 rfl) ?_
                refine ki_if_ne (tgt := 85) hx hb dX6_see_38 (by decide) (by omega) (by omega) (fun c_44 => ?_) (fun c_44 => ?_)
                · omega
                · skip
                  refine lv_iload hx hb dX6_see_41 (lv_at hl 0 rfl) ?_
                  refine lv_aload_n hx hb dX6_see_43 rfl (lv_at hl 3 rfl) ?_
                  refine va_get (D := (dC, dI)) (ci := 6) (v := .ref (ma 13)) (C := RX6) (T := TX6) (N := 44) hx hb hts kt_X6 hown hK hP 0 rfl rfl 13 (by decide) (kx_word hG kq_04_msmall_38 rfl) (fun _ h9 => h9) rfl dX6_see_44 ?_
                  refine lv_iload_n hx hb dX6_see_47 rfl (lv_at hl 4 rfl) ?_
                  refine ki_iald (F := F 13) hx hb hK hP 12 11 rfl rfl (by omega) (by omega) (by decide) dX6_see_48 ?_
                  have hbd_45 := hB.2 13 p0
                  refine ki_icmp_ge (tgt := 85) hx hb dX6_see_49 (by decide) (by omega) (by omega) (by omega) (by omega) (fun c_46 => ?_) (fun c_46 => ?_)
                  · skip
                    refine lv_aload_n hx hb dX6_see_85 rfl (lv_at hl 3 rfl) ?_
                    refine lv_iload_n hx hb dX6_see_86 rfl (lv_at hl 2 rfl) ?_
                    refine lv_iload_n hx hb dX6_see_87 rfl (lv_at hl 2 rfl) ?_
                    refine ki_if_ne (tgt := 110) hx hb dX6_see_88 (by decide) (by omega) (by omega) (fun c_47 => ?_) (fun c_47 => ?_)
                    · omega
                    · skip
                      refine lv_iload hx hb dX6_see_91 (lv_at hl 1 rfl) ?_
                      refine ki_if_ne (tgt := 110) hx hb dX6_see_93 (by decide) (by omega) (by omega) (fun c_48 => ?_) (fun c_48 => ?_)
                      · skip
                        refine lv_iconst (v := iz 0) hx hb dX6_see_110 (by decide) ?_
                        refine lv_iconst (v := iz 0) hx hb dX6_see_111 (by decide) ?_
                        refine mk_calli (As := [.int (iz 0), .int (iz 0), .int (iz 0)]) (rest := []) ⟨hx, hb, hml, hown, hts⟩ (k_refused0 l dC dI mo ma cs I F  H.size ) (cwV 3 hts (kx_gV kq_04_msmall_8 kq_04_msmall_9 kq_04_msmall_10 kq_04_msmall_6 kq_04_msmall_11 rfl) rfl rfl rfl (by decide +kernel) ⟨Nat.le_of_ble_eq_true rfl, Nat.le_of_ble_eq_true rfl⟩) hP hD hK hG hZ hS hA rfl hl.1 rfl (Nat.le_of_ble_eq_true rfl) dX6_see_112 ⟨Nat.le_of_ble_eq_true rfl, Nat.le_of_ble_eq_true rfl⟩ (fun z_49 I_51 F_52 H locs hq_50 hP hD hS => ?_)
                        try dsimp only at hq_50
                        obtain ⟨rfl, rfl, rfl⟩ := hq_50
                        refine ki_if_ne (tgt := 123) hx hb dX6_see_115 (by decide) (by omega) (by omega) (fun c_53 => ?_) (fun c_53 => ?_)
                        · omega
                        · skip
                          refine lv_iload hx hb dX6_see_118 (lv_at hl 1 rfl) ?_
                          refine ki_if_eq (tgt := 125) hx hb dX6_see_120 (by decide) (by omega) (by omega) (fun c_54 => ?_) (fun c_54 => ?_)
                          · omega
                          · skip
                            refine lv_iconst (v := iz 0) hx hb dX6_see_123 (by decide) ?_
                            rw [← hQe]
                            exact mk_ireti hx hb hr hlocks hP hD hK hS dX6_see_124 (Or.inr (Or.inr (Or.inl ⟨by omega, rfl, rfl, fun h9 => h9.2.2.2 (by rcases hi () with h8 | h8; exact absurd h8.1 (by omega); exact h8.2)⟩)))
                      · skip
                        refine lv_aload_n hx hb dX6_see_96 rfl (lv_at hl 3 rfl) ?_
                        refine va_get (D := (dC, dI)) (ci := 6) (v := .ref (ma 13)) (C := RX6) (T := TX6) (N := 44) hx hb hts kt_X6 hown hK hP 0 rfl rfl 13 (by decide) (kx_word hG kq_04_msmall_38 rfl) (fun _ h9 => h9) rfl dX6_see_97 ?_
                        refine lv_iload_n hx hb dX6_see_100 rfl (lv_at hl 4 rfl) ?_
                        refine ki_iald (F := F 13) hx hb hK hP 12 11 rfl rfl (by omega) (by omega) (by decide) dX6_see_101 ?_
                        refine lv_iconst (v := iz 5) hx hb dX6_see_102 (by decide) ?_
                        refine ki_icmp_ne (tgt := 110) hx hb dX6_see_103 (by decide) (by omega) (by omega) (by omega) (by omega) (fun c_55 => ?_) (fun c_55 => ?_)
                        · skip
                          refine lv_iconst (v := iz 0) hx hb dX6_see_110 (by decide) ?_
                          refine lv_iconst (v := iz 0) hx hb dX6_see_111 (by decide) ?_
                          refine mk_calli (As := [.int (iz 0), .int (iz 0), .int (iz 0)]) (rest := []) ⟨hx, hb, hml, hown, hts⟩ (k_refused0 l dC dI mo ma cs I F  H.size ) (cwV 3 hts (kx_gV kq_04_msmall_8 kq_04_msmall_9 kq_04_msmall_10 kq_04_msmall_6 kq_04_msmall_11 rfl) rfl rfl rfl (by decide +kernel) ⟨Nat.le_of_ble_eq_true rfl, Nat.le_of_ble_eq_true rfl⟩) hP hD hK hG hZ hS hA rfl hl.1 rfl (Nat.le_of_ble_eq_true rfl) dX6_see_112 ⟨Nat.le_of_ble_eq_true rfl, Nat.le_of_ble_eq_true rfl⟩ (fun z_56 I_58 F_59 H locs hq_57 hP hD hS => ?_)
                          try dsimp only at hq_57
                          obtain ⟨rfl, rfl, rfl⟩ := hq_57
                          refine ki_if_ne (tgt := 123) hx hb dX6_see_115 (by decide) (by omega) (by omega) (fun c_60 => ?_) (fun c_60 => ?_)
                          · omega
                          · skip
                            refine lv_iload hx hb dX6_see_118 (lv_at hl 1 rfl) ?_
                            refine ki_if_eq (tgt := 125) hx hb dX6_see_120 (by decide) (by omega) (by omega) (fun c_61 => ?_) (fun c_61 => ?_)
                            · skip
                              refine lv_aload_n hx hb dX6_see_125 rfl (lv_at hl 3 rfl) ?_
                              refine va_get (D := (dC, dI)) (ci := 6) (v := .ref (ma 12)) (C := RX6) (T := TX6) (N := 44) hx hb hts kt_X6 hown hK hP 0 rfl rfl 12 (by decide) (kx_word hG kq_04_msmall_39 rfl) (fun _ h9 => h9) rfl dX6_see_126 ?_
                              refine lv_iconst (v := iz 5) hx hb dX6_see_129 (by decide) ?_
                              refine lv_iload_n hx hb dX6_see_130 rfl (lv_at hl 4 rfl) ?_
                              refine ki_imul hx hb dX6_see_131 ?_
                              refine lv_aload_n hx hb dX6_see_132 rfl (lv_at hl 3 rfl) ?_
                              refine va_get (D := (dC, dI)) (ci := 6) (v := .ref (ma 13)) (C := RX6) (T := TX6) (N := 44) hx hb hts kt_X6 hown hK hP 0 rfl rfl 13 (by decide) (kx_word hG kq_04_msmall_38 rfl) (fun _ h9 => h9) rfl dX6_see_133 ?_
                              refine lv_iload_n hx hb dX6_see_136 rfl (lv_at hl 4 rfl) ?_
                              refine ki_iald (F := F 13) hx hb hK hP 12 11 rfl rfl (by omega) (by omega) (by decide) dX6_see_137 ?_
                              refine ki_iadd hx hb dX6_see_138 ?_
                              refine lv_iload_n hx hb dX6_see_139 rfl (lv_at hl 5 rfl) ?_
                              refine ki_iast (F := F 12) hx hb hK hP hD hS 11 10 rfl rfl (by omega) (by omega) (by decide) dX6_see_140 (fun H locs hP hD hS => ?_)
                              have hP : va_P (dC, dI) kxCl (mW mo ma cs (va_up I 0 0) (va_up F 12 (upI (F 12) ((5 * p0) + (F 13 p0)) p1))) H := hP
                              have hD : va_D A (mW mo ma cs (va_up I 0 0) (va_up F 12 (upI (F 12) ((5 * p0) + (F 13 p0)) p1))) := hD
                              refine lv_aload_n hx hb dX6_see_141 rfl (lv_at hl 3 rfl) ?_
                              refine va_get (D := (dC, dI)) (ci := 6) (v := .ref (ma 13)) (C := RX6) (T := TX6) (N := 44) hx hb hts kt_X6 hown hK hP 0 rfl rfl 13 (by decide) (kx_word hG kq_04_msmall_38 rfl) (fun _ h9 => h9) rfl dX6_see_142 ?_
                              refine lv_iload_n hx hb dX6_see_145 rfl (lv_at hl 4 rfl) ?_
                              refine lv_dup2_11 hx hb dX6_see_146 rfl rfl ?_
                              refine ki_iald (F := F 13) hx hb hK hP 12 11 rfl rfl (by omega) (by omega) (by decide) dX6_see_147 ?_
                              refine lv_iconst (v := iz 1) hx hb dX6_see_148 (by decide) ?_
                              refine ki_iadd hx hb dX6_see_149 ?_
                              refine ki_iast (F := F 13) hx hb hK hP hD hS 12 11 rfl rfl (by omega) (by omega) (by decide) dX6_see_150 (fun H locs hP hD hS => ?_)
                              have hP : va_P (dC, dI) kxCl (mW mo ma cs (va_up I 0 0) (va_up (va_up F 12 (upI (F 12) ((5 * p0) + (F 13 p0)) p1)) 13 (upI (F 13) p0 ((F 13 p0) + 1)))) H := hP
                              have hD : va_D A (mW mo ma cs (va_up I 0 0) (va_up (va_up F 12 (upI (F 12) ((5 * p0) + (F 13 p0)) p1)) 13 (upI (F 13) p0 ((F 13 p0) + 1)))) := hD
                              refine lv_iconst (v := iz 1) hx hb dX6_see_151 (by decide) ?_
                              rw [← hQe]
                              exact mk_ireti hx hb hr hlocks hP hD hK hS dX6_see_152 (Or.inr (Or.inr (Or.inr (⟨by omega, rfl, rfl, by omega, by omega, by omega, fun h9 => by rcases hi () with h8 | h8; (rcases h9 with h7 | ⟨j, a, b, c⟩; exact h8.2.1 h7; exact h8.2.2 j a (by omega) c); exact absurd h8.1 (by omega)⟩))))
                            · omega
                        · skip
                          refine lv_iconst (v := iz 1) hx hb dX6_see_106 (by decide) ?_
                          refine lv_goto (tgt := 111) hx hb dX6_see_107 (by decide) ?_
                          refine lv_iconst (v := iz 0) hx hb dX6_see_111 (by decide) ?_
                          refine mk_calli (As := [.int (iz 0), .int (iz 1), .int (iz 0)]) (rest := []) ⟨hx, hb, hml, hown, hts⟩ (k_refused2 l dC dI mo ma cs I F 0 H.size (by omega) (by omega)) (cwV 3 hts (kx_gV kq_04_msmall_8 kq_04_msmall_9 kq_04_msmall_10 kq_04_msmall_6 kq_04_msmall_11 rfl) rfl rfl rfl (by decide +kernel) ⟨Nat.le_of_ble_eq_true rfl, Nat.le_of_ble_eq_true rfl⟩) hP hD hK hG hZ hS hA rfl hl.1 rfl (Nat.le_of_ble_eq_true rfl) dX6_see_112 ⟨Nat.le_of_ble_eq_true rfl, Nat.le_of_ble_eq_true rfl⟩ (fun z_62 I_64 F_65 H locs hq_63 hP hD hS => ?_)
                          try dsimp only at hq_63
                          obtain ⟨rfl, rfl, rfl⟩ := hq_63
                          refine ki_if_ne (tgt := 123) hx hb dX6_see_115 (by decide) (by omega) (by omega) (fun c_66 => ?_) (fun c_66 => ?_)
                          · skip
                            refine lv_iconst (v := iz 0) hx hb dX6_see_123 (by decide) ?_
                            rw [← hQe]
                            exact mk_ireti hx hb hr hlocks hP hD hK hS dX6_see_124 (Or.inr (Or.inl ⟨by omega, rfl, rfl, fun h9 => by have a9 := h9.2.2.1; omega⟩))
                          · omega
                  · skip
                    refine lv_iload hx hb dX6_see_52 (lv_at hl 1 rfl) ?_
                    refine ki_if_ne (tgt := 72) hx hb dX6_see_54 (by decide) (by omega) (by omega) (fun c_67 => ?_) (fun c_67 => ?_)
                    · skip
                      refine lv_iconst (v := iz 1) hx hb dX6_see_72 (by decide) ?_
                      refine lv_goto (tgt := 77) hx hb dX6_see_73 (by decide) ?_
                      refine lv_istore (lv' := [(4, .int (iz 1)), (5, .int (iz kk)), (3, .int (iz 0)), (0, .ref mo), (1, .int (iz p0)), (2, .int (iz p1))]) hx hb dX6_see_77 hl (by decide) rfl (fun ls hl => ?_)
                      refine lv_iinc (v := iz (kk + 1)) (lv' := [(5, .int (iz (kk + 1))), (4, .int (iz 1)), (3, .int (iz 0)), (0, .ref mo), (1, .int (iz p0)), (2, .int (iz p1))]) hx hb dX6_see_79 hl (k := 1) rfl (iz_add kk 1) (by decide) rfl (fun ls hl => ?_)
                      refine lv_goto (tgt := 37) hx hb dX6_see_82 (by decide) ?_
                      exact ih37 1 (kk + 1) ⟨Or.inr ⟨rfl, (by rcases hi () with h8 | h8; exact absurd h8.1 (by omega); exact h8.2)⟩, by omega⟩ (by omega) _ _ hP hD hS ls (lv_sub hl [0, 1, 2, 3, 4, 5] rfl)
                    · skip
                      refine lv_aload_n hx hb dX6_see_57 rfl (lv_at hl 3 rfl) ?_
                      refine va_get (D := (dC, dI)) (ci := 6) (v := .ref (ma 12)) (C := RX6) (T := TX6) (N := 44) hx hb hts kt_X6 hown hK hP 0 rfl rfl 12 (by decide) (kx_word hG kq_04_msmall_39 rfl) (fun _ h9 => h9) rfl dX6_see_58 ?_
                      refine lv_iconst (v := iz 5) hx hb dX6_see_61 (by decide) ?_
                      refine lv_iload_n hx hb dX6_see_62 rfl (lv_at hl 4 rfl) ?_
                      refine ki_imul hx hb dX6_see_63 ?_
                      refine lv_iload hx hb dX6_see_64 (lv_at hl 0 rfl) ?_
                      refine ki_iadd hx hb dX6_see_66 ?_
                      refine ki_iald (F := F 12) hx hb hK hP 11 10 rfl rfl (by omega) (by omega) (by decide) dX6_see_67 ?_
                      have hbd_68 := hB.2 12 ((5 * p0) + kk)
                      refine lv_iload_n hx hb dX6_see_68 rfl (lv_at hl 5 rfl) ?_
                      refine ki_icmp_ne (tgt := 76) hx hb dX6_see_69 (by decide) (by omega) (by omega) (by omega) (by omega) (fun c_69 => ?_) (fun c_69 => ?_)
                      · skip
                        refine lv_iconst (v := iz 0) hx hb dX6_see_76 (by decide) ?_
                        refine lv_istore (lv' := [(4, .int (iz 0)), (5, .int (iz kk)), (3, .int (iz 0)), (0, .ref mo), (1, .int (iz p0)), (2, .int (iz p1))]) hx hb dX6_see_77 hl (by decide) rfl (fun ls hl => ?_)
                        refine lv_iinc (v := iz (kk + 1)) (lv' := [(5, .int (iz (kk + 1))), (4, .int (iz 0)), (3, .int (iz 0)), (0, .ref mo), (1, .int (iz p0)), (2, .int (iz p1))]) hx hb dX6_see_79 hl (k := 1) rfl (iz_add kk 1) (by decide) rfl (fun ls hl => ?_)
                        refine lv_goto (tgt := 37) hx hb dX6_see_82 (by decide) ?_
                        exact ih37 0 (kk + 1) ⟨Or.inl ⟨rfl, by rcases hi () with h9 | h9; exact h9.2.1; exact absurd h9.1 (by omega), fun j a b => by by_cases c9 : j = kk; (rw [c9]; omega); (rcases hi () with h9 | h9; exact h9.2.2 j a (by omega); exact absurd h9.1 (by omega))⟩, by omega⟩ (by omega) _ _ hP hD hS ls (lv_sub hl [0, 1, 2, 3, 4, 5] rfl)
                      · skip
                        refine lv_iconst (v := iz 1) hx hb dX6_see_72 (by decide) ?_
                        refine lv_goto (tgt := 77) hx hb dX6_see_73 (by decide) ?_
                        refine lv_istore (lv' := [(4, .int (iz 1)), (5, .int (iz kk)), (3, .int (iz 0)), (0, .ref mo), (1, .int (iz p0)), (2, .int (iz p1))]) hx hb dX6_see_77 hl (by decide) rfl (fun ls hl => ?_)
                        refine lv_iinc (v := iz (kk + 1)) (lv' := [(5, .int (iz (kk + 1))), (4, .int (iz 1)), (3, .int (iz 0)), (0, .ref mo), (1, .int (iz p0)), (2, .int (iz p1))]) hx hb dX6_see_79 hl (k := 1) rfl (iz_add kk 1) (by decide) rfl (fun ls hl => ?_)
                        refine lv_goto (tgt := 37) hx hb dX6_see_82 (by decide) ?_
                        exact ih37 1 (kk + 1) ⟨Or.inr ⟨rfl, Or.inr ⟨kk, by omega, by omega, by omega⟩⟩, by omega⟩ (by omega) _ _ hP hD hS ls (lv_sub hl [0, 1, 2, 3, 4, 5] rfl)
            exact lp37 _ 0 0 ⟨Or.inl ⟨rfl, by omega, fun j a b => absurd b (by omega)⟩, by omega⟩ (Nat.lt_succ_self _) _ _ hP hD hS ls (lv_sub hl [0, 1, 2, 3, 4, 5] rfl)
          · skip
            refine lv_iconst (v := iz 1) hx hb dX6_see_27 (by decide) ?_
            refine lv_goto (tgt := 32) hx hb dX6_see_28 (by decide) ?_
            refine lv_istore (lv' := [(4, .int (iz 1)), (3, .int (iz 0)), (0, .ref mo), (1, .int (iz p0)), (2, .int (iz p1))]) hx hb dX6_see_32 hl (by decide) rfl (fun ls hl => ?_)
            refine lv_iconst (v := iz 0) hx hb dX6_see_34 (by decide) ?_
            refine lv_istore (lv' := [(5, .int (iz 0)), (4, .int (iz 1)), (3, .int (iz 0)), (0, .ref mo), (1, .int (iz p0)), (2, .int (iz p1))]) hx hb dX6_see_35 hl (by decide) rfl (fun ls hl => ?_)
            have lp37 : ∀ (n : Nat) (is kk : Int), (((is = 0 ∧ ¬ p0 = p1 ∧ ∀ j, 0 ≤ j → j < kk → ¬ F 12 (5 * p0 + j) = p1) ∨ (is = 1 ∧ wr_is F p0 p1)) ∧ (0 ≤ kk ∧ kk ≤ 5)) → (F 13 p0 - kk).toNat < n → ∀ (H : Heap) (locs : List Loc), va_P (dC, dI) kxCl (mW mo ma cs I F) H → va_D A (mW mo ma cs I F) → va_S A s.heap H locs → ∀ ls : Array Slot, lv_has ls 6 [(5, .int (iz kk)), (4, .int (iz is)), (3, .int (iz 0)), (0, .ref mo), (1, .int (iz p0)), (2, .int (iz p1))] → W p l e (headSpec [.code yX6_see cX6_see 6 (some .int)] ({ frames := 1, cells := 0, slots := 0, locals := 23 })).room s m ([.ref mo, .int (iz p0), .int (iz p1)] : List Value).toArray below meth c H locs 0 0 QQ (F0 m 37 ls []) := by
              intro n
              induction n with
              | zero => intro is kk hinv hm; exact absurd hm (Nat.not_lt_zero _)
              | succ n ih37 =>
                intro is kk hinv hm H locs hP hD hS ls hl
                obtain ⟨hi, hk⟩ := hinv
                have hi1 : is = 0 ∨ is = 1 := by rcases hi with h9 | h9; exact Or.inl h9.1; exact Or.inr h9.1
                replace hi := fun (_ : Unit) => hi
                refine lv_iload_n hx hb dX6_see_37 rfl (lv_at hl 2 rfl) ?_
                refine ki_if_ne (tgt := 85) hx hb dX6_see_38 (by decide) (by omega) (by omega) (fun c_70 => ?_) (fun c_70 => ?_)
                · omega
                · skip
                  refine lv_iload hx hb dX6_see_41 (lv_at hl 0 rfl) ?_
                  refine lv_aload_n hx hb dX6_see_43 rfl (lv_at hl 3 rfl) ?_
                  refine va_get (D := (dC, dI)) (ci := 6) (v := .ref (ma 13)) (C := RX6) (T := TX6) (N := 44) hx hb hts kt_X6 hown hK hP 0 rfl rfl 13 (by decide) (kx_word hG kq_04_msmall_38 rfl) (fun _ h9 => h9) rfl dX6_see_44 ?_
                  refine lv_iload_n hx hb dX6_see_47 rfl (lv_at hl 4 rfl) ?_
                  refine ki_iald (F := F 13) hx hb hK hP 12 11 rfl rfl (by omega) (by omega) (by decide) dX6_see_48 ?_
                  have hbd_71 := hB.2 13 p0
                  refine ki_icmp_ge (tgt := 85) hx hb dX6_see_49 (by decide) (by omega) (by omega) (by omega) (by omega) (fun c_72 => ?_) (fun c_72 => ?_)
                  · skip
                    refine lv_aload_n hx hb dX6_see_85 rfl (lv_at hl 3 rfl) ?_
                    refine lv_iload_n hx hb dX6_see_86 rfl (lv_at hl 2 rfl) ?_
                    refine lv_iload_n hx hb dX6_see_87 rfl (lv_at hl 2 rfl) ?_
                    refine ki_if_ne (tgt := 110) hx hb dX6_see_88 (by decide) (by omega) (by omega) (fun c_73 => ?_) (fun c_73 => ?_)
                    · omega
                    · skip
                      refine lv_iload hx hb dX6_see_91 (lv_at hl 1 rfl) ?_
                      refine ki_if_ne (tgt := 110) hx hb dX6_see_93 (by decide) (by omega) (by omega) (fun c_74 => ?_) (fun c_74 => ?_)
                      · skip
                        refine lv_iconst (v := iz 0) hx hb dX6_see_110 (by decide) ?_
                        refine lv_iconst (v := iz 0) hx hb dX6_see_111 (by decide) ?_
                        refine mk_calli (As := [.int (iz 0), .int (iz 0), .int (iz 0)]) (rest := []) ⟨hx, hb, hml, hown, hts⟩ (k_refused0 l dC dI mo ma cs I F  H.size ) (cwV 3 hts (kx_gV kq_04_msmall_8 kq_04_msmall_9 kq_04_msmall_10 kq_04_msmall_6 kq_04_msmall_11 rfl) rfl rfl rfl (by decide +kernel) ⟨Nat.le_of_ble_eq_true rfl, Nat.le_of_ble_eq_true rfl⟩) hP hD hK hG hZ hS hA rfl hl.1 rfl (Nat.le_of_ble_eq_true rfl) dX6_see_112 ⟨Nat.le_of_ble_eq_true rfl, Nat.le_of_ble_eq_true rfl⟩ (fun z_75 I_77 F_78 H locs hq_76 hP hD hS => ?_)
                        try dsimp only at hq_76
                        obtain ⟨rfl, rfl, rfl⟩ := hq_76
                        refine ki_if_ne (tgt := 123) hx hb dX6_see_115 (by decide) (by omega) (by omega) (fun c_79 => ?_) (fun c_79 => ?_)
                        · omega
                        · skip
                          refine lv_iload hx hb dX6_see_118 (lv_at hl 1 rfl) ?_
                          refine ki_if_eq (tgt := 125) hx hb dX6_see_120 (by decide) (by omega) (by omega) (fun c_80 => ?_) (fun c_80 => ?_)
                          · omega
                          · skip
                            refine lv_iconst (v := iz 0) hx hb dX6_see_123 (by decide) ?_
                            rw [← hQe]
                            exact mk_ireti hx hb hr hlocks hP hD hK hS dX6_see_124 (Or.inr (Or.inr (Or.inl ⟨by omega, rfl, rfl, fun h9 => h9.2.2.2 (by rcases hi () with h8 | h8; exact absurd h8.1 (by omega); exact h8.2)⟩)))
                      · skip
                        refine lv_aload_n hx hb dX6_see_96 rfl (lv_at hl 3 rfl) ?_
                        refine va_get (D := (dC, dI)) (ci := 6) (v := .ref (ma 13)) (C := RX6) (T := TX6) (N := 44) hx hb hts kt_X6 hown hK hP 0 rfl rfl 13 (by decide) (kx_word hG kq_04_msmall_38 rfl) (fun _ h9 => h9) rfl dX6_see_97 ?_
                        refine lv_iload_n hx hb dX6_see_100 rfl (lv_at hl 4 rfl) ?_
                        refine ki_iald (F := F 13) hx hb hK hP 12 11 rfl rfl (by omega) (by omega) (by decide) dX6_see_101 ?_
                        refine lv_iconst (v := iz 5) hx hb dX6_see_102 (by decide) ?_
                        refine ki_icmp_ne (tgt := 110) hx hb dX6_see_103 (by decide) (by omega) (by omega) (by omega) (by omega) (fun c_81 => ?_) (fun c_81 => ?_)
                        · skip
                          refine lv_iconst (v := iz 0) hx hb dX6_see_110 (by decide) ?_
                          refine lv_iconst (v := iz 0) hx hb dX6_see_111 (by decide) ?_
                          refine mk_calli (As := [.int (iz 0), .int (iz 0), .int (iz 0)]) (rest := []) ⟨hx, hb, hml, hown, hts⟩ (k_refused0 l dC dI mo ma cs I F  H.size ) (cwV 3 hts (kx_gV kq_04_msmall_8 kq_04_msmall_9 kq_04_msmall_10 kq_04_msmall_6 kq_04_msmall_11 rfl) rfl rfl rfl (by decide +kernel) ⟨Nat.le_of_ble_eq_true rfl, Nat.le_of_ble_eq_true rfl⟩) hP hD hK hG hZ hS hA rfl hl.1 rfl (Nat.le_of_ble_eq_true rfl) dX6_see_112 ⟨Nat.le_of_ble_eq_true rfl, Nat.le_of_ble_eq_true rfl⟩ (fun z_82 I_84 F_85 H locs hq_83 hP hD hS => ?_)
                          try dsimp only at hq_83
                          obtain ⟨rfl, rfl, rfl⟩ := hq_83
                          refine ki_if_ne (tgt := 123) hx hb dX6_see_115 (by decide) (by omega) (by omega) (fun c_86 => ?_) (fun c_86 => ?_)
                          · omega
                          · skip
                            refine lv_iload hx hb dX6_see_118 (lv_at hl 1 rfl) ?_
                            refine ki_if_eq (tgt := 125) hx hb dX6_see_120 (by decide) (by omega) (by omega) (fun c_87 => ?_) (fun c_87 => ?_)
                            · skip
                              refine lv_aload_n hx hb dX6_see_125 rfl (lv_at hl 3 rfl) ?_
                              refine va_get (D := (dC, dI)) (ci := 6) (v := .ref (ma 12)) (C := RX6) (T := TX6) (N := 44) hx hb hts kt_X6 hown hK hP 0 rfl rfl 12 (by decide) (kx_word hG kq_04_msmall_39 rfl) (fun _ h9 => h9) rfl dX6_see_126 ?_
                              refine lv_iconst (v := iz 5) hx hb dX6_see_129 (by decide) ?_
                              refine lv_iload_n hx hb dX6_see_130 rfl (lv_at hl 4 rfl) ?_
                              refine ki_imul hx hb dX6_see_131 ?_
                              refine lv_aload_n hx hb dX6_see_132 rfl (lv_at hl 3 rfl) ?_
                              refine va_get (D := (dC, dI)) (ci := 6) (v := .ref (ma 13)) (C := RX6) (T := TX6) (N := 44) hx hb hts kt_X6 hown hK hP 0 rfl rfl 13 (by decide) (kx_word hG kq_04_msmall_38 rfl) (fun _ h9 => h9) rfl dX6_see_133 ?_
                              refine lv_iload_n hx hb dX6_see_136 rfl (lv_at hl 4 rfl) ?_
                              refine ki_iald (F := F 13) hx hb hK hP 12 11 rfl rfl (by omega) (by omega) (by decide) dX6_see_137 ?_
                              refine ki_iadd hx hb dX6_see_138 ?_
                              refine lv_iload_n hx hb dX6_see_139 rfl (lv_at hl 5 rfl) ?_
                              refine ki_iast (F := F 12) hx hb hK hP hD hS 11 10 rfl rfl (by omega) (by omega) (by decide) dX6_see_140 (fun H locs hP hD hS => ?_)
                              have hP : va_P (dC, dI) kxCl (mW mo ma cs (va_up I 0 0) (va_up F 12 (upI (F 12) ((5 * p0) + (F 13 p0)) p1))) H := hP
                              have hD : va_D A (mW mo ma cs (va_up I 0 0) (va_up F 12 (upI (F 12) ((5 * p0) + (F 13 p0)) p1))) := hD
                              refine lv_aload_n hx hb dX6_see_141 rfl (lv_at hl 3 rfl) ?_
                              refine va_get (D := (dC, dI)) (ci := 6) (v := .ref (ma 13)) (C := RX6) (T := TX6) (N := 44) hx hb hts kt_X6 hown hK hP 0 rfl rfl 13 (by decide) (kx_word hG kq_04_msmall_38 rfl) (fun _ h9 => h9) rfl dX6_see_142 ?_
                              refine lv_iload_n hx hb dX6_see_145 rfl (lv_at hl 4 rfl) ?_
                              refine lv_dup2_11 hx hb dX6_see_146 rfl rfl ?_
                              refine ki_iald (F := F 13) hx hb hK hP 12 11 rfl rfl (by omega) (by omega) (by decide) dX6_see_147 ?_
                              refine lv_iconst (v := iz 1) hx hb dX6_see_148 (by decide) ?_
                              refine ki_iadd hx hb dX6_see_149 ?_
                              refine ki_iast (F := F 13) hx hb hK hP hD hS 12 11 rfl rfl (by omega) (by omega) (by decide) dX6_see_150 (fun H locs hP hD hS => ?_)
                              have hP : va_P (dC, dI) kxCl (mW mo ma cs (va_up I 0 0) (va_up (va_up F 12 (upI (F 12) ((5 * p0) + (F 13 p0)) p1)) 13 (upI (F 13) p0 ((F 13 p0) + 1)))) H := hP
                              have hD : va_D A (mW mo ma cs (va_up I 0 0) (va_up (va_up F 12 (upI (F 12) ((5 * p0) + (F 13 p0)) p1)) 13 (upI (F 13) p0 ((F 13 p0) + 1)))) := hD
                              refine lv_iconst (v := iz 1) hx hb dX6_see_151 (by decide) ?_
                              rw [← hQe]
                              exact mk_ireti hx hb hr hlocks hP hD hK hS dX6_see_152 (Or.inr (Or.inr (Or.inr (⟨by omega, rfl, rfl, by omega, by omega, by omega, fun h9 => by rcases hi () with h8 | h8; (rcases h9 with h7 | ⟨j, a, b, c⟩; exact h8.2.1 h7; exact h8.2.2 j a (by omega) c); exact absurd h8.1 (by omega)⟩))))
                            · omega
                        · skip
                          refine lv_iconst (v := iz 1) hx hb dX6_see_106 (by decide) ?_
                          refine lv_goto (tgt := 111) hx hb dX6_see_107 (by decide) ?_
                          refine lv_iconst (v := iz 0) hx hb dX6_see_111 (by decide) ?_
                          refine mk_calli (As := [.int (iz 0), .int (iz 1), .int (iz 0)]) (rest := []) ⟨hx, hb, hml, hown, hts⟩ (k_refused2 l dC dI mo ma cs I F 0 H.size (by omega) (by omega)) (cwV 3 hts (kx_gV kq_04_msmall_8 kq_04_msmall_9 kq_04_msmall_10 kq_04_msmall_6 kq_04_msmall_11 rfl) rfl rfl rfl (by decide +kernel) ⟨Nat.le_of_ble_eq_true rfl, Nat.le_of_ble_eq_true rfl⟩) hP hD hK hG hZ hS hA rfl hl.1 rfl (Nat.le_of_ble_eq_true rfl) dX6_see_112 ⟨Nat.le_of_ble_eq_true rfl, Nat.le_of_ble_eq_true rfl⟩ (fun z_88 I_90 F_91 H locs hq_89 hP hD hS => ?_)
                          try dsimp only at hq_89
                          obtain ⟨rfl, rfl, rfl⟩ := hq_89
                          refine ki_if_ne (tgt := 123) hx hb dX6_see_115 (by decide) (by omega) (by omega) (fun c_92 => ?_) (fun c_92 => ?_)
                          · skip
                            refine lv_iconst (v := iz 0) hx hb dX6_see_123 (by decide) ?_
                            rw [← hQe]
                            exact mk_ireti hx hb hr hlocks hP hD hK hS dX6_see_124 (Or.inr (Or.inl ⟨by omega, rfl, rfl, fun h9 => by have a9 := h9.2.2.1; omega⟩))
                          · omega
                  · skip
                    refine lv_iload hx hb dX6_see_52 (lv_at hl 1 rfl) ?_
                    refine ki_if_ne (tgt := 72) hx hb dX6_see_54 (by decide) (by omega) (by omega) (fun c_93 => ?_) (fun c_93 => ?_)
                    · skip
                      refine lv_iconst (v := iz 1) hx hb dX6_see_72 (by decide) ?_
                      refine lv_goto (tgt := 77) hx hb dX6_see_73 (by decide) ?_
                      refine lv_istore (lv' := [(4, .int (iz 1)), (5, .int (iz kk)), (3, .int (iz 0)), (0, .ref mo), (1, .int (iz p0)), (2, .int (iz p1))]) hx hb dX6_see_77 hl (by decide) rfl (fun ls hl => ?_)
                      refine lv_iinc (v := iz (kk + 1)) (lv' := [(5, .int (iz (kk + 1))), (4, .int (iz 1)), (3, .int (iz 0)), (0, .ref mo), (1, .int (iz p0)), (2, .int (iz p1))]) hx hb dX6_see_79 hl (k := 1) rfl (iz_add kk 1) (by decide) rfl (fun ls hl => ?_)
                      refine lv_goto (tgt := 37) hx hb dX6_see_82 (by decide) ?_
                      exact ih37 1 (kk + 1) ⟨Or.inr ⟨rfl, (by rcases hi () with h8 | h8; exact absurd h8.1 (by omega); exact h8.2)⟩, by omega⟩ (by omega) _ _ hP hD hS ls (lv_sub hl [0, 1, 2, 3, 4, 5] rfl)
                    · skip
                      refine lv_aload_n hx hb dX6_see_57 rfl (lv_at hl 3 rfl) ?_
                      refine va_get (D := (dC, dI)) (ci := 6) (v := .ref (ma 12)) (C := RX6) (T := TX6) (N := 44) hx hb hts kt_X6 hown hK hP 0 rfl rfl 12 (by decide) (kx_word hG kq_04_msmall_39 rfl) (fun _ h9 => h9) rfl dX6_see_58 ?_
                      refine lv_iconst (v := iz 5) hx hb dX6_see_61 (by decide) ?_
                      refine lv_iload_n hx hb dX6_see_62 rfl (lv_at hl 4 rfl) ?_
                      refine ki_imul hx hb dX6_see_63 ?_
                      refine lv_iload hx hb dX6_see_64 (lv_at hl 0 rfl) ?_
                      refine ki_iadd hx hb dX6_see_66 ?_
                      refine ki_iald (F := F 12) hx hb hK hP 11 10 rfl rfl (by omega) (by omega) (by decide) dX6_see_67 ?_
                      have hbd_94 := hB.2 12 ((5 * p0) + kk)
                      refine lv_iload_n hx hb dX6_see_68 rfl (lv_at hl 5 rfl) ?_
                      refine ki_icmp_ne (tgt := 76) hx hb dX6_see_69 (by decide) (by omega) (by omega) (by omega) (by omega) (fun c_95 => ?_) (fun c_95 => ?_)
                      · skip
                        refine lv_iconst (v := iz 0) hx hb dX6_see_76 (by decide) ?_
                        refine lv_istore (lv' := [(4, .int (iz 0)), (5, .int (iz kk)), (3, .int (iz 0)), (0, .ref mo), (1, .int (iz p0)), (2, .int (iz p1))]) hx hb dX6_see_77 hl (by decide) rfl (fun ls hl => ?_)
                        refine lv_iinc (v := iz (kk + 1)) (lv' := [(5, .int (iz (kk + 1))), (4, .int (iz 0)), (3, .int (iz 0)), (0, .ref mo), (1, .int (iz p0)), (2, .int (iz p1))]) hx hb dX6_see_79 hl (k := 1) rfl (iz_add kk 1) (by decide) rfl (fun ls hl => ?_)
                        refine lv_goto (tgt := 37) hx hb dX6_see_82 (by decide) ?_
                        exact ih37 0 (kk + 1) ⟨Or.inl ⟨rfl, by rcases hi () with h9 | h9; exact h9.2.1; exact absurd h9.1 (by omega), fun j a b => by by_cases c9 : j = kk; (rw [c9]; omega); (rcases hi () with h9 | h9; exact h9.2.2 j a (by omega); exact absurd h9.1 (by omega))⟩, by omega⟩ (by omega) _ _ hP hD hS ls (lv_sub hl [0, 1, 2, 3, 4, 5] rfl)
                      · skip
                        refine lv_iconst (v := iz 1) hx hb dX6_see_72 (by decide) ?_
                        refine lv_goto (tgt := 77) hx hb dX6_see_73 (by decide) ?_
                        refine lv_istore (lv' := [(4, .int (iz 1)), (5, .int (iz kk)), (3, .int (iz 0)), (0, .ref mo), (1, .int (iz p0)), (2, .int (iz p1))]) hx hb dX6_see_77 hl (by decide) rfl (fun ls hl => ?_)
                        refine lv_iinc (v := iz (kk + 1)) (lv' := [(5, .int (iz (kk + 1))), (4, .int (iz 1)), (3, .int (iz 0)), (0, .ref mo), (1, .int (iz p0)), (2, .int (iz p1))]) hx hb dX6_see_79 hl (k := 1) rfl (iz_add kk 1) (by decide) rfl (fun ls hl => ?_)
                        refine lv_goto (tgt := 37) hx hb dX6_see_82 (by decide) ?_
                        exact ih37 1 (kk + 1) ⟨Or.inr ⟨rfl, Or.inr ⟨kk, by omega, by omega, by omega⟩⟩, by omega⟩ (by omega) _ _ hP hD hS ls (lv_sub hl [0, 1, 2, 3, 4, 5] rfl)
            exact lp37 _ 1 0 ⟨Or.inr ⟨rfl, Or.inl (by omega)⟩, by omega⟩ (Nat.lt_succ_self _) _ _ hP hD hS ls (lv_sub hl [0, 1, 2, 3, 4, 5] rfl)
        · omega
