/-! the landed class, exact: rows by levels, findRows -/

set_option maxHeartbeats 4000000 in
set_option maxRecDepth 100000 in
theorem y_addRows2_3 (l : Launch) (dC : Nat → ClassId) (dI : Nat → Nat → Nat) (cI cB cE : ClassId) (o r n : Nat → Nat) (z : Nat → Int) (F : Nat → Int → Int) (G : Nat → Option Nat) (N : Nat) (Eo Er En : Nat → Nat → Nat) (Ez : Nat → Nat → Int) (EF : Nat → Nat → Int → Int) (p0 : Int) (lv : Int → Int) (ab : Int → Int) (Wd : Int → Int → Prop) (cm : Int → Int → Int) (sz : Nat) (hok : xOk n z F) (hxG : xG N (z 12) G Eo) (hPE : eA N En Ez EF) (hp01 : -2147483648 ≤ p0) (hp02 : p0 < 2147483648) (hRH : rs_H (z 12) Ez EF lv ab Wd cm) (hC : rs_C lv ab Wd (z 12) (rs_sE Ez)) (h79 : z 12 ≤ 78) (hSo : rs_so (rs_lt cm) (F 0) 0 (z 0)) (hSm : ∀ x, rs_me (F 0) 0 (z 0) x ↔ (0 ≤ x ∧ x < z 12 ∧ rs_sE Ez x = x)) (hRo : rs_so (rs_bf lv ab (rs_sE Ez) cm) (F 1) 0 (z 1)) (hRm : ∀ j, 0 ≤ j → j < z 1 → 0 ≤ F 1 j ∧ F 1 j < z 12) (hpre : ∀ y, rs_me (F 1) 0 (z 1) y → ∀ x, rs_Q lv ab (rs_sE Ez) (z 12) 3 p0 x → (rs_bf lv ab (rs_sE Ez) cm) y x) (hp0 : 0 ≤ p0) : Met l yX5_addRowsUnder [.code yX5_addRowsUnder cX5_addRowsUnder 5 none] ({ frames := 0, cells := 100, slots := 45000, locals := 0 }) (va_Pc [.ref (o 15), .int (iz p0), .int (iz 3)] (kx_Pre dC dI (xU cI cB cE o r n z F G (Eo 0 0) ++ eP cI N Eo Er En Ez EF) (xT cI cB cE) sz)) (xQ (fun _ : (Nat → Nat) × (Nat → Nat) × (Nat → Int) × (Nat → Int → Int) × (Nat → Nat → Nat) × (Nat → Nat → Nat) × (Nat → Nat → Int) × (Nat → Nat → Int → Int) => none) (fun (u : (Nat → Nat) × (Nat → Nat) × (Nat → Int) × (Nat → Int → Int) × (Nat → Nat → Nat) × (Nat → Nat → Nat) × (Nat → Nat → Int) × (Nat → Nat → Int → Int)) (dn dm : Nat) => match u with | (r', n', z', F', Er', En', Ez', EF') => xR [1] [1] [] [] N z F En Ez EF n' z' F' En' Ez' EF' ∧ (dn + xg n' ≤ xg n + 0 ∧ dm + xp n' ≤ xp n + 0) ∧ (rs_so (rs_bf lv ab (rs_sE Ez) cm) (F' 1) 0 (z' 1) ∧ (∀ x, rs_me (F' 1) 0 (z' 1) x ↔ (rs_me (F 1) 0 (z 1) x ∨ rs_Q lv ab (rs_sE Ez) (z 12) 3 p0 x)) ∧ Er = Er' ∧ En = En' ∧ Ez = Ez' ∧ EF = EF')) (fun u t => kx_At dC dI (va_A (xU cI cB cE o r n z F G (Eo 0 0) ++ eP cI N Eo Er En Ez EF) sz) ((fun u : (Nat → Nat) × (Nat → Nat) × (Nat → Int) × (Nat → Int → Int) × (Nat → Nat → Nat) × (Nat → Nat → Nat) × (Nat → Nat → Int) × (Nat → Nat → Int → Int) => match u with | (r', n', z', F', Er', En', Ez', EF') => (xU cI cB cE o r' n' z' F' G (Eo 0 0) ++ eP cI N Eo Er' En' Ez' EF')) u) (xT cI cB cE) t) (va_A (xU cI cB cE o r n z F G (Eo 0 0) ++ eP cI N Eo Er En Ez EF) sz)) 100 45000 (va_A (xU cI cB cE o r n z F G (Eo 0 0) ++ eP cI N Eo Er En Ez EF) sz) := by
  refine Met.ofW (cc := cX5_addRowsUnder) (maxL := 5) (ret := none) (by decide) rfl ?_
  intro p e s m args below meth c s₁ B hml hv
  obtain ⟨rfl, hsz, hP, hK, hD0, hG, hZ⟩ := hv
  have hx := B.exec
  have hb := B.bytes
  have hr := B.returns
  have hts := kx_hts (a := ([.ref (o 15), .int (iz p0), .int (iz 3)] : List Value).toArray) hG
  have hown : s.vm.findClass RX5 = some m.cls := findClass_of_methodNamed B.named
  have hlocks := B.notSynchronized
  subst hsz
  have hD := hD0.self (sz := s.heap.size)
  generalize hAe : va_A (xU cI cB cE o r n z F G (Eo 0 0) ++ eP cI N Eo Er En Ez EF) s.heap.size = A at hD hZ ⊢
  have hA : ∀ q : Nat, s.heap.size ≤ q → A q := fun q h => by rw [← hAe]; exact Or.inr h
  have hS : va_S A s.heap s.heap [] := va_S.rf
  have hl := lv_entry ([.ref (o 15), .int (iz p0), .int (iz 3)]) (n := 5) (Nat.le_of_ble_eq_true rfl)
  rw [lg_entry_eq]
  generalize (lg_sl ([.ref (o 15), .int (iz p0), .int (iz 3)]) ++ List.replicate (5 - (lg_sl ([.ref (o 15), .int (iz p0), .int (iz 3)])).length) Slot.unset).toArray = ls at hl ⊢
  obtain ⟨hN1, hN2, hN3, hN4⟩ := hxG
  have hef : eFr [] [] En Ez EF En Ez EF := eFr.rf
  have hfr : xFr [1] [1] z F z F := xFr.rf
  have hxgl := xg_le n
  have hxpl := xp_le n
  have hl : lv_has ls 5 [(0, .ref (o 15)), (1, .int (iz p0)), (2, .int (iz 3))] := hl
  have hL := hRH.1.1
  have hcm := hRH.1.2.2
  have hPs := rs_C_P hRH.1.2.1 hC
  have hz0 : 0 ≤ z 0 ∧ z 0 ≤ (n 0 : Int) ∧ (n 0 : Int) ≤ 80 := hok.1 0 (by decide)
  have hz1 : 0 ≤ z 1 ∧ z 1 ≤ (n 1 : Int) ∧ (n 1 : Int) ≤ 80 := hok.1 1 (by decide)
  refine lv_iload_n hx hb dX5_addRowsUnder_0 rfl (lv_at hl 2 rfl) ?_
  refine lv_iconst (v := iz 3) hx hb dX5_addRowsUnder_1 (by decide) ?_
  refine ki_icmp_lt (tgt := 6) hx hb dX5_addRowsUnder_2 (by decide) (by omega) (by omega) (by omega) (by omega) (fun c_1 => ?_) (fun c_1 => ?_)
  · omega
  · skip
    exact xk_vret (ov := (fun _ : (Nat → Nat) × (Nat → Nat) × (Nat → Int) × (Nat → Int → Int) × (Nat → Nat → Nat) × (Nat → Nat → Nat) × (Nat → Nat → Int) × (Nat → Nat → Int → Int) => none)) (post := (fun (u : (Nat → Nat) × (Nat → Nat) × (Nat → Int) × (Nat → Int → Int) × (Nat → Nat → Nat) × (Nat → Nat → Nat) × (Nat → Nat → Int) × (Nat → Nat → Int → Int)) (dn dm : Nat) => match u with | (r', n', z', F', Er', En', Ez', EF') => xR [1] [1] [] [] N z F En Ez EF n' z' F' En' Ez' EF' ∧ (dn + xg n' ≤ xg n + 0 ∧ dm + xp n' ≤ xp n + 0) ∧ (rs_so (rs_bf lv ab (rs_sE Ez) cm) (F' 1) 0 (z' 1) ∧ (∀ x, rs_me (F' 1) 0 (z' 1) x ↔ (rs_me (F 1) 0 (z 1) x ∨ rs_Q lv ab (rs_sE Ez) (z 12) 3 p0 x)) ∧ Er = Er' ∧ En = En' ∧ Ez = Ez' ∧ EF = EF'))) (ws := (fun u : (Nat → Nat) × (Nat → Nat) × (Nat → Int) × (Nat → Int → Int) × (Nat → Nat → Nat) × (Nat → Nat → Nat) × (Nat → Nat → Int) × (Nat → Nat → Int → Int) => match u with | (r', n', z', F', Er', En', Ez', EF') => (xU cI cB cE o r' n' z' F' G (Eo 0 0) ++ eP cI N Eo Er' En' Ez' EF'))) (tys := xT cI cB cE) (r, n, z, F, Er, En, Ez, EF) hx hb hr hlocks rfl hP hD hK hS dX5_addRowsUnder_5 (fun dn dm hdn hdm => ⟨⟨hok, hfr, hPE, hef⟩, ⟨by omega, by omega⟩, ⟨hRo, fun x => ⟨fun h9 => Or.inl h9, fun h9 => by rcases h9 with h9 | h9; exact h9; exact absurd h9.2.1 (by have h8 := (hL x h9.1.1 h9.1.2.1).1; omega)⟩, rfl, rfl, rfl, rfl⟩⟩) (by omega) (by omega)
set_option maxHeartbeats 4000000 in
set_option maxRecDepth 100000 in
theorem y_addRows2_2 (l : Launch) (dC : Nat → ClassId) (dI : Nat → Nat → Nat) (cI cB cE : ClassId) (o r n : Nat → Nat) (z : Nat → Int) (F : Nat → Int → Int) (G : Nat → Option Nat) (N : Nat) (Eo Er En : Nat → Nat → Nat) (Ez : Nat → Nat → Int) (EF : Nat → Nat → Int → Int) (p0 : Int) (lv : Int → Int) (ab : Int → Int) (Wd : Int → Int → Prop) (cm : Int → Int → Int) (sz : Nat) (hok : xOk n z F) (hxG : xG N (z 12) G Eo) (hPE : eA N En Ez EF) (hp01 : -2147483648 ≤ p0) (hp02 : p0 < 2147483648) (hRH : rs_H (z 12) Ez EF lv ab Wd cm) (hC : rs_C lv ab Wd (z 12) (rs_sE Ez)) (h79 : z 12 ≤ 78) (hSo : rs_so (rs_lt cm) (F 0) 0 (z 0)) (hSm : ∀ x, rs_me (F 0) 0 (z 0) x ↔ (0 ≤ x ∧ x < z 12 ∧ rs_sE Ez x = x)) (hRo : rs_so (rs_bf lv ab (rs_sE Ez) cm) (F 1) 0 (z 1)) (hRm : ∀ j, 0 ≤ j → j < z 1 → 0 ≤ F 1 j ∧ F 1 j < z 12) (hpre : ∀ y, rs_me (F 1) 0 (z 1) y → ∀ x, rs_Q lv ab (rs_sE Ez) (z 12) 2 p0 x → (rs_bf lv ab (rs_sE Ez) cm) y x) (hp0 : 0 ≤ p0) : Met l yX5_addRowsUnder [.code yX5_addRowsUnder cX5_addRowsUnder 5 none] ({ frames := 3, cells := 200, slots := 90000, locals := 103 }) (va_Pc [.ref (o 15), .int (iz p0), .int (iz 2)] (kx_Pre dC dI (xU cI cB cE o r n z F G (Eo 0 0) ++ eP cI N Eo Er En Ez EF) (xT cI cB cE) sz)) (xQ (fun _ : (Nat → Nat) × (Nat → Nat) × (Nat → Int) × (Nat → Int → Int) × (Nat → Nat → Nat) × (Nat → Nat → Nat) × (Nat → Nat → Int) × (Nat → Nat → Int → Int) => none) (fun (u : (Nat → Nat) × (Nat → Nat) × (Nat → Int) × (Nat → Int → Int) × (Nat → Nat → Nat) × (Nat → Nat → Nat) × (Nat → Nat → Int) × (Nat → Nat → Int → Int)) (dn dm : Nat) => match u with | (r', n', z', F', Er', En', Ez', EF') => xR [1] [1] [] [] N z F En Ez EF n' z' F' En' Ez' EF' ∧ (dn + xg n' ≤ xg n + 0 ∧ dm + xp n' ≤ xp n + 0) ∧ (rs_so (rs_bf lv ab (rs_sE Ez) cm) (F' 1) 0 (z' 1) ∧ (∀ x, rs_me (F' 1) 0 (z' 1) x ↔ (rs_me (F 1) 0 (z 1) x ∨ rs_Q lv ab (rs_sE Ez) (z 12) 2 p0 x)) ∧ Er = Er' ∧ En = En' ∧ Ez = Ez' ∧ EF = EF')) (fun u t => kx_At dC dI (va_A (xU cI cB cE o r n z F G (Eo 0 0) ++ eP cI N Eo Er En Ez EF) sz) ((fun u : (Nat → Nat) × (Nat → Nat) × (Nat → Int) × (Nat → Int → Int) × (Nat → Nat → Nat) × (Nat → Nat → Nat) × (Nat → Nat → Int) × (Nat → Nat → Int → Int) => match u with | (r', n', z', F', Er', En', Ez', EF') => (xU cI cB cE o r' n' z' F' G (Eo 0 0) ++ eP cI N Eo Er' En' Ez' EF')) u) (xT cI cB cE) t) (va_A (xU cI cB cE o r n z F G (Eo 0 0) ++ eP cI N Eo Er En Ez EF) sz)) 200 90000 (va_A (xU cI cB cE o r n z F G (Eo 0 0) ++ eP cI N Eo Er En Ez EF) sz) := by
  refine Met.ofW (cc := cX5_addRowsUnder) (maxL := 5) (ret := none) (by decide) rfl ?_
  intro p e s m args below meth c s₁ B hml hv
  obtain ⟨rfl, hsz, hP, hK, hD0, hG, hZ⟩ := hv
  have hx := B.exec
  have hb := B.bytes
  have hr := B.returns
  have hts := kx_hts (a := ([.ref (o 15), .int (iz p0), .int (iz 2)] : List Value).toArray) hG
  have hown : s.vm.findClass RX5 = some m.cls := findClass_of_methodNamed B.named
  have hlocks := B.notSynchronized
  subst hsz
  have hD := hD0.self (sz := s.heap.size)
  generalize hAe : va_A (xU cI cB cE o r n z F G (Eo 0 0) ++ eP cI N Eo Er En Ez EF) s.heap.size = A at hD hZ ⊢
  have hA : ∀ q : Nat, s.heap.size ≤ q → A q := fun q h => by rw [← hAe]; exact Or.inr h
  have hS : va_S A s.heap s.heap [] := va_S.rf
  have hl := lv_entry ([.ref (o 15), .int (iz p0), .int (iz 2)]) (n := 5) (Nat.le_of_ble_eq_true rfl)
  rw [lg_entry_eq]
  generalize (lg_sl ([.ref (o 15), .int (iz p0), .int (iz 2)]) ++ List.replicate (5 - (lg_sl ([.ref (o 15), .int (iz p0), .int (iz 2)])).length) Slot.unset).toArray = ls at hl ⊢
  obtain ⟨hN1, hN2, hN3, hN4⟩ := hxG
  have hef : eFr [] [] En Ez EF En Ez EF := eFr.rf
  have hfr : xFr [1] [1] z F z F := xFr.rf
  have hxgl := xg_le n
  have hxpl := xp_le n
  have hl : lv_has ls 5 [(0, .ref (o 15)), (1, .int (iz p0)), (2, .int (iz 2))] := hl
  generalize hQe : MQ below (xQ (fun _ : (Nat → Nat) × (Nat → Nat) × (Nat → Int) × (Nat → Int → Int) × (Nat → Nat → Nat) × (Nat → Nat → Nat) × (Nat → Nat → Int) × (Nat → Nat → Int → Int) => none) (fun (u : (Nat → Nat) × (Nat → Nat) × (Nat → Int) × (Nat → Int → Int) × (Nat → Nat → Nat) × (Nat → Nat → Nat) × (Nat → Nat → Int) × (Nat → Nat → Int → Int)) (dn dm : Nat) => match u with | (r', n', z', F', Er', En', Ez', EF') => xR [1] [1] [] [] N z F En Ez EF n' z' F' En' Ez' EF' ∧ (dn + xg n' ≤ xg n + 0 ∧ dm + xp n' ≤ xp n + 0) ∧ (rs_so (rs_bf lv ab (rs_sE Ez) cm) (F' 1) 0 (z' 1) ∧ (∀ x, rs_me (F' 1) 0 (z' 1) x ↔ (rs_me (F 1) 0 (z 1) x ∨ rs_Q lv ab (rs_sE Ez) (z 12) 2 p0 x)) ∧ Er = Er' ∧ En = En' ∧ Ez = Ez' ∧ EF = EF')) (fun u t => kx_At dC dI A ((fun u : (Nat → Nat) × (Nat → Nat) × (Nat → Int) × (Nat → Int → Int) × (Nat → Nat → Nat) × (Nat → Nat → Nat) × (Nat → Nat → Int) × (Nat → Nat → Int → Int) => match u with | (r', n', z', F', Er', En', Ez', EF') => (xU cI cB cE o r' n' z' F' G (Eo 0 0) ++ eP cI N Eo Er' En' Ez' EF')) u) (xT cI cB cE) t) A) ([.ref (o 15), .int (iz p0), .int (iz 2)] : List Value).toArray s 200 90000 A = QQ
  have hL := hRH.1.1
  have hcm := hRH.1.2.2
  have hPs := rs_C_P hRH.1.2.1 hC
  have hz0 : 0 ≤ z 0 ∧ z 0 ≤ (n 0 : Int) ∧ (n 0 : Int) ≤ 80 := hok.1 0 (by decide)
  have hz1 : 0 ≤ z 1 ∧ z 1 ≤ (n 1 : Int) ∧ (n 1 : Int) ≤ 80 := hok.1 1 (by decide)
  refine lv_iload_n hx hb dX5_addRowsUnder_0 rfl (lv_at hl 2 rfl) ?_
  refine lv_iconst (v := iz 3) hx hb dX5_addRowsUnder_1 (by decide) ?_
  refine ki_icmp_lt (tgt := 6) hx hb dX5_addRowsUnder_2 (by decide) (by omega) (by omega) (by omega) (by omega) (fun c_1 => ?_) (fun c_1 => ?_)
  · skip
    refine lv_iconst (v := iz 0) hx hb dX5_addRowsUnder_6 (by decide) ?_
    refine lv_istore_n (lv' := [(3, .int (iz 0)), (0, .ref (o 15)), (1, .int (iz p0)), (2, .int (iz 2))]) hx hb dX5_addRowsUnder_7 rfl hl (by decide) rfl (fun ls hl => ?_)
    have lp8 : ∀ (n0 : Nat) (k : Int) (rL8 : Nat → Nat) (nL8 : Nat → Nat) (zL8 : Nat → Int) (FL8 : Nat → Int → Int) (cv : Nat) (sv : Nat), ((xR [1] [1] [] [] N z F En Ez EF nL8 zL8 FL8 En Ez EF) ∧ (cv + xg nL8 ≤ xg n + (0) ∧ sv + xp nL8 ≤ xp n + (0)) ∧ (zL8 12 = z 12) ∧ (0 ≤ k ∧ k ≤ z 0) ∧ (rs_so (rs_bf lv ab (rs_sE Ez) cm) (FL8 1) 0 (zL8 1)) ∧ (∀ x, rs_me (FL8 1) 0 (zL8 1) x ↔ (rs_me (F 1) 0 (z 1) x ∨ (rs_Q lv ab (rs_sE Ez) (z 12) 2 p0 x ∧ ∃ i, 0 ≤ i ∧ i < k ∧ rs_w lv ab (rs_sE Ez) x 2 = F 0 i)))) → (z 0 - k).toNat < n0 → ∀ (H : Heap) (locs : List Loc), va_P (dC, dI) kxCl ((xU cI cB cE o rL8 nL8 zL8 FL8 G (Eo 0 0)) ++ (eP cI N Eo Er En Ez EF)) H → va_D A ((xU cI cB cE o rL8 nL8 zL8 FL8 G (Eo 0 0)) ++ (eP cI N Eo Er En Ez EF)) → va_S A s.heap H locs → ∀ ls : Array Slot, lv_has ls 5 [(3, .int (iz k)), (0, .ref (o 15)), (1, .int (iz p0)), (2, .int (iz 2))] → W p l e (headSpec [.code yX5_addRowsUnder cX5_addRowsUnder 5 none] ({ frames := 3, cells := 200, slots := 90000, locals := 103 })).room s m ([.ref (o 15), .int (iz p0), .int (iz 2)] : List Value).toArray below meth c H locs cv sv QQ (F0 m 8 ls []) := by
      intro n0
      induction n0 with
      | zero => intro k rL8 nL8 zL8 FL8 cv sv hinv hm0; exact absurd hm0 (Nat.not_lt_zero _)
      | succ n0 ih8 =>
        intro k rL8 nL8 zL8 FL8 cv sv hinv hm0 H locs hP hD hS ls hl
        obtain ⟨hRLL8, hCLL8, hZLL8, hk, hso, hme⟩ := hinv
        have hkzL8_0 : zL8 0 = z 0 := hRLL8.2.1.1 0 (by decide)
        have hF0 : FL8 0 = F 0 := hRLL8.2.1.2 0 (by decide)
        have hzz1 : 0 ≤ zL8 1 ∧ zL8 1 ≤ (nL8 1 : Int) ∧ (nL8 1 : Int) ≤ 80 := hRLL8.1.1 1 (by decide)
        have hrng : ∀ j, 0 ≤ j → j < zL8 1 → 0 ≤ FL8 1 j ∧ FL8 1 j < z 12 := fun j a b => by rcases (hme (FL8 1 j)).mp ⟨j, a, b, rfl⟩ with h9 | h9; (obtain ⟨j2, a2, b2, c2⟩ := h9; rw [← c2]; exact hRm j2 a2 b2); exact ⟨h9.1.1.1, h9.1.1.2.1⟩
        have hfew : zL8 1 ≤ z 12 := rs_few (by omega) (by omega) hrng (fun i j a b c h9 => rs_bf_ir hcm (FL8 1 i) (by have h8 := hso i j a b c; rw [← h9] at h8; exact h8))
        refine lv_iload_n hx hb dX5_addRowsUnder_8 rfl (lv_at hl 0 rfl) ?_
        refine lv_aload_n hx hb dX5_addRowsUnder_9 rfl (lv_at hl 1 rfl) ?_
        refine va_get (D := (dC, dI)) (ci := 5) (v := .ref (o 0)) (C := RX5) (T := TX5) (N := 16) hx hb hts kt_X5 hown hK hP 0 rfl rfl 5 (by decide) (kx_word hG kq_18_xrows_37 rfl) (fun _ h9 => h9) rfl dX5_addRowsUnder_10 ?_
        have hxi_2 : 0 ≤ zL8 0 ∧ zL8 0 ≤ ((nL8 0 : Nat) : Int) ∧ ((nL8 0 : Nat) : Int) ≤ 80 := hRLL8.1.1 0 (by decide)
        have hPc := hP.sub (ws' := (iU cI 80 (o 0) (rL8 0) (nL8 0) (zL8 0) (FL8 0))) [2, 3] rfl
        refine xk_pure (va_runV (As := []) (rest := [.int (iz k)]) ⟨hx, hb, hml, hown, hts⟩ (x_size l dC dI cI cB cE 80 (o 0) (rL8 0) (nL8 0) (zL8 0) (FL8 0)  H.size ) (cwV 0 hts (kx_gV kq_18_xrows_40 kq_15_xspan_10 kq_15_xspan_11 kq_13_xints_6 kq_15_xspan_12 rfl) rfl rfl rfl (by decide +kernel) ⟨Nat.le_of_ble_eq_true rfl, Nat.le_of_ble_eq_true rfl⟩) ⟨pPre_blind, va_recv hK hPc (ci := 1) (q0 := 0) rfl rfl, pPre_give hPc hK hG⟩ rfl rfl hl.1 rfl (lv_room (Nat.le_of_ble_eq_true rfl)) dX5_addRowsUnder_13 ⟨show cv + 0 ≤ 200 from (by omega), show sv + 0 ≤ 90000 from (by omega)⟩) hS (fun z_4 locs hq_3 hS => ?_)
        refine W.eq (g2 := F0 m 16 ls [.int (iz z_4), .int (iz k)]) rfl ?_
        try dsimp only at hq_3
        have hq_3 := hq_3.symm
        subst hq_3
        refine ki_icmp_ge (tgt := 83) hx hb dX5_addRowsUnder_16 (by decide) (by omega) (by omega) (by omega) (by omega) (fun c_5 => ?_) (fun c_5 => ?_)
        · skip
          rw [← hQe]
          exact xk_vret (ov := (fun _ : (Nat → Nat) × (Nat → Nat) × (Nat → Int) × (Nat → Int → Int) × (Nat → Nat → Nat) × (Nat → Nat → Nat) × (Nat → Nat → Int) × (Nat → Nat → Int → Int) => none)) (post := (fun (u : (Nat → Nat) × (Nat → Nat) × (Nat → Int) × (Nat → Int → Int) × (Nat → Nat → Nat) × (Nat → Nat → Nat) × (Nat → Nat → Int) × (Nat → Nat → Int → Int)) (dn dm : Nat) => match u with | (r', n', z', F', Er', En', Ez', EF') => xR [1] [1] [] [] N z F En Ez EF n' z' F' En' Ez' EF' ∧ (dn + xg n' ≤ xg n + 0 ∧ dm + xp n' ≤ xp n + 0) ∧ (rs_so (rs_bf lv ab (rs_sE Ez) cm) (F' 1) 0 (z' 1) ∧ (∀ x, rs_me (F' 1) 0 (z' 1) x ↔ (rs_me (F 1) 0 (z 1) x ∨ rs_Q lv ab (rs_sE Ez) (z 12) 2 p0 x)) ∧ Er = Er' ∧ En = En' ∧ Ez = Ez' ∧ EF = EF'))) (ws := (fun u : (Nat → Nat) × (Nat → Nat) × (Nat → Int) × (Nat → Int → Int) × (Nat → Nat → Nat) × (Nat → Nat → Nat) × (Nat → Nat → Int) × (Nat → Nat → Int → Int) => match u with | (r', n', z', F', Er', En', Ez', EF') => (xU cI cB cE o r' n' z' F' G (Eo 0 0) ++ eP cI N Eo Er' En' Ez' EF'))) (tys := xT cI cB cE) (rL8, nL8, zL8, FL8, Er, En, Ez, EF) hx hb hr hlocks rfl hP hD hK hS dX5_addRowsUnder_83 (fun dn dm hdn hdm => ⟨⟨hRLL8.1, hRLL8.2.1, hRLL8.2.2.1, hRLL8.2.2.2⟩, ⟨by omega, by omega⟩, ⟨hso, rs_under_end hL hPs (by omega) hSm (by rw [← show k = z 0 by omega]; exact hme), rfl, rfl, rfl, rfl⟩⟩) (by omega) (by omega)
        · skip
          refine lv_aload_n hx hb dX5_addRowsUnder_19 rfl (lv_at hl 1 rfl) ?_
          refine va_get (D := (dC, dI)) (ci := 5) (v := .ref (o 0)) (C := RX5) (T := TX5) (N := 16) hx hb hts kt_X5 hown hK hP 0 rfl rfl 5 (by decide) (kx_word hG kq_18_xrows_37 rfl) (fun _ h9 => h9) rfl dX5_addRowsUnder_20 ?_
          refine lv_iload_n hx hb dX5_addRowsUnder_23 rfl (lv_at hl 0 rfl) ?_
          have hPc := hP.sub (ws' := (iU cI 80 (o 0) (rL8 0) (nL8 0) (zL8 0) (FL8 0))) [2, 3] rfl
          refine xk_pure (va_runV (As := [.int (iz k)]) (rest := []) ⟨hx, hb, hml, hown, hts⟩ (x_get l dC dI cI cB cE 80 (o 0) (rL8 0) (nL8 0) (zL8 0) (FL8 0) k H.size (by omega) (hRLL8.1.2.2.1 0) (by omega) (by omega)) (cwV 1 hts (kx_gV kq_18_xrows_41 kq_13_xints_4 kq_13_xints_5 kq_13_xints_6 kq_13_xints_7 rfl) rfl rfl rfl (by decide +kernel) ⟨Nat.le_of_ble_eq_true rfl, Nat.le_of_ble_eq_true rfl⟩) ⟨pPre_blind, va_recv hK hPc (ci := 1) (q0 := 0) rfl rfl, pPre_give hPc hK hG⟩ rfl rfl hl.1 rfl (lv_room (Nat.le_of_ble_eq_true rfl)) dX5_addRowsUnder_24 ⟨show cv + 0 ≤ 200 from (by omega), show sv + 0 ≤ 90000 from (by omega)⟩) hS (fun z_7 locs hq_6 hS => ?_)
          refine W.eq (g2 := F0 m 27 ls [.int (iz z_7)]) rfl ?_
          try dsimp only at hq_6
          have ev_8 : z_7 = F 0 k := by have h9 := congrFun hF0 k; omega
          subst ev_8
          refine W.eq (g2 := F0 m 27 ls [.int (iz (F 0 k))]) rfl ?_
          have hsk := (hSm (F 0 k)).mp ⟨k, by omega, by omega, rfl⟩
          have h78 := hRH.2.1 (F 0 k) hsk.1 hsk.2.1
          have hlvk := hL (F 0 k) hsk.1 hsk.2.1
          refine lv_istore (lv' := [(4, .int (iz (F 0 k))), (3, .int (iz k)), (0, .ref (o 15)), (1, .int (iz p0)), (2, .int (iz 2))]) hx hb dX5_addRowsUnder_27 hl (by decide) rfl (fun ls hl => ?_)
          refine lv_aload_n hx hb dX5_addRowsUnder_29 rfl (lv_at hl 2 rfl) ?_
          refine lv_iload hx hb dX5_addRowsUnder_30 (lv_at hl 0 rfl) ?_
          have hxz_9 : -2147483648 ≤ zL8 12 ∧ zL8 12 < 2147483648 := hRLL8.1.2.2.2.1 12
          have hxG9 : xG N (zL8 12) G Eo := ⟨by omega, by omega, by omega, fun e9 h9 => hN4 e9 (by omega)⟩
          have hP : va_P (dC, dI) kxCl (xU cI cB cE o rL8 nL8 zL8 FL8 G (Eo 0 0) ++ eP cI N Eo Er En Ez EF) H := hP
          refine xk_pure (va_runV (As := [.int (iz (F 0 k))]) (rest := []) ⟨hx, hb, hml, hown, hts⟩ (y_known l dC dI cI cB cE o rL8 nL8 zL8 FL8 G N Eo Er En Ez EF (F 0 k) H.size hRLL8.1 hxG9 hRLL8.2.2.1 (by omega) (by omega)) (cwV 1 hts (kx_gV kq_18_xrows_8 kq_18_xrows_9 kq_18_xrows_10 kq_18_xrows_4 kq_18_xrows_11 rfl) rfl rfl rfl (by decide +kernel) ⟨Nat.le_of_ble_eq_true rfl, Nat.le_of_ble_eq_true rfl⟩) ⟨pPre_blind, va_recv hK hP (ci := 5) (q0 := 0) rfl rfl, pPre_give hP hK hG⟩ rfl rfl hl.1 rfl (lv_room (Nat.le_of_ble_eq_true rfl)) dX5_addRowsUnder_32 ⟨show cv + 0 ≤ 200 from (by omega), show sv + 0 ≤ 90000 from (by omega)⟩) hS (fun z_11 locs hq_10 hS => ?_)
          refine W.eq (g2 := F0 m 35 ls [.ref z_11.toNat]) rfl ?_
          try dsimp only at hq_10
          obtain ⟨j12, hj12, ez12, hje12⟩ := hq_10
          subst ez12
          refine W.eq (g2 := F0 m 35 ls [.ref (Eo j12 0)]) rfl ?_
          have ej12 : j12 = ((F 0 k) + 1).toNat := by omega
          subst ej12
          have hP := eP_foc hj12 hP
          have hD := eD_foc hj12 hD
          have hez_13 : -2147483648 ≤ Ez (((F 0 k) + 1).toNat) 7 ∧ Ez (((F 0 k) + 1).toNat) 7 < 2147483648 := (hRLL8.2.2.1 (((F 0 k) + 1).toNat) hj12).2.2 7
          refine va_getN (D := (dC, dI)) (ci := 0) (v := .int (iz (Ez (((F 0 k) + 1).toNat) 7))) (C := RX0) (T := TX0) (N := 12) hx hb hts kt_X0 hown hK hP 29 rfl rfl 0 (by decide) (va_Nw.use rfl (kx_nf hG kq_18_xrows_12)) (fun _ h9 => h9) rfl dX5_addRowsUnder_35 ?_
          refine lv_iload_n hx hb dX5_addRowsUnder_38 rfl (lv_at hl 4 rfl) ?_
          refine ki_icmp_ne (tgt := 77) hx hb dX5_addRowsUnder_39 (by decide) (by omega) (by omega) (by omega) (by omega) (fun c_14 => ?_) (fun c_14 => ?_)
          · skip
            refine lv_iinc (v := iz (k + 1)) (lv' := [(3, .int (iz (k + 1))), (4, .int (iz (F 0 k))), (0, .ref (o 15)), (1, .int (iz p0)), (2, .int (iz 2))]) hx hb dX5_addRowsUnder_77 hl (k := 1) rfl (iz_add k 1) (by decide) rfl (fun ls hl => ?_)
            refine lv_goto (tgt := 8) hx hb dX5_addRowsUnder_80 (by decide) ?_
            have hP := eP_un0 hj12 hP
            have hD := eD_un0 hj12 hD
            exact ih8 (k + 1) rL8 nL8 zL8 FL8 cv sv ⟨⟨hRLL8.1, hRLL8.2.1, hRLL8.2.2.1, hRLL8.2.2.2⟩, ⟨by omega, by omega⟩, (show zL8 12 = z 12 by omega), by omega, hso, rs_under_skip hL hPs (by omega) (fun h9 => absurd h9.1 (by omega)) hme⟩ (by omega) _ _ hP hD hS ls (lv_sub hl [0, 2, 3, 4] rfl)
          · skip
            refine lv_aload_n hx hb dX5_addRowsUnder_42 rfl (lv_at hl 2 rfl) ?_
            refine lv_aload_n hx hb dX5_addRowsUnder_43 rfl (lv_at hl 2 rfl) ?_
            refine lv_iload hx hb dX5_addRowsUnder_44 (lv_at hl 0 rfl) ?_
            have hP := eP_un0 hj12 hP
            have hD := eD_un0 hj12 hD
            have hxG9 : xG N (zL8 12) G Eo := ⟨by omega, by omega, by omega, fun e9 h9 => hN4 e9 (by omega)⟩
            have hP : va_P (dC, dI) kxCl (xU cI cB cE o rL8 nL8 zL8 FL8 G (Eo 0 0) ++ eP cI N Eo Er En Ez EF) H := hP
            refine xk_pure (va_runV (As := [.int (iz (F 0 k))]) (rest := [.ref (o 15)]) ⟨hx, hb, hml, hown, hts⟩ (y_known l dC dI cI cB cE o rL8 nL8 zL8 FL8 G N Eo Er En Ez EF (F 0 k) H.size hRLL8.1 hxG9 hRLL8.2.2.1 (by omega) (by omega)) (cwV 1 hts (kx_gV kq_18_xrows_8 kq_18_xrows_9 kq_18_xrows_10 kq_18_xrows_4 kq_18_xrows_11 rfl) rfl rfl rfl (by decide +kernel) ⟨Nat.le_of_ble_eq_true rfl, Nat.le_of_ble_eq_true rfl⟩) ⟨pPre_blind, va_recv hK hP (ci := 5) (q0 := 0) rfl rfl, pPre_give hP hK hG⟩ rfl rfl hl.1 rfl (lv_room (Nat.le_of_ble_eq_true rfl)) dX5_addRowsUnder_46 ⟨show cv + 0 ≤ 200 from (by omega), show sv + 0 ≤ 90000 from (by omega)⟩) hS (fun z_16 locs hq_15 hS => ?_)
            refine W.eq (g2 := F0 m 49 ls [.ref z_16.toNat, .ref (o 15)]) rfl ?_
            try dsimp only at hq_15
            obtain ⟨j17, hj17, ez17, hje17⟩ := hq_15
            subst ez17
            refine W.eq (g2 := F0 m 49 ls [.ref (Eo j17 0), .ref (o 15)]) rfl ?_
            have ej17 : j17 = ((F 0 k) + 1).toNat := by omega
            subst ej17
            have hP := eP_foc hj17 hP
            have hD := eD_foc hj17 hD
            have hez_18 : -2147483648 ≤ Ez (((F 0 k) + 1).toNat) 8 ∧ Ez (((F 0 k) + 1).toNat) 8 < 2147483648 := (hRLL8.2.2.1 (((F 0 k) + 1).toNat) hj17).2.2 8
            refine va_getN (D := (dC, dI)) (ci := 0) (v := .int (iz (Ez (((F 0 k) + 1).toNat) 8))) (C := RX0) (T := TX0) (N := 12) hx hb hts kt_X0 hown hK hP 29 rfl rfl 1 (by decide) (va_Nw.use rfl (kx_nf hG kq_18_xrows_14)) (fun _ h9 => h9) rfl dX5_addRowsUnder_49 ?_
            have hP := eP_un0 hj17 hP
            have hD := eD_un0 hj17 hD
            have hxG9 : xG N (zL8 12) G Eo := ⟨by omega, by omega, by omega, fun e9 h9 => hN4 e9 (by omega)⟩
            have hP : va_P (dC, dI) kxCl (xU cI cB cE o rL8 nL8 zL8 FL8 G (Eo 0 0) ++ eP cI N Eo Er En Ez EF) H := hP
            refine xk_pure (va_runV (As := [.int (iz (Ez (((F 0 k) + 1).toNat) 8))]) (rest := []) ⟨hx, hb, hml, hown, hts⟩ (y_firstOf2 l dC dI cI cB cE o rL8 nL8 zL8 FL8 G N Eo Er En Ez EF (Ez (((F 0 k) + 1).toNat) 8) H.size hRLL8.1 hxG9 hRLL8.2.2.1 (by omega) (by omega)) (cwV 1 hts (kx_gV kq_18_xrows_15 kq_18_xrows_16 kq_18_xrows_17 kq_18_xrows_4 kq_18_xrows_18 rfl) rfl rfl rfl (by decide +kernel) ⟨Nat.le_of_ble_eq_true rfl, Nat.le_of_ble_eq_true rfl⟩) ⟨pPre_blind, va_recv hK hP (ci := 5) (q0 := 0) rfl rfl, pPre_give hP hK hG⟩ rfl rfl hl.1 rfl (lv_room (Nat.le_of_ble_eq_true rfl)) dX5_addRowsUnder_52 ⟨show cv + 0 ≤ 200 from (by omega), show sv + 0 ≤ 90000 from (by omega)⟩) hS (fun z_20 locs hq_19 hS => ?_)
            refine W.eq (g2 := F0 m 55 ls [.int (iz z_20)]) rfl ?_
            try dsimp only at hq_19
            obtain ⟨hq_19, hq_19b⟩ := hq_19
            subst hq_19
            refine W.eq (g2 := F0 m 55 ls [.int (iz (rs_fo (zL8 12) Ez (Ez (((F 0 k) + 1).toNat) 8)))]) rfl ?_
            refine lv_iload_n hx hb dX5_addRowsUnder_55 rfl (lv_at hl 3 rfl) ?_
            refine ki_icmp_ne (tgt := 77) hx hb dX5_addRowsUnder_56 (by decide) (by omega) (by omega) (by omega) (by omega) (fun c_21 => ?_) (fun c_21 => ?_)
            · skip
              refine lv_iinc (v := iz (k + 1)) (lv' := [(3, .int (iz (k + 1))), (4, .int (iz (F 0 k))), (0, .ref (o 15)), (1, .int (iz p0)), (2, .int (iz 2))]) hx hb dX5_addRowsUnder_77 hl (k := 1) rfl (iz_add k 1) (by decide) rfl (fun ls hl => ?_)
              refine lv_goto (tgt := 8) hx hb dX5_addRowsUnder_80 (by decide) ?_
              exact ih8 (k + 1) rL8 nL8 zL8 FL8 cv sv ⟨⟨hRLL8.1, hRLL8.2.1, hRLL8.2.2.1, hRLL8.2.2.2⟩, ⟨by omega, by omega⟩, (show zL8 12 = z 12 by omega), by omega, hso, rs_under_skip hL hPs (by omega) (fun h9 => by have h8 := h9.2.resolve_left (by omega); rw [← h78.2] at h8; exact absurd (show rs_fo (zL8 12) Ez (Ez ((F 0 k + 1).toNat) 8) = p0 from (if_pos (show 0 ≤ Ez ((F 0 k + 1).toNat) 8 ∧ Ez ((F 0 k + 1).toNat) 8 < zL8 12 by omega)).trans h8) (by omega)) hme⟩ (by omega) _ _ hP hD hS ls (lv_sub hl [0, 2, 3, 4] rfl)
            · skip
              have hle9 : lv (F 0 k) = 2 := by omega
              have hfo9 : rs_sE Ez (ab (F 0 k)) = p0 := by rw [← h78.2]; exact (if_pos (show 0 ≤ Ez ((F 0 k + 1).toNat) 8 ∧ Ez ((F 0 k + 1).toNat) 8 < zL8 12 by omega)).symm.trans (show rs_fo (zL8 12) Ez (Ez ((F 0 k + 1).toNat) 8) = p0 by omega)
              have hQe : rs_Q lv ab (rs_sE Ez) (z 12) 2 p0 (F 0 k) := ⟨hsk, by omega, Or.inr ((rs_w_up1 (show lv (F 0 k) = 2 - 1 + 1 by omega)).trans hfo9)⟩
              refine lv_aload_n hx hb dX5_addRowsUnder_59 rfl (lv_at hl 2 rfl) ?_
              refine va_get (D := (dC, dI)) (ci := 5) (v := .ref (o 1)) (C := RX5) (T := TX5) (N := 16) hx hb hts kt_X5 hown hK hP 0 rfl rfl 6 (by decide) (kx_word hG kq_18_xrows_47 rfl) (fun _ h9 => h9) rfl dX5_addRowsUnder_60 ?_
              refine lv_iload hx hb dX5_addRowsUnder_63 (lv_at hl 0 rfl) ?_
              have hxi_22 : 0 ≤ zL8 1 ∧ zL8 1 ≤ ((nL8 1 : Nat) : Int) ∧ ((nL8 1 : Nat) : Int) ≤ 80 := hRLL8.1.1 1 (by decide)
              have hPc := hP.sub (ws' := (iU cI 80 (o 1) (rL8 1) (nL8 1) (zL8 1) (FL8 1))) [4, 5] rfl
              have hDc := hD.sub (ws' := (iU cI 80 (o 1) (rL8 1) (nL8 1) (zL8 1) (FL8 1))) [4, 5] (by decide) rfl
              have hFc := va_free (wc := (iU cI 80 (o 1) (rL8 1) (nL8 1) (zL8 1) (FL8 1))) hD hS hA [4, 5] rfl
              refine xk_call (va_runV (As := [.int (iz (F 0 k))]) (rest := []) ⟨hx, hb, hml, hown, hts⟩ (x_add l dC dI cI cB cE 80 (o 1) (rL8 1) (nL8 1) (zL8 1) (FL8 1) (F 0 k) H.size (by omega) (hRLL8.1.2.2.1 1) (by omega) (by omega)) (cwV 1 hts (kx_gV kq_18_xrows_39 kq_15_xspan_46 kq_15_xspan_47 kq_13_xints_6 kq_15_xspan_48 rfl) rfl rfl rfl (by decide +kernel) ⟨Nat.le_of_ble_eq_true rfl, Nat.le_of_ble_eq_true rfl⟩) ⟨kx_blind, va_recv hK hPc (ci := 1) (q0 := 0) rfl rfl, kx_give (ws := []) (tys := []) hPc hDc hK hG hZ hS hFc⟩ rfl rfl hl.1 rfl (lv_room (Nat.le_of_ble_eq_true rfl)) dX5_addRowsUnder_65 ⟨show cv + 1 ≤ 200 from (by omega), show sv + 1600 ≤ 90000 from (by omega)⟩) hS (fun q _ h => hFc q h) hFc (fun u dn_24 dm_25 t H locs ht hvm hq_23 hB hk1 hS => ?_)
              obtain ⟨r_26, n_27, z_28, F_29⟩ := u
              obtain ⟨hP1, hK1, hD1⟩ := hB
              rw [ht] at hP1
              obtain ⟨hP, hD⟩ := xj_pool (wr := [(o 15, .inr (5, [.ref (o 16), .ref (Eo 0 0), .int (iz (zL8 12)), .int (iz (zL8 13)), .int (iz (zL8 14)), .ref (o 0), .ref (o 1), .int (iz (zL8 15)), .ref (o 13), .ref (o 14), .int (iz (zL8 16)), .ref (o 2), .ref (o 12), .ref (o 3), .ref (o 10), .ref (o 11)])), (o 16, .inl (cE, 80, .inr (.inr (.inr (.inr G))))), (o 0, .inr (1, [.int (iz 80), .ref (rL8 0), .int (iz (zL8 0))])), (rL8 0, .inl (cI, nL8 0, .inl (iA (FL8 0)))), (o 2, .inr (1, [.int (iz 80), .ref (rL8 2), .int (iz (zL8 2))])), (rL8 2, .inl (cI, nL8 2, .inl (iA (FL8 2)))), (o 3, .inr (1, [.int (iz 80), .ref (rL8 3), .int (iz (zL8 3))])), (rL8 3, .inl (cI, nL8 3, .inl (iA (FL8 3)))), (o 13, .inr (3, [.ref (o 4), .ref (o 5), .ref (o 6)])), (o 4, .inr (1, [.int (iz 1600), .ref (rL8 4), .int (iz (zL8 4))])), (rL8 4, .inl (cI, nL8 4, .inl (iA (FL8 4)))), (o 5, .inr (1, [.int (iz 1600), .ref (rL8 5), .int (iz (zL8 5))])), (rL8 5, .inl (cI, nL8 5, .inl (iA (FL8 5)))), (o 6, .inr (1, [.int (iz 1600), .ref (rL8 6), .int (iz (zL8 6))])), (rL8 6, .inl (cI, nL8 6, .inl (iA (FL8 6)))), (o 14, .inr (3, [.ref (o 7), .ref (o 8), .ref (o 9)])), (o 7, .inr (1, [.int (iz 1600), .ref (rL8 7), .int (iz (zL8 7))])), (rL8 7, .inl (cI, nL8 7, .inl (iA (FL8 7)))), (o 8, .inr (1, [.int (iz 1600), .ref (rL8 8), .int (iz (zL8 8))])), (rL8 8, .inl (cI, nL8 8, .inl (iA (FL8 8)))), (o 9, .inr (1, [.int (iz 1600), .ref (rL8 9), .int (iz (zL8 9))])), (rL8 9, .inl (cI, nL8 9, .inl (iA (FL8 9)))), (o 12, .inr (4, [.int (iz (zL8 17)), .int (iz (zL8 18)), .int (iz (zL8 19)), .int (iz (zL8 20)), .int (iz (zL8 21))])), (o 10, .inr (2, [.ref (rL8 10), .int (iz (zL8 10)), .int (iz (zL8 22))])), (rL8 10, .inl (cB, nL8 10, .inl (iA (FL8 10)))), (o 11, .inr (2, [.ref (rL8 11), .int (iz (zL8 11)), .int (iz (zL8 23))])), (rL8 11, .inl (cB, nL8 11, .inl (iA (FL8 11))))]) (w1 := (iU cI 80 (o 1) r_26 n_27 z_28 F_29)) (ws' := (xU cI cB cE o (va_up rL8 1 r_26) (va_up nL8 1 n_27) (va_up zL8 1 z_28) (va_up FL8 1 F_29) G (Eo 0 0))) hP hD [4, 5] [0, 1, 2, 3, 6, 7, 8, 9, 10, 11, 12, 13, 14, 15, 16, 17, 18, 19, 20, 21, 22, 23, 24, 25, 26, 27, 28] [0, 1, 2, 3, 27, 28, 4, 5, 6, 7, 8, 9, 10, 11, 12, 13, 14, 15, 16, 17, 18, 19, 20, 21, 22, 23, 24, 25, 26] rfl rfl (by decide) (by decide) hk1 hFc hP1 hD1 rfl (by decide)
              refine W.eq (g2 := F0 m 68 ls []) rfl ?_
              try dsimp only at hq_23
              obtain ⟨ha30, hb30, hc30, hd30⟩ := hq_23
              have hax30 := hd30.1
              obtain ⟨haz, haf, hav⟩ := rs_added (by omega) (by omega) hd30
              refine lv_aload_n hx hb dX5_addRowsUnder_68 rfl (lv_at hl 2 rfl) ?_
              refine lv_iload hx hb dX5_addRowsUnder_69 (lv_at hl 0 rfl) ?_
              refine lv_iload_n hx hb dX5_addRowsUnder_71 rfl (lv_at hl 4 rfl) ?_
              refine lv_iconst (v := iz 1) hx hb dX5_addRowsUnder_72 (by decide) ?_
              refine ki_iadd hx hb dX5_addRowsUnder_73 ?_
              refine ki_is (show iz (2 + 1) = iz 3 from rfl) ?_
              have hok31 : xOk (va_up nL8 1 n_27) (va_up zL8 1 z_28) (va_up FL8 1 F_29) := (hRLL8.1.i 1 (by decide) (show 0 ≤ z_28 ∧ z_28 ≤ ((n_27 : Nat) : Int) ∧ ((n_27 : Nat) : Int) ≤ 80 by omega) hb30)
              have hfr31 : xFr [1] [1] z F (va_up zL8 1 z_28) (va_up FL8 1 F_29) := ((hRLL8.2.1.uz 1 (by decide) _).uf 1 (by decide) _)
              have hcg31 : (dn_24) + xg (va_up nL8 1 n_27) ≤ xg nL8 := by unfold xg; simp (decide := true) only [va_ev, ↓reduceIte]; omega
              have hcp31 : (dm_25) + xp (va_up nL8 1 n_27) ≤ xp nL8 := by unfold xp; simp (decide := true) only [va_ev, ↓reduceIte]; omega
              have hxG9 : xG N (zL8 12) G Eo := ⟨by omega, by omega, by omega, fun e9 h9 => hN4 e9 (by omega)⟩
              have hP : va_P (dC, dI) kxCl (xU cI cB cE o (va_up rL8 1 r_26) (va_up nL8 1 n_27) (va_up zL8 1 z_28) (va_up FL8 1 F_29) G (Eo 0 0) ++ eP cI N Eo Er En Ez EF) H := hP
              have hD : va_D A (xU cI cB cE o (va_up rL8 1 r_26) (va_up nL8 1 n_27) (va_up zL8 1 z_28) (va_up FL8 1 F_29) G (Eo 0 0) ++ eP cI N Eo Er En Ez EF) := hD
              have hFc := xw_free hD hS hA
              refine xk_call (va_runV (As := [.int (iz (F 0 k)), .int (iz 3)]) (rest := []) ⟨hx, hb, hml, hown, hts⟩ (y_addRows2_3 l dC dI cI cB cE o (va_up rL8 1 r_26) (va_up nL8 1 n_27) (va_up zL8 1 z_28) (va_up FL8 1 F_29) G N Eo Er En Ez EF (F 0 k) lv ab Wd cm H.size hok31 hxG9 hRLL8.2.2.1 (by omega) (by omega) (by show rs_H (zL8 12) Ez EF lv ab Wd cm; rw [show zL8 12 = z 12 by omega]; exact hRH) (by show rs_C lv ab Wd (zL8 12) (rs_sE Ez); rw [show zL8 12 = z 12 by omega]; exact hC) (show zL8 12 ≤ 78 by omega) (by show rs_so (rs_lt cm) (FL8 0) 0 (zL8 0); rw [hF0, hkzL8_0]; exact hSo) (by show ∀ x, rs_me (FL8 0) 0 (zL8 0) x ↔ (0 ≤ x ∧ x < zL8 12 ∧ rs_sE Ez x = x); rw [hF0, hkzL8_0, show zL8 12 = z 12 by omega]; exact hSm) (by show rs_so (rs_bf lv ab (rs_sE Ez) cm) F_29 0 z_28; rw [haz]; exact rs_so_snoc (by omega) hso haf hav (fun j a b => rs_under_bf hL hPs hcm (by omega) (m := z 0) (by omega) hSo hpre hme ⟨j, a, b, rfl⟩ hQe (rs_w_is hle9))) (by show ∀ j, 0 ≤ j → j < z_28 → 0 ≤ F_29 j ∧ F_29 j < zL8 12; intro j a b; by_cases c9 : j = zL8 1; (rw [c9, hav]; omega); (rw [haf j a (by omega), show zL8 12 = z 12 by omega]; exact hrng j a (by omega))) (by show ∀ y, rs_me F_29 0 z_28 y → ∀ x, rs_Q lv ab (rs_sE Ez) (zL8 12) 3 (F 0 k) x → (rs_bf lv ab (rs_sE Ez) cm) y x; rw [haz, show zL8 12 = z 12 by omega]; intro y hy x hx; rcases (rs_me_snoc (by omega) haf hav).mp hy with h9 | h9; (rw [h9]; exact absurd hx.2.1 (by have h8 := (hL x hx.1.1 hx.1.2.1).1; omega)); exact rs_under_bf hL hPs hcm (by omega) (m := z 0) (by omega) hSo hpre hme h9 (rs_Q_up hL hPs (by omega) hQe hle9 hx) (by have h8 := hx.2.2.resolve_left (by omega); exact h8)) (by omega)) (cwV 2 hts (kx_gV kq_18_xrows_48 kq_18_xrows_49 kq_18_xrows_50 kq_18_xrows_4 kq_18_xrows_51 rfl) rfl rfl rfl (by decide +kernel) ⟨Nat.le_of_ble_eq_true rfl, Nat.le_of_ble_eq_true rfl⟩) ⟨kx_blind, va_recv hK hP (ci := 5) (q0 := 0) rfl rfl, kx_give (ws := []) (tys := []) hP hD hK hG hZ hS hFc⟩ rfl rfl hl.1 rfl (lv_room (Nat.le_of_ble_eq_true rfl)) dX5_addRowsUnder_74 ⟨show (cv + dn_24) + 100 ≤ 200 from (by omega), show (sv + dm_25) + 45000 ≤ 90000 from (by omega)⟩) hS (fun q _ h => hFc q h) hFc (fun u dn_34 dm_35 t H locs ht hvm hq_32 hB hk1 hS => ?_)
              obtain ⟨r_36, n_37, z_38, F_39, Er_40, En_41, Ez_42, EF_43⟩ := u
              obtain ⟨hP, hK1, hD1⟩ := hB
              rw [ht] at hP
              have hD := hD1.weaken (fun _ q _ h => hFc _ h)
              obtain ⟨hR44, hC44, hq_32⟩ := hq_32
              have hok44 := hR44.1
              have hfr44 := hfr31.tr (hR44.2.1.mono (S' := [1]) (T' := [1]) (by decide) (by decide))
              have hPE44 := hR44.2.2.1
              have hef44 := hRLL8.2.2.2.tr (hR44.2.2.2.mono (S' := []) (T' := []) (by decide) (by decide))
              have hz44 : z_38 12 = (zL8 12) := hR44.2.1.1 12 (by decide)
              have hkz44_0 : z_38 0 = z 0 := hfr44.1 0 (by decide)
              refine W.eq (g2 := F0 m 77 ls []) rfl ?_
              try dsimp only at hq_32
              try simp (decide := true) only [va_ev, ↓reduceIte] at hq_32
              obtain ⟨hs45, hm45, hp45⟩ := hq_32
              rw [show zL8 12 = z 12 by omega] at hm45
              obtain ⟨rfl, rfl, rfl, rfl⟩ := hp45
              refine lv_iinc (v := iz (k + 1)) (lv' := [(3, .int (iz (k + 1))), (4, .int (iz (F 0 k))), (0, .ref (o 15)), (1, .int (iz p0)), (2, .int (iz 2))]) hx hb dX5_addRowsUnder_77 hl (k := 1) rfl (iz_add k 1) (by decide) rfl (fun ls hl => ?_)
              refine lv_goto (tgt := 8) hx hb dX5_addRowsUnder_80 (by decide) ?_
              exact ih8 (k + 1) r_36 n_37 z_38 F_39 ((cv + dn_24) + dn_34) ((sv + dm_25) + dm_35) ⟨⟨hok44, hfr44, hPE44, hef44⟩, ⟨by omega, by omega⟩, (show z_38 12 = z 12 by omega), by omega, hs45, rs_under_step hL hPs (by omega) (by omega) hQe hle9 hme (show ∀ x, rs_me F_29 0 z_28 x ↔ (x = F 0 k ∨ rs_me (FL8 1) 0 (zL8 1) x) from fun x => by rw [haz]; exact rs_me_snoc (by omega) haf hav) hm45⟩ (by omega) _ _ hP hD hS ls (lv_sub hl [0, 2, 3, 4] rfl)
    exact lp8 _ 0 r n z F 0 0 ⟨⟨hok, hfr, hPE, hef⟩, ⟨by omega, by omega⟩, (show z 12 = z 12 by omega), by omega, hRo, fun x => ⟨fun h9 => Or.inl h9, fun h9 => by rcases h9 with h9 | ⟨-, i, a, b, -⟩; exact h9; exact absurd b (by omega)⟩⟩ (Nat.lt_succ_self _) _ _ hP hD hS ls (lv_sub hl [0, 1, 2, 3] rfl)
  · omega
set_option maxHeartbeats 4000000 in
set_option maxRecDepth 100000 in
theorem y_addRows2_1 (l : Launch) (dC : Nat → ClassId) (dI : Nat → Nat → Nat) (cI cB cE : ClassId) (o r n : Nat → Nat) (z : Nat → Int) (F : Nat → Int → Int) (G : Nat → Option Nat) (N : Nat) (Eo Er En : Nat → Nat → Nat) (Ez : Nat → Nat → Int) (EF : Nat → Nat → Int → Int) (p0 : Int) (lv : Int → Int) (ab : Int → Int) (Wd : Int → Int → Prop) (cm : Int → Int → Int) (sz : Nat) (hok : xOk n z F) (hxG : xG N (z 12) G Eo) (hPE : eA N En Ez EF) (hp01 : -2147483648 ≤ p0) (hp02 : p0 < 2147483648) (hRH : rs_H (z 12) Ez EF lv ab Wd cm) (hC : rs_C lv ab Wd (z 12) (rs_sE Ez)) (h79 : z 12 ≤ 78) (hSo : rs_so (rs_lt cm) (F 0) 0 (z 0)) (hSm : ∀ x, rs_me (F 0) 0 (z 0) x ↔ (0 ≤ x ∧ x < z 12 ∧ rs_sE Ez x = x)) (hRo : rs_so (rs_bf lv ab (rs_sE Ez) cm) (F 1) 0 (z 1)) (hRm : ∀ j, 0 ≤ j → j < z 1 → 0 ≤ F 1 j ∧ F 1 j < z 12) (hpre : ∀ y, rs_me (F 1) 0 (z 1) y → ∀ x, rs_Q lv ab (rs_sE Ez) (z 12) 1 p0 x → (rs_bf lv ab (rs_sE Ez) cm) y x) (hp0 : 0 ≤ p0) : Met l yX5_addRowsUnder [.code yX5_addRowsUnder cX5_addRowsUnder 5 none] ({ frames := 4, cells := 300, slots := 135000, locals := 127 }) (va_Pc [.ref (o 15), .int (iz p0), .int (iz 1)] (kx_Pre dC dI (xU cI cB cE o r n z F G (Eo 0 0) ++ eP cI N Eo Er En Ez EF) (xT cI cB cE) sz)) (xQ (fun _ : (Nat → Nat) × (Nat → Nat) × (Nat → Int) × (Nat → Int → Int) × (Nat → Nat → Nat) × (Nat → Nat → Nat) × (Nat → Nat → Int) × (Nat → Nat → Int → Int) => none) (fun (u : (Nat → Nat) × (Nat → Nat) × (Nat → Int) × (Nat → Int → Int) × (Nat → Nat → Nat) × (Nat → Nat → Nat) × (Nat → Nat → Int) × (Nat → Nat → Int → Int)) (dn dm : Nat) => match u with | (r', n', z', F', Er', En', Ez', EF') => xR [1] [1] [] [] N z F En Ez EF n' z' F' En' Ez' EF' ∧ (dn + xg n' ≤ xg n + 0 ∧ dm + xp n' ≤ xp n + 0) ∧ (rs_so (rs_bf lv ab (rs_sE Ez) cm) (F' 1) 0 (z' 1) ∧ (∀ x, rs_me (F' 1) 0 (z' 1) x ↔ (rs_me (F 1) 0 (z 1) x ∨ rs_Q lv ab (rs_sE Ez) (z 12) 1 p0 x)) ∧ Er = Er' ∧ En = En' ∧ Ez = Ez' ∧ EF = EF')) (fun u t => kx_At dC dI (va_A (xU cI cB cE o r n z F G (Eo 0 0) ++ eP cI N Eo Er En Ez EF) sz) ((fun u : (Nat → Nat) × (Nat → Nat) × (Nat → Int) × (Nat → Int → Int) × (Nat → Nat → Nat) × (Nat → Nat → Nat) × (Nat → Nat → Int) × (Nat → Nat → Int → Int) => match u with | (r', n', z', F', Er', En', Ez', EF') => (xU cI cB cE o r' n' z' F' G (Eo 0 0) ++ eP cI N Eo Er' En' Ez' EF')) u) (xT cI cB cE) t) (va_A (xU cI cB cE o r n z F G (Eo 0 0) ++ eP cI N Eo Er En Ez EF) sz)) 300 135000 (va_A (xU cI cB cE o r n z F G (Eo 0 0) ++ eP cI N Eo Er En Ez EF) sz) := by
  refine Met.ofW (cc := cX5_addRowsUnder) (maxL := 5) (ret := none) (by decide) rfl ?_
  intro p e s m args below meth c s₁ B hml hv
  obtain ⟨rfl, hsz, hP, hK, hD0, hG, hZ⟩ := hv
  have hx := B.exec
  have hb := B.bytes
  have hr := B.returns
  have hts := kx_hts (a := ([.ref (o 15), .int (iz p0), .int (iz 1)] : List Value).toArray) hG
  have hown : s.vm.findClass RX5 = some m.cls := findClass_of_methodNamed B.named
  have hlocks := B.notSynchronized
  subst hsz
  have hD := hD0.self (sz := s.heap.size)
  generalize hAe : va_A (xU cI cB cE o r n z F G (Eo 0 0) ++ eP cI N Eo Er En Ez EF) s.heap.size = A at hD hZ ⊢
  have hA : ∀ q : Nat, s.heap.size ≤ q → A q := fun q h => by rw [← hAe]; exact Or.inr h
  have hS : va_S A s.heap s.heap [] := va_S.rf
  have hl := lv_entry ([.ref (o 15), .int (iz p0), .int (iz 1)]) (n := 5) (Nat.le_of_ble_eq_true rfl)
  rw [lg_entry_eq]
  generalize (lg_sl ([.ref (o 15), .int (iz p0), .int (iz 1)]) ++ List.replicate (5 - (lg_sl ([.ref (o 15), .int (iz p0), .int (iz 1)])).length) Slot.unset).toArray = ls at hl ⊢
  obtain ⟨hN1, hN2, hN3, hN4⟩ := hxG
  have hef : eFr [] [] En Ez EF En Ez EF := eFr.rf
  have hfr : xFr [1] [1] z F z F := xFr.rf
  have hxgl := xg_le n
  have hxpl := xp_le n
  have hl : lv_has ls 5 [(0, .ref (o 15)), (1, .int (iz p0)), (2, .int (iz 1))] := hl
  generalize hQe : MQ below (xQ (fun _ : (Nat → Nat) × (Nat → Nat) × (Nat → Int) × (Nat → Int → Int) × (Nat → Nat → Nat) × (Nat → Nat → Nat) × (Nat → Nat → Int) × (Nat → Nat → Int → Int) => none) (fun (u : (Nat → Nat) × (Nat → Nat) × (Nat → Int) × (Nat → Int → Int) × (Nat → Nat → Nat) × (Nat → Nat → Nat) × (Nat → Nat → Int) × (Nat → Nat → Int → Int)) (dn dm : Nat) => match u with | (r', n', z', F', Er', En', Ez', EF') => xR [1] [1] [] [] N z F En Ez EF n' z' F' En' Ez' EF' ∧ (dn + xg n' ≤ xg n + 0 ∧ dm + xp n' ≤ xp n + 0) ∧ (rs_so (rs_bf lv ab (rs_sE Ez) cm) (F' 1) 0 (z' 1) ∧ (∀ x, rs_me (F' 1) 0 (z' 1) x ↔ (rs_me (F 1) 0 (z 1) x ∨ rs_Q lv ab (rs_sE Ez) (z 12) 1 p0 x)) ∧ Er = Er' ∧ En = En' ∧ Ez = Ez' ∧ EF = EF')) (fun u t => kx_At dC dI A ((fun u : (Nat → Nat) × (Nat → Nat) × (Nat → Int) × (Nat → Int → Int) × (Nat → Nat → Nat) × (Nat → Nat → Nat) × (Nat → Nat → Int) × (Nat → Nat → Int → Int) => match u with | (r', n', z', F', Er', En', Ez', EF') => (xU cI cB cE o r' n' z' F' G (Eo 0 0) ++ eP cI N Eo Er' En' Ez' EF')) u) (xT cI cB cE) t) A) ([.ref (o 15), .int (iz p0), .int (iz 1)] : List Value).toArray s 300 135000 A = QQ
  have hL := hRH.1.1
  have hcm := hRH.1.2.2
  have hPs := rs_C_P hRH.1.2.1 hC
  have hz0 : 0 ≤ z 0 ∧ z 0 ≤ (n 0 : Int) ∧ (n 0 : Int) ≤ 80 := hok.1 0 (by decide)
  have hz1 : 0 ≤ z 1 ∧ z 1 ≤ (n 1 : Int) ∧ (n 1 : Int) ≤ 80 := hok.1 1 (by decide)
  refine lv_iload_n hx hb dX5_addRowsUnder_0 rfl (lv_at hl 2 rfl) ?_
  refine lv_iconst (v := iz 3) hx hb dX5_addRowsUnder_1 (by decide) ?_
  refine ki_icmp_lt (tgt := 6) hx hb dX5_addRowsUnder_2 (by decide) (by omega) (by omega) (by omega) (by omega) (fun c_1 => ?_) (fun c_1 => ?_)
  · skip
    refine lv_iconst (v := iz 0) hx hb dX5_addRowsUnder_6 (by decide) ?_
    refine lv_istore_n (lv' := [(3, .int (iz 0)), (0, .ref (o 15)), (1, .int (iz p0)), (2, .int (iz 1))]) hx hb dX5_addRowsUnder_7 rfl hl (by decide) rfl (fun ls hl => ?_)
    have lp8 : ∀ (n0 : Nat) (k : Int) (rL8 : Nat → Nat) (nL8 : Nat → Nat) (zL8 : Nat → Int) (FL8 : Nat → Int → Int) (cv : Nat) (sv : Nat), ((xR [1] [1] [] [] N z F En Ez EF nL8 zL8 FL8 En Ez EF) ∧ (cv + xg nL8 ≤ xg n + (0) ∧ sv + xp nL8 ≤ xp n + (0)) ∧ (zL8 12 = z 12) ∧ (0 ≤ k ∧ k ≤ z 0) ∧ (rs_so (rs_bf lv ab (rs_sE Ez) cm) (FL8 1) 0 (zL8 1)) ∧ (∀ x, rs_me (FL8 1) 0 (zL8 1) x ↔ (rs_me (F 1) 0 (z 1) x ∨ (rs_Q lv ab (rs_sE Ez) (z 12) 1 p0 x ∧ ∃ i, 0 ≤ i ∧ i < k ∧ rs_w lv ab (rs_sE Ez) x 1 = F 0 i)))) → (z 0 - k).toNat < n0 → ∀ (H : Heap) (locs : List Loc), va_P (dC, dI) kxCl ((xU cI cB cE o rL8 nL8 zL8 FL8 G (Eo 0 0)) ++ (eP cI N Eo Er En Ez EF)) H → va_D A ((xU cI cB cE o rL8 nL8 zL8 FL8 G (Eo 0 0)) ++ (eP cI N Eo Er En Ez EF)) → va_S A s.heap H locs → ∀ ls : Array Slot, lv_has ls 5 [(3, .int (iz k)), (0, .ref (o 15)), (1, .int (iz p0)), (2, .int (iz 1))] → W p l e (headSpec [.code yX5_addRowsUnder cX5_addRowsUnder 5 none] ({ frames := 4, cells := 300, slots := 135000, locals := 127 })).room s m ([.ref (o 15), .int (iz p0), .int (iz 1)] : List Value).toArray below meth c H locs cv sv QQ (F0 m 8 ls []) := by
      intro n0
      induction n0 with
      | zero => intro k rL8 nL8 zL8 FL8 cv sv hinv hm0; exact absurd hm0 (Nat.not_lt_zero _)
      | succ n0 ih8 =>
        intro k rL8 nL8 zL8 FL8 cv sv hinv hm0 H locs hP hD hS ls hl
        obtain ⟨hRLL8, hCLL8, hZLL8, hk, hso, hme⟩ := hinv
        have hkzL8_0 : zL8 0 = z 0 := hRLL8.2.1.1 0 (by decide)
        have hF0 : FL8 0 = F 0 := hRLL8.2.1.2 0 (by decide)
        have hzz1 : 0 ≤ zL8 1 ∧ zL8 1 ≤ (nL8 1 : Int) ∧ (nL8 1 : Int) ≤ 80 := hRLL8.1.1 1 (by decide)
        have hrng : ∀ j, 0 ≤ j → j < zL8 1 → 0 ≤ FL8 1 j ∧ FL8 1 j < z 12 := fun j a b => by rcases (hme (FL8 1 j)).mp ⟨j, a, b, rfl⟩ with h9 | h9; (obtain ⟨j2, a2, b2, c2⟩ := h9; rw [← c2]; exact hRm j2 a2 b2); exact ⟨h9.1.1.1, h9.1.1.2.1⟩
        have hfew : zL8 1 ≤ z 12 := rs_few (by omega) (by omega) hrng (fun i j a b c h9 => rs_bf_ir hcm (FL8 1 i) (by have h8 := hso i j a b c; rw [← h9] at h8; exact h8))
        refine lv_iload_n hx hb dX5_addRowsUnder_8 rfl (lv_at hl 0 rfl) ?_
        refine lv_aload_n hx hb dX5_addRowsUnder_9 rfl (lv_at hl 1 rfl) ?_
        refine va_get (D := (dC, dI)) (ci := 5) (v := .ref (o 0)) (C := RX5) (T := TX5) (N := 16) hx hb hts kt_X5 hown hK hP 0 rfl rfl 5 (by decide) (kx_word hG kq_18_xrows_37 rfl) (fun _ h9 => h9) rfl dX5_addRowsUnder_10 ?_
        have hxi_2 : 0 ≤ zL8 0 ∧ zL8 0 ≤ ((nL8 0 : Nat) : Int) ∧ ((nL8 0 : Nat) : Int) ≤ 80 := hRLL8.1.1 0 (by decide)
        have hPc := hP.sub (ws' := (iU cI 80 (o 0) (rL8 0) (nL8 0) (zL8 0) (FL8 0))) [2, 3] rfl
        refine xk_pure (va_runV (As := []) (rest := [.int (iz k)]) ⟨hx, hb, hml, hown, hts⟩ (x_size l dC dI cI cB cE 80 (o 0) (rL8 0) (nL8 0) (zL8 0) (FL8 0)  H.size ) (cwV 0 hts (kx_gV kq_18_xrows_40 kq_15_xspan_10 kq_15_xspan_11 kq_13_xints_6 kq_15_xspan_12 rfl) rfl rfl rfl (by decide +kernel) ⟨Nat.le_of_ble_eq_true rfl, Nat.le_of_ble_eq_true rfl⟩) ⟨pPre_blind, va_recv hK hPc (ci := 1) (q0 := 0) rfl rfl, pPre_give hPc hK hG⟩ rfl rfl hl.1 rfl (lv_room (Nat.le_of_ble_eq_true rfl)) dX5_addRowsUnder_13 ⟨show cv + 0 ≤ 300 from (by omega), show sv + 0 ≤ 135000 from (by omega)⟩) hS (fun z_4 locs hq_3 hS => ?_)
        refine W.eq (g2 := F0 m 16 ls [.int (iz z_4), .int (iz k)]) rfl ?_
        try dsimp only at hq_3
        have hq_3 := hq_3.symm
        subst hq_3
        refine ki_icmp_ge (tgt := 83) hx hb dX5_addRowsUnder_16 (by decide) (by omega) (by omega) (by omega) (by omega) (fun c_5 => ?_) (fun c_5 => ?_)
        · skip
          rw [← hQe]
          exact xk_vret (ov := (fun _ : (Nat → Nat) × (Nat → Nat) × (Nat → Int) × (Nat → Int → Int) × (Nat → Nat → Nat) × (Nat → Nat → Nat) × (Nat → Nat → Int) × (Nat → Nat → Int → Int) => none)) (post := (fun (u : (Nat → Nat) × (Nat → Nat) × (Nat → Int) × (Nat → Int → Int) × (Nat → Nat → Nat) × (Nat → Nat → Nat) × (Nat → Nat → Int) × (Nat → Nat → Int → Int)) (dn dm : Nat) => match u with | (r', n', z', F', Er', En', Ez', EF') => xR [1] [1] [] [] N z F En Ez EF n' z' F' En' Ez' EF' ∧ (dn + xg n' ≤ xg n + 0 ∧ dm + xp n' ≤ xp n + 0) ∧ (rs_so (rs_bf lv ab (rs_sE Ez) cm) (F' 1) 0 (z' 1) ∧ (∀ x, rs_me (F' 1) 0 (z' 1) x ↔ (rs_me (F 1) 0 (z 1) x ∨ rs_Q lv ab (rs_sE Ez) (z 12) 1 p0 x)) ∧ Er = Er' ∧ En = En' ∧ Ez = Ez' ∧ EF = EF'))) (ws := (fun u : (Nat → Nat) × (Nat → Nat) × (Nat → Int) × (Nat → Int → Int) × (Nat → Nat → Nat) × (Nat → Nat → Nat) × (Nat → Nat → Int) × (Nat → Nat → Int → Int) => match u with | (r', n', z', F', Er', En', Ez', EF') => (xU cI cB cE o r' n' z' F' G (Eo 0 0) ++ eP cI N Eo Er' En' Ez' EF'))) (tys := xT cI cB cE) (rL8, nL8, zL8, FL8, Er, En, Ez, EF) hx hb hr hlocks rfl hP hD hK hS dX5_addRowsUnder_83 (fun dn dm hdn hdm => ⟨⟨hRLL8.1, hRLL8.2.1, hRLL8.2.2.1, hRLL8.2.2.2⟩, ⟨by omega, by omega⟩, ⟨hso, rs_under_end hL hPs (by omega) hSm (by rw [← show k = z 0 by omega]; exact hme), rfl, rfl, rfl, rfl⟩⟩) (by omega) (by omega)
        · skip
          refine lv_aload_n hx hb dX5_addRowsUnder_19 rfl (lv_at hl 1 rfl) ?_
          refine va_get (D := (dC, dI)) (ci := 5) (v := .ref (o 0)) (C := RX5) (T := TX5) (N := 16) hx hb hts kt_X5 hown hK hP 0 rfl rfl 5 (by decide) (kx_word hG kq_18_xrows_37 rfl) (fun _ h9 => h9) rfl dX5_addRowsUnder_20 ?_
          refine lv_iload_n hx hb dX5_addRowsUnder_23 rfl (lv_at hl 0 rfl) ?_
          have hPc := hP.sub (ws' := (iU cI 80 (o 0) (rL8 0) (nL8 0) (zL8 0) (FL8 0))) [2, 3] rfl
          refine xk_pure (va_runV (As := [.int (iz k)]) (rest := []) ⟨hx, hb, hml, hown, hts⟩ (x_get l dC dI cI cB cE 80 (o 0) (rL8 0) (nL8 0) (zL8 0) (FL8 0) k H.size (by omega) (hRLL8.1.2.2.1 0) (by omega) (by omega)) (cwV 1 hts (kx_gV kq_18_xrows_41 kq_13_xints_4 kq_13_xints_5 kq_13_xints_6 kq_13_xints_7 rfl) rfl rfl rfl (by decide +kernel) ⟨Nat.le_of_ble_eq_true rfl, Nat.le_of_ble_eq_true rfl⟩) ⟨pPre_blind, va_recv hK hPc (ci := 1) (q0 := 0) rfl rfl, pPre_give hPc hK hG⟩ rfl rfl hl.1 rfl (lv_room (Nat.le_of_ble_eq_true rfl)) dX5_addRowsUnder_24 ⟨show cv + 0 ≤ 300 from (by omega), show sv + 0 ≤ 135000 from (by omega)⟩) hS (fun z_7 locs hq_6 hS => ?_)
          refine W.eq (g2 := F0 m 27 ls [.int (iz z_7)]) rfl ?_
          try dsimp only at hq_6
          have ev_8 : z_7 = F 0 k := by have h9 := congrFun hF0 k; omega
          subst ev_8
          refine W.eq (g2 := F0 m 27 ls [.int (iz (F 0 k))]) rfl ?_
          have hsk := (hSm (F 0 k)).mp ⟨k, by omega, by omega, rfl⟩
          have h78 := hRH.2.1 (F 0 k) hsk.1 hsk.2.1
          have hlvk := hL (F 0 k) hsk.1 hsk.2.1
          refine lv_istore (lv' := [(4, .int (iz (F 0 k))), (3, .int (iz k)), (0, .ref (o 15)), (1, .int (iz p0)), (2, .int (iz 1))]) hx hb dX5_addRowsUnder_27 hl (by decide) rfl (fun ls hl => ?_)
          refine lv_aload_n hx hb dX5_addRowsUnder_29 rfl (lv_at hl 2 rfl) ?_
          refine lv_iload hx hb dX5_addRowsUnder_30 (lv_at hl 0 rfl) ?_
          have hxz_9 : -2147483648 ≤ zL8 12 ∧ zL8 12 < 2147483648 := hRLL8.1.2.2.2.1 12
          have hxG9 : xG N (zL8 12) G Eo := ⟨by omega, by omega, by omega, fun e9 h9 => hN4 e9 (by omega)⟩
          have hP : va_P (dC, dI) kxCl (xU cI cB cE o rL8 nL8 zL8 FL8 G (Eo 0 0) ++ eP cI N Eo Er En Ez EF) H := hP
          refine xk_pure (va_runV (As := [.int (iz (F 0 k))]) (rest := []) ⟨hx, hb, hml, hown, hts⟩ (y_known l dC dI cI cB cE o rL8 nL8 zL8 FL8 G N Eo Er En Ez EF (F 0 k) H.size hRLL8.1 hxG9 hRLL8.2.2.1 (by omega) (by omega)) (cwV 1 hts (kx_gV kq_18_xrows_8 kq_18_xrows_9 kq_18_xrows_10 kq_18_xrows_4 kq_18_xrows_11 rfl) rfl rfl rfl (by decide +kernel) ⟨Nat.le_of_ble_eq_true rfl, Nat.le_of_ble_eq_true rfl⟩) ⟨pPre_blind, va_recv hK hP (ci := 5) (q0 := 0) rfl rfl, pPre_give hP hK hG⟩ rfl rfl hl.1 rfl (lv_room (Nat.le_of_ble_eq_true rfl)) dX5_addRowsUnder_32 ⟨show cv + 0 ≤ 300 from (by omega), show sv + 0 ≤ 135000 from (by omega)⟩) hS (fun z_11 locs hq_10 hS => ?_)
          refine W.eq (g2 := F0 m 35 ls [.ref z_11.toNat]) rfl ?_
          try dsimp only at hq_10
          obtain ⟨j12, hj12, ez12, hje12⟩ := hq_10
          subst ez12
          refine W.eq (g2 := F0 m 35 ls [.ref (Eo j12 0)]) rfl ?_
          have ej12 : j12 = ((F 0 k) + 1).toNat := by omega
          subst ej12
          have hP := eP_foc hj12 hP
          have hD := eD_foc hj12 hD
          have hez_13 : -2147483648 ≤ Ez (((F 0 k) + 1).toNat) 7 ∧ Ez (((F 0 k) + 1).toNat) 7 < 2147483648 := (hRLL8.2.2.1 (((F 0 k) + 1).toNat) hj12).2.2 7
          refine va_getN (D := (dC, dI)) (ci := 0) (v := .int (iz (Ez (((F 0 k) + 1).toNat) 7))) (C := RX0) (T := TX0) (N := 12) hx hb hts kt_X0 hown hK hP 29 rfl rfl 0 (by decide) (va_Nw.use rfl (kx_nf hG kq_18_xrows_12)) (fun _ h9 => h9) rfl dX5_addRowsUnder_35 ?_
          refine lv_iload_n hx hb dX5_addRowsUnder_38 rfl (lv_at hl 4 rfl) ?_
          refine ki_icmp_ne (tgt := 77) hx hb dX5_addRowsUnder_39 (by decide) (by omega) (by omega) (by omega) (by omega) (fun c_14 => ?_) (fun c_14 => ?_)
          · skip
            refine lv_iinc (v := iz (k + 1)) (lv' := [(3, .int (iz (k + 1))), (4, .int (iz (F 0 k))), (0, .ref (o 15)), (1, .int (iz p0)), (2, .int (iz 1))]) hx hb dX5_addRowsUnder_77 hl (k := 1) rfl (iz_add k 1) (by decide) rfl (fun ls hl => ?_)
            refine lv_goto (tgt := 8) hx hb dX5_addRowsUnder_80 (by decide) ?_
            have hP := eP_un0 hj12 hP
            have hD := eD_un0 hj12 hD
            exact ih8 (k + 1) rL8 nL8 zL8 FL8 cv sv ⟨⟨hRLL8.1, hRLL8.2.1, hRLL8.2.2.1, hRLL8.2.2.2⟩, ⟨by omega, by omega⟩, (show zL8 12 = z 12 by omega), by omega, hso, rs_under_skip hL hPs (by omega) (fun h9 => absurd h9.1 (by omega)) hme⟩ (by omega) _ _ hP hD hS ls (lv_sub hl [0, 2, 3, 4] rfl)
          · skip
            refine lv_aload_n hx hb dX5_addRowsUnder_42 rfl (lv_at hl 2 rfl) ?_
            refine lv_aload_n hx hb dX5_addRowsUnder_43 rfl (lv_at hl 2 rfl) ?_
            refine lv_iload hx hb dX5_addRowsUnder_44 (lv_at hl 0 rfl) ?_
            have hP := eP_un0 hj12 hP
            have hD := eD_un0 hj12 hD
            have hxG9 : xG N (zL8 12) G Eo := ⟨by omega, by omega, by omega, fun e9 h9 => hN4 e9 (by omega)⟩
            have hP : va_P (dC, dI) kxCl (xU cI cB cE o rL8 nL8 zL8 FL8 G (Eo 0 0) ++ eP cI N Eo Er En Ez EF) H := hP
            refine xk_pure (va_runV (As := [.int (iz (F 0 k))]) (rest := [.ref (o 15)]) ⟨hx, hb, hml, hown, hts⟩ (y_known l dC dI cI cB cE o rL8 nL8 zL8 FL8 G N Eo Er En Ez EF (F 0 k) H.size hRLL8.1 hxG9 hRLL8.2.2.1 (by omega) (by omega)) (cwV 1 hts (kx_gV kq_18_xrows_8 kq_18_xrows_9 kq_18_xrows_10 kq_18_xrows_4 kq_18_xrows_11 rfl) rfl rfl rfl (by decide +kernel) ⟨Nat.le_of_ble_eq_true rfl, Nat.le_of_ble_eq_true rfl⟩) ⟨pPre_blind, va_recv hK hP (ci := 5) (q0 := 0) rfl rfl, pPre_give hP hK hG⟩ rfl rfl hl.1 rfl (lv_room (Nat.le_of_ble_eq_true rfl)) dX5_addRowsUnder_46 ⟨show cv + 0 ≤ 300 from (by omega), show sv + 0 ≤ 135000 from (by omega)⟩) hS (fun z_16 locs hq_15 hS => ?_)
            refine W.eq (g2 := F0 m 49 ls [.ref z_16.toNat, .ref (o 15)]) rfl ?_
            try dsimp only at hq_15
            obtain ⟨j17, hj17, ez17, hje17⟩ := hq_15
            subst ez17
            refine W.eq (g2 := F0 m 49 ls [.ref (Eo j17 0), .ref (o 15)]) rfl ?_
            have ej17 : j17 = ((F 0 k) + 1).toNat := by omega
            subst ej17
            have hP := eP_foc hj17 hP
            have hD := eD_foc hj17 hD
            have hez_18 : -2147483648 ≤ Ez (((F 0 k) + 1).toNat) 8 ∧ Ez (((F 0 k) + 1).toNat) 8 < 2147483648 := (hRLL8.2.2.1 (((F 0 k) + 1).toNat) hj17).2.2 8
            refine va_getN (D := (dC, dI)) (ci := 0) (v := .int (iz (Ez (((F 0 k) + 1).toNat) 8))) (C := RX0) (T := TX0) (N := 12) hx hb hts kt_X0 hown hK hP 29 rfl rfl 1 (by decide) (va_Nw.use rfl (kx_nf hG kq_18_xrows_14)) (fun _ h9 => h9) rfl dX5_addRowsUnder_49 ?_
            have hP := eP_un0 hj17 hP
            have hD := eD_un0 hj17 hD
            have hxG9 : xG N (zL8 12) G Eo := ⟨by omega, by omega, by omega, fun e9 h9 => hN4 e9 (by omega)⟩
            have hP : va_P (dC, dI) kxCl (xU cI cB cE o rL8 nL8 zL8 FL8 G (Eo 0 0) ++ eP cI N Eo Er En Ez EF) H := hP
            refine xk_pure (va_runV (As := [.int (iz (Ez (((F 0 k) + 1).toNat) 8))]) (rest := []) ⟨hx, hb, hml, hown, hts⟩ (y_firstOf2 l dC dI cI cB cE o rL8 nL8 zL8 FL8 G N Eo Er En Ez EF (Ez (((F 0 k) + 1).toNat) 8) H.size hRLL8.1 hxG9 hRLL8.2.2.1 (by omega) (by omega)) (cwV 1 hts (kx_gV kq_18_xrows_15 kq_18_xrows_16 kq_18_xrows_17 kq_18_xrows_4 kq_18_xrows_18 rfl) rfl rfl rfl (by decide +kernel) ⟨Nat.le_of_ble_eq_true rfl, Nat.le_of_ble_eq_true rfl⟩) ⟨pPre_blind, va_recv hK hP (ci := 5) (q0 := 0) rfl rfl, pPre_give hP hK hG⟩ rfl rfl hl.1 rfl (lv_room (Nat.le_of_ble_eq_true rfl)) dX5_addRowsUnder_52 ⟨show cv + 0 ≤ 300 from (by omega), show sv + 0 ≤ 135000 from (by omega)⟩) hS (fun z_20 locs hq_19 hS => ?_)
            refine W.eq (g2 := F0 m 55 ls [.int (iz z_20)]) rfl ?_
            try dsimp only at hq_19
            obtain ⟨hq_19, hq_19b⟩ := hq_19
            subst hq_19
            refine W.eq (g2 := F0 m 55 ls [.int (iz (rs_fo (zL8 12) Ez (Ez (((F 0 k) + 1).toNat) 8)))]) rfl ?_
            refine lv_iload_n hx hb dX5_addRowsUnder_55 rfl (lv_at hl 3 rfl) ?_
            refine ki_icmp_ne (tgt := 77) hx hb dX5_addRowsUnder_56 (by decide) (by omega) (by omega) (by omega) (by omega) (fun c_21 => ?_) (fun c_21 => ?_)
            · skip
              refine lv_iinc (v := iz (k + 1)) (lv' := [(3, .int (iz (k + 1))), (4, .int (iz (F 0 k))), (0, .ref (o 15)), (1, .int (iz p0)), (2, .int (iz 1))]) hx hb dX5_addRowsUnder_77 hl (k := 1) rfl (iz_add k 1) (by decide) rfl (fun ls hl => ?_)
              refine lv_goto (tgt := 8) hx hb dX5_addRowsUnder_80 (by decide) ?_
              exact ih8 (k + 1) rL8 nL8 zL8 FL8 cv sv ⟨⟨hRLL8.1, hRLL8.2.1, hRLL8.2.2.1, hRLL8.2.2.2⟩, ⟨by omega, by omega⟩, (show zL8 12 = z 12 by omega), by omega, hso, rs_under_skip hL hPs (by omega) (fun h9 => by have h8 := h9.2.resolve_left (by omega); rw [← h78.2] at h8; exact absurd (show rs_fo (zL8 12) Ez (Ez ((F 0 k + 1).toNat) 8) = p0 from (if_pos (show 0 ≤ Ez ((F 0 k + 1).toNat) 8 ∧ Ez ((F 0 k + 1).toNat) 8 < zL8 12 by omega)).trans h8) (by omega)) hme⟩ (by omega) _ _ hP hD hS ls (lv_sub hl [0, 2, 3, 4] rfl)
            · skip
              have hle9 : lv (F 0 k) = 1 := by omega
              have hfo9 : rs_sE Ez (ab (F 0 k)) = p0 := by rw [← h78.2]; exact (if_pos (show 0 ≤ Ez ((F 0 k + 1).toNat) 8 ∧ Ez ((F 0 k + 1).toNat) 8 < zL8 12 by omega)).symm.trans (show rs_fo (zL8 12) Ez (Ez ((F 0 k + 1).toNat) 8) = p0 by omega)
              have hQe : rs_Q lv ab (rs_sE Ez) (z 12) 1 p0 (F 0 k) := ⟨hsk, by omega, Or.inr ((rs_w_up1 (show lv (F 0 k) = 1 - 1 + 1 by omega)).trans hfo9)⟩
              refine lv_aload_n hx hb dX5_addRowsUnder_59 rfl (lv_at hl 2 rfl) ?_
              refine va_get (D := (dC, dI)) (ci := 5) (v := .ref (o 1)) (C := RX5) (T := TX5) (N := 16) hx hb hts kt_X5 hown hK hP 0 rfl rfl 6 (by decide) (kx_word hG kq_18_xrows_47 rfl) (fun _ h9 => h9) rfl dX5_addRowsUnder_60 ?_
              refine lv_iload hx hb dX5_addRowsUnder_63 (lv_at hl 0 rfl) ?_
              have hxi_22 : 0 ≤ zL8 1 ∧ zL8 1 ≤ ((nL8 1 : Nat) : Int) ∧ ((nL8 1 : Nat) : Int) ≤ 80 := hRLL8.1.1 1 (by decide)
              have hPc := hP.sub (ws' := (iU cI 80 (o 1) (rL8 1) (nL8 1) (zL8 1) (FL8 1))) [4, 5] rfl
              have hDc := hD.sub (ws' := (iU cI 80 (o 1) (rL8 1) (nL8 1) (zL8 1) (FL8 1))) [4, 5] (by decide) rfl
              have hFc := va_free (wc := (iU cI 80 (o 1) (rL8 1) (nL8 1) (zL8 1) (FL8 1))) hD hS hA [4, 5] rfl
              refine xk_call (va_runV (As := [.int (iz (F 0 k))]) (rest := []) ⟨hx, hb, hml, hown, hts⟩ (x_add l dC dI cI cB cE 80 (o 1) (rL8 1) (nL8 1) (zL8 1) (FL8 1) (F 0 k) H.size (by omega) (hRLL8.1.2.2.1 1) (by omega) (by omega)) (cwV 1 hts (kx_gV kq_18_xrows_39 kq_15_xspan_46 kq_15_xspan_47 kq_13_xints_6 kq_15_xspan_48 rfl) rfl rfl rfl (by decide +kernel) ⟨Nat.le_of_ble_eq_true rfl, Nat.le_of_ble_eq_true rfl⟩) ⟨kx_blind, va_recv hK hPc (ci := 1) (q0 := 0) rfl rfl, kx_give (ws := []) (tys := []) hPc hDc hK hG hZ hS hFc⟩ rfl rfl hl.1 rfl (lv_room (Nat.le_of_ble_eq_true rfl)) dX5_addRowsUnder_65 ⟨show cv + 1 ≤ 300 from (by omega), show sv + 1600 ≤ 135000 from (by omega)⟩) hS (fun q _ h => hFc q h) hFc (fun u dn_24 dm_25 t H locs ht hvm hq_23 hB hk1 hS => ?_)
              obtain ⟨r_26, n_27, z_28, F_29⟩ := u
              obtain ⟨hP1, hK1, hD1⟩ := hB
              rw [ht] at hP1
              obtain ⟨hP, hD⟩ := xj_pool (wr := [(o 15, .inr (5, [.ref (o 16), .ref (Eo 0 0), .int (iz (zL8 12)), .int (iz (zL8 13)), .int (iz (zL8 14)), .ref (o 0), .ref (o 1), .int (iz (zL8 15)), .ref (o 13), .ref (o 14), .int (iz (zL8 16)), .ref (o 2), .ref (o 12), .ref (o 3), .ref (o 10), .ref (o 11)])), (o 16, .inl (cE, 80, .inr (.inr (.inr (.inr G))))), (o 0, .inr (1, [.int (iz 80), .ref (rL8 0), .int (iz (zL8 0))])), (rL8 0, .inl (cI, nL8 0, .inl (iA (FL8 0)))), (o 2, .inr (1, [.int (iz 80), .ref (rL8 2), .int (iz (zL8 2))])), (rL8 2, .inl (cI, nL8 2, .inl (iA (FL8 2)))), (o 3, .inr (1, [.int (iz 80), .ref (rL8 3), .int (iz (zL8 3))])), (rL8 3, .inl (cI, nL8 3, .inl (iA (FL8 3)))), (o 13, .inr (3, [.ref (o 4), .ref (o 5), .ref (o 6)])), (o 4, .inr (1, [.int (iz 1600), .ref (rL8 4), .int (iz (zL8 4))])), (rL8 4, .inl (cI, nL8 4, .inl (iA (FL8 4)))), (o 5, .inr (1, [.int (iz 1600), .ref (rL8 5), .int (iz (zL8 5))])), (rL8 5, .inl (cI, nL8 5, .inl (iA (FL8 5)))), (o 6, .inr (1, [.int (iz 1600), .ref (rL8 6), .int (iz (zL8 6))])), (rL8 6, .inl (cI, nL8 6, .inl (iA (FL8 6)))), (o 14, .inr (3, [.ref (o 7), .ref (o 8), .ref (o 9)])), (o 7, .inr (1, [.int (iz 1600), .ref (rL8 7), .int (iz (zL8 7))])), (rL8 7, .inl (cI, nL8 7, .inl (iA (FL8 7)))), (o 8, .inr (1, [.int (iz 1600), .ref (rL8 8), .int (iz (zL8 8))])), (rL8 8, .inl (cI, nL8 8, .inl (iA (FL8 8)))), (o 9, .inr (1, [.int (iz 1600), .ref (rL8 9), .int (iz (zL8 9))])), (rL8 9, .inl (cI, nL8 9, .inl (iA (FL8 9)))), (o 12, .inr (4, [.int (iz (zL8 17)), .int (iz (zL8 18)), .int (iz (zL8 19)), .int (iz (zL8 20)), .int (iz (zL8 21))])), (o 10, .inr (2, [.ref (rL8 10), .int (iz (zL8 10)), .int (iz (zL8 22))])), (rL8 10, .inl (cB, nL8 10, .inl (iA (FL8 10)))), (o 11, .inr (2, [.ref (rL8 11), .int (iz (zL8 11)), .int (iz (zL8 23))])), (rL8 11, .inl (cB, nL8 11, .inl (iA (FL8 11))))]) (w1 := (iU cI 80 (o 1) r_26 n_27 z_28 F_29)) (ws' := (xU cI cB cE o (va_up rL8 1 r_26) (va_up nL8 1 n_27) (va_up zL8 1 z_28) (va_up FL8 1 F_29) G (Eo 0 0))) hP hD [4, 5] [0, 1, 2, 3, 6, 7, 8, 9, 10, 11, 12, 13, 14, 15, 16, 17, 18, 19, 20, 21, 22, 23, 24, 25, 26, 27, 28] [0, 1, 2, 3, 27, 28, 4, 5, 6, 7, 8, 9, 10, 11, 12, 13, 14, 15, 16, 17, 18, 19, 20, 21, 22, 23, 24, 25, 26] rfl rfl (by decide) (by decide) hk1 hFc hP1 hD1 rfl (by decide)
              refine W.eq (g2 := F0 m 68 ls []) rfl ?_
              try dsimp only at hq_23
              obtain ⟨ha30, hb30, hc30, hd30⟩ := hq_23
              have hax30 := hd30.1
              obtain ⟨haz, haf, hav⟩ := rs_added (by omega) (by omega) hd30
              refine lv_aload_n hx hb dX5_addRowsUnder_68 rfl (lv_at hl 2 rfl) ?_
              refine lv_iload hx hb dX5_addRowsUnder_69 (lv_at hl 0 rfl) ?_
              refine lv_iload_n hx hb dX5_addRowsUnder_71 rfl (lv_at hl 4 rfl) ?_
              refine lv_iconst (v := iz 1) hx hb dX5_addRowsUnder_72 (by decide) ?_
              refine ki_iadd hx hb dX5_addRowsUnder_73 ?_
              refine ki_is (show iz (1 + 1) = iz 2 from rfl) ?_
              have hok31 : xOk (va_up nL8 1 n_27) (va_up zL8 1 z_28) (va_up FL8 1 F_29) := (hRLL8.1.i 1 (by decide) (show 0 ≤ z_28 ∧ z_28 ≤ ((n_27 : Nat) : Int) ∧ ((n_27 : Nat) : Int) ≤ 80 by omega) hb30)
              have hfr31 : xFr [1] [1] z F (va_up zL8 1 z_28) (va_up FL8 1 F_29) := ((hRLL8.2.1.uz 1 (by decide) _).uf 1 (by decide) _)
              have hcg31 : (dn_24) + xg (va_up nL8 1 n_27) ≤ xg nL8 := by unfold xg; simp (decide := true) only [va_ev, ↓reduceIte]; omega
              have hcp31 : (dm_25) + xp (va_up nL8 1 n_27) ≤ xp nL8 := by unfold xp; simp (decide := true) only [va_ev, ↓reduceIte]; omega
              have hxG9 : xG N (zL8 12) G Eo := ⟨by omega, by omega, by omega, fun e9 h9 => hN4 e9 (by omega)⟩
              have hP : va_P (dC, dI) kxCl (xU cI cB cE o (va_up rL8 1 r_26) (va_up nL8 1 n_27) (va_up zL8 1 z_28) (va_up FL8 1 F_29) G (Eo 0 0) ++ eP cI N Eo Er En Ez EF) H := hP
              have hD : va_D A (xU cI cB cE o (va_up rL8 1 r_26) (va_up nL8 1 n_27) (va_up zL8 1 z_28) (va_up FL8 1 F_29) G (Eo 0 0) ++ eP cI N Eo Er En Ez EF) := hD
              have hFc := xw_free hD hS hA
              refine xk_call (va_runV (As := [.int (iz (F 0 k)), .int (iz 2)]) (rest := []) ⟨hx, hb, hml, hown, hts⟩ (y_addRows2_2 l dC dI cI cB cE o (va_up rL8 1 r_26) (va_up nL8 1 n_27) (va_up zL8 1 z_28) (va_up FL8 1 F_29) G N Eo Er En Ez EF (F 0 k) lv ab Wd cm H.size hok31 hxG9 hRLL8.2.2.1 (by omega) (by omega) (by show rs_H (zL8 12) Ez EF lv ab Wd cm; rw [show zL8 12 = z 12 by omega]; exact hRH) (by show rs_C lv ab Wd (zL8 12) (rs_sE Ez); rw [show zL8 12 = z 12 by omega]; exact hC) (show zL8 12 ≤ 78 by omega) (by show rs_so (rs_lt cm) (FL8 0) 0 (zL8 0); rw [hF0, hkzL8_0]; exact hSo) (by show ∀ x, rs_me (FL8 0) 0 (zL8 0) x ↔ (0 ≤ x ∧ x < zL8 12 ∧ rs_sE Ez x = x); rw [hF0, hkzL8_0, show zL8 12 = z 12 by omega]; exact hSm) (by show rs_so (rs_bf lv ab (rs_sE Ez) cm) F_29 0 z_28; rw [haz]; exact rs_so_snoc (by omega) hso haf hav (fun j a b => rs_under_bf hL hPs hcm (by omega) (m := z 0) (by omega) hSo hpre hme ⟨j, a, b, rfl⟩ hQe (rs_w_is hle9))) (by show ∀ j, 0 ≤ j → j < z_28 → 0 ≤ F_29 j ∧ F_29 j < zL8 12; intro j a b; by_cases c9 : j = zL8 1; (rw [c9, hav]; omega); (rw [haf j a (by omega), show zL8 12 = z 12 by omega]; exact hrng j a (by omega))) (by show ∀ y, rs_me F_29 0 z_28 y → ∀ x, rs_Q lv ab (rs_sE Ez) (zL8 12) 2 (F 0 k) x → (rs_bf lv ab (rs_sE Ez) cm) y x; rw [haz, show zL8 12 = z 12 by omega]; intro y hy x hx; rcases (rs_me_snoc (by omega) haf hav).mp hy with h9 | h9; (rw [h9]; exact rs_Q_dn hL hPs (by omega) hQe hle9 hx); exact rs_under_bf hL hPs hcm (by omega) (m := z 0) (by omega) hSo hpre hme h9 (rs_Q_up hL hPs (by omega) hQe hle9 hx) (by have h8 := hx.2.2.resolve_left (by omega); exact h8)) (by omega)) (cwV 2 hts (kx_gV kq_18_xrows_48 kq_18_xrows_49 kq_18_xrows_50 kq_18_xrows_4 kq_18_xrows_51 rfl) rfl rfl rfl (by decide +kernel) ⟨Nat.le_of_ble_eq_true rfl, Nat.le_of_ble_eq_true rfl⟩) ⟨kx_blind, va_recv hK hP (ci := 5) (q0 := 0) rfl rfl, kx_give (ws := []) (tys := []) hP hD hK hG hZ hS hFc⟩ rfl rfl hl.1 rfl (lv_room (Nat.le_of_ble_eq_true rfl)) dX5_addRowsUnder_74 ⟨show (cv + dn_24) + 200 ≤ 300 from (by omega), show (sv + dm_25) + 90000 ≤ 135000 from (by omega)⟩) hS (fun q _ h => hFc q h) hFc (fun u dn_34 dm_35 t H locs ht hvm hq_32 hB hk1 hS => ?_)
              obtain ⟨r_36, n_37, z_38, F_39, Er_40, En_41, Ez_42, EF_43⟩ := u
              obtain ⟨hP, hK1, hD1⟩ := hB
              rw [ht] at hP
              have hD := hD1.weaken (fun _ q _ h => hFc _ h)
              obtain ⟨hR44, hC44, hq_32⟩ := hq_32
              have hok44 := hR44.1
              have hfr44 := hfr31.tr (hR44.2.1.mono (S' := [1]) (T' := [1]) (by decide) (by decide))
              have hPE44 := hR44.2.2.1
              have hef44 := hRLL8.2.2.2.tr (hR44.2.2.2.mono (S' := []) (T' := []) (by decide) (by decide))
              have hz44 : z_38 12 = (zL8 12) := hR44.2.1.1 12 (by decide)
              have hkz44_0 : z_38 0 = z 0 := hfr44.1 0 (by decide)
              refine W.eq (g2 := F0 m 77 ls []) rfl ?_
              try dsimp only at hq_32
              try simp (decide := true) only [va_ev, ↓reduceIte] at hq_32
              obtain ⟨hs45, hm45, hp45⟩ := hq_32
              rw [show zL8 12 = z 12 by omega] at hm45
              obtain ⟨rfl, rfl, rfl, rfl⟩ := hp45
              refine lv_iinc (v := iz (k + 1)) (lv' := [(3, .int (iz (k + 1))), (4, .int (iz (F 0 k))), (0, .ref (o 15)), (1, .int (iz p0)), (2, .int (iz 1))]) hx hb dX5_addRowsUnder_77 hl (k := 1) rfl (iz_add k 1) (by decide) rfl (fun ls hl => ?_)
              refine lv_goto (tgt := 8) hx hb dX5_addRowsUnder_80 (by decide) ?_
              exact ih8 (k + 1) r_36 n_37 z_38 F_39 ((cv + dn_24) + dn_34) ((sv + dm_25) + dm_35) ⟨⟨hok44, hfr44, hPE44, hef44⟩, ⟨by omega, by omega⟩, (show z_38 12 = z 12 by omega), by omega, hs45, rs_under_step hL hPs (by omega) (by omega) hQe hle9 hme (show ∀ x, rs_me F_29 0 z_28 x ↔ (x = F 0 k ∨ rs_me (FL8 1) 0 (zL8 1) x) from fun x => by rw [haz]; exact rs_me_snoc (by omega) haf hav) hm45⟩ (by omega) _ _ hP hD hS ls (lv_sub hl [0, 2, 3, 4] rfl)
    exact lp8 _ 0 r n z F 0 0 ⟨⟨hok, hfr, hPE, hef⟩, ⟨by omega, by omega⟩, (show z 12 = z 12 by omega), by omega, hRo, fun x => ⟨fun h9 => Or.inl h9, fun h9 => by rcases h9 with h9 | ⟨-, i, a, b, -⟩; exact h9; exact absurd b (by omega)⟩⟩ (Nat.lt_succ_self _) _ _ hP hD hS ls (lv_sub hl [0, 1, 2, 3] rfl)
  · omega
set_option maxHeartbeats 4000000 in
set_option maxRecDepth 100000 in
theorem y_addRows2_0 (l : Launch) (dC : Nat → ClassId) (dI : Nat → Nat → Nat) (cI cB cE : ClassId) (o r n : Nat → Nat) (z : Nat → Int) (F : Nat → Int → Int) (G : Nat → Option Nat) (N : Nat) (Eo Er En : Nat → Nat → Nat) (Ez : Nat → Nat → Int) (EF : Nat → Nat → Int → Int) (p0 : Int) (lv : Int → Int) (ab : Int → Int) (Wd : Int → Int → Prop) (cm : Int → Int → Int) (sz : Nat) (hok : xOk n z F) (hxG : xG N (z 12) G Eo) (hPE : eA N En Ez EF) (hp01 : -2147483648 ≤ p0) (hp02 : p0 < 2147483648) (hRH : rs_H (z 12) Ez EF lv ab Wd cm) (hC : rs_C lv ab Wd (z 12) (rs_sE Ez)) (h79 : z 12 ≤ 78) (hSo : rs_so (rs_lt cm) (F 0) 0 (z 0)) (hSm : ∀ x, rs_me (F 0) 0 (z 0) x ↔ (0 ≤ x ∧ x < z 12 ∧ rs_sE Ez x = x)) (hRo : rs_so (rs_bf lv ab (rs_sE Ez) cm) (F 1) 0 (z 1)) (hRm : ∀ j, 0 ≤ j → j < z 1 → 0 ≤ F 1 j ∧ F 1 j < z 12) (hpre : ∀ y, rs_me (F 1) 0 (z 1) y → ∀ x, rs_Q lv ab (rs_sE Ez) (z 12) 0 p0 x → (rs_bf lv ab (rs_sE Ez) cm) y x) (hp0 : p0 = -1) : Met l yX5_addRowsUnder [.code yX5_addRowsUnder cX5_addRowsUnder 5 none] ({ frames := 5, cells := 400, slots := 180000, locals := 151 }) (va_Pc [.ref (o 15), .int (iz p0), .int (iz 0)] (kx_Pre dC dI (xU cI cB cE o r n z F G (Eo 0 0) ++ eP cI N Eo Er En Ez EF) (xT cI cB cE) sz)) (xQ (fun _ : (Nat → Nat) × (Nat → Nat) × (Nat → Int) × (Nat → Int → Int) × (Nat → Nat → Nat) × (Nat → Nat → Nat) × (Nat → Nat → Int) × (Nat → Nat → Int → Int) => none) (fun (u : (Nat → Nat) × (Nat → Nat) × (Nat → Int) × (Nat → Int → Int) × (Nat → Nat → Nat) × (Nat → Nat → Nat) × (Nat → Nat → Int) × (Nat → Nat → Int → Int)) (dn dm : Nat) => match u with | (r', n', z', F', Er', En', Ez', EF') => xR [1] [1] [] [] N z F En Ez EF n' z' F' En' Ez' EF' ∧ (dn + xg n' ≤ xg n + 0 ∧ dm + xp n' ≤ xp n + 0) ∧ (rs_so (rs_bf lv ab (rs_sE Ez) cm) (F' 1) 0 (z' 1) ∧ (∀ x, rs_me (F' 1) 0 (z' 1) x ↔ (rs_me (F 1) 0 (z 1) x ∨ rs_Q lv ab (rs_sE Ez) (z 12) 0 p0 x)) ∧ Er = Er' ∧ En = En' ∧ Ez = Ez' ∧ EF = EF')) (fun u t => kx_At dC dI (va_A (xU cI cB cE o r n z F G (Eo 0 0) ++ eP cI N Eo Er En Ez EF) sz) ((fun u : (Nat → Nat) × (Nat → Nat) × (Nat → Int) × (Nat → Int → Int) × (Nat → Nat → Nat) × (Nat → Nat → Nat) × (Nat → Nat → Int) × (Nat → Nat → Int → Int) => match u with | (r', n', z', F', Er', En', Ez', EF') => (xU cI cB cE o r' n' z' F' G (Eo 0 0) ++ eP cI N Eo Er' En' Ez' EF')) u) (xT cI cB cE) t) (va_A (xU cI cB cE o r n z F G (Eo 0 0) ++ eP cI N Eo Er En Ez EF) sz)) 400 180000 (va_A (xU cI cB cE o r n z F G (Eo 0 0) ++ eP cI N Eo Er En Ez EF) sz) := by
  refine Met.ofW (cc := cX5_addRowsUnder) (maxL := 5) (ret := none) (by decide) rfl ?_
  intro p e s m args below meth c s₁ B hml hv
  obtain ⟨rfl, hsz, hP, hK, hD0, hG, hZ⟩ := hv
  have hx := B.exec
  have hb := B.bytes
  have hr := B.returns
  have hts := kx_hts (a := ([.ref (o 15), .int (iz p0), .int (iz 0)] : List Value).toArray) hG
  have hown : s.vm.findClass RX5 = some m.cls := findClass_of_methodNamed B.named
  have hlocks := B.notSynchronized
  subst hsz
  have hD := hD0.self (sz := s.heap.size)
  generalize hAe : va_A (xU cI cB cE o r n z F G (Eo 0 0) ++ eP cI N Eo Er En Ez EF) s.heap.size = A at hD hZ ⊢
  have hA : ∀ q : Nat, s.heap.size ≤ q → A q := fun q h => by rw [← hAe]; exact Or.inr h
  have hS : va_S A s.heap s.heap [] := va_S.rf
  have hl := lv_entry ([.ref (o 15), .int (iz p0), .int (iz 0)]) (n := 5) (Nat.le_of_ble_eq_true rfl)
  rw [lg_entry_eq]
  generalize (lg_sl ([.ref (o 15), .int (iz p0), .int (iz 0)]) ++ List.replicate (5 - (lg_sl ([.ref (o 15), .int (iz p0), .int (iz 0)])).length) Slot.unset).toArray = ls at hl ⊢
  obtain ⟨hN1, hN2, hN3, hN4⟩ := hxG
  have hef : eFr [] [] En Ez EF En Ez EF := eFr.rf
  have hfr : xFr [1] [1] z F z F := xFr.rf
  have hxgl := xg_le n
  have hxpl := xp_le n
  have hl : lv_has ls 5 [(0, .ref (o 15)), (1, .int (iz p0)), (2, .int (iz 0))] := hl
  generalize hQe : MQ below (xQ (fun _ : (Nat → Nat) × (Nat → Nat) × (Nat → Int) × (Nat → Int → Int) × (Nat → Nat → Nat) × (Nat → Nat → Nat) × (Nat → Nat → Int) × (Nat → Nat → Int → Int) => none) (fun (u : (Nat → Nat) × (Nat → Nat) × (Nat → Int) × (Nat → Int → Int) × (Nat → Nat → Nat) × (Nat → Nat → Nat) × (Nat → Nat → Int) × (Nat → Nat → Int → Int)) (dn dm : Nat) => match u with | (r', n', z', F', Er', En', Ez', EF') => xR [1] [1] [] [] N z F En Ez EF n' z' F' En' Ez' EF' ∧ (dn + xg n' ≤ xg n + 0 ∧ dm + xp n' ≤ xp n + 0) ∧ (rs_so (rs_bf lv ab (rs_sE Ez) cm) (F' 1) 0 (z' 1) ∧ (∀ x, rs_me (F' 1) 0 (z' 1) x ↔ (rs_me (F 1) 0 (z 1) x ∨ rs_Q lv ab (rs_sE Ez) (z 12) 0 p0 x)) ∧ Er = Er' ∧ En = En' ∧ Ez = Ez' ∧ EF = EF')) (fun u t => kx_At dC dI A ((fun u : (Nat → Nat) × (Nat → Nat) × (Nat → Int) × (Nat → Int → Int) × (Nat → Nat → Nat) × (Nat → Nat → Nat) × (Nat → Nat → Int) × (Nat → Nat → Int → Int) => match u with | (r', n', z', F', Er', En', Ez', EF') => (xU cI cB cE o r' n' z' F' G (Eo 0 0) ++ eP cI N Eo Er' En' Ez' EF')) u) (xT cI cB cE) t) A) ([.ref (o 15), .int (iz p0), .int (iz 0)] : List Value).toArray s 400 180000 A = QQ
  have hL := hRH.1.1
  have hcm := hRH.1.2.2
  have hPs := rs_C_P hRH.1.2.1 hC
  have hz0 : 0 ≤ z 0 ∧ z 0 ≤ (n 0 : Int) ∧ (n 0 : Int) ≤ 80 := hok.1 0 (by decide)
  have hz1 : 0 ≤ z 1 ∧ z 1 ≤ (n 1 : Int) ∧ (n 1 : Int) ≤ 80 := hok.1 1 (by decide)
  refine lv_iload_n hx hb dX5_addRowsUnder_0 rfl (lv_at hl 2 rfl) ?_
  refine lv_iconst (v := iz 3) hx hb dX5_addRowsUnder_1 (by decide) ?_
  refine ki_icmp_lt (tgt := 6) hx hb dX5_addRowsUnder_2 (by decide) (by omega) (by omega) (by omega) (by omega) (fun c_1 => ?_) (fun c_1 => ?_)
  · skip
    refine lv_iconst (v := iz 0) hx hb dX5_addRowsUnder_6 (by decide) ?_
    refine lv_istore_n (lv' := [(3, .int (iz 0)), (0, .ref (o 15)), (1, .int (iz p0)), (2, .int (iz 0))]) hx hb dX5_addRowsUnder_7 rfl hl (by decide) rfl (fun ls hl => ?_)
    have lp8 : ∀ (n0 : Nat) (k : Int) (rL8 : Nat → Nat) (nL8 : Nat → Nat) (zL8 : Nat → Int) (FL8 : Nat → Int → Int) (cv : Nat) (sv : Nat), ((xR [1] [1] [] [] N z F En Ez EF nL8 zL8 FL8 En Ez EF) ∧ (cv + xg nL8 ≤ xg n + (0) ∧ sv + xp nL8 ≤ xp n + (0)) ∧ (zL8 12 = z 12) ∧ (0 ≤ k ∧ k ≤ z 0) ∧ (rs_so (rs_bf lv ab (rs_sE Ez) cm) (FL8 1) 0 (zL8 1)) ∧ (∀ x, rs_me (FL8 1) 0 (zL8 1) x ↔ (rs_me (F 1) 0 (z 1) x ∨ (rs_Q lv ab (rs_sE Ez) (z 12) 0 p0 x ∧ ∃ i, 0 ≤ i ∧ i < k ∧ rs_w lv ab (rs_sE Ez) x 0 = F 0 i)))) → (z 0 - k).toNat < n0 → ∀ (H : Heap) (locs : List Loc), va_P (dC, dI) kxCl ((xU cI cB cE o rL8 nL8 zL8 FL8 G (Eo 0 0)) ++ (eP cI N Eo Er En Ez EF)) H → va_D A ((xU cI cB cE o rL8 nL8 zL8 FL8 G (Eo 0 0)) ++ (eP cI N Eo Er En Ez EF)) → va_S A s.heap H locs → ∀ ls : Array Slot, lv_has ls 5 [(3, .int (iz k)), (0, .ref (o 15)), (1, .int (iz p0)), (2, .int (iz 0))] → W p l e (headSpec [.code yX5_addRowsUnder cX5_addRowsUnder 5 none] ({ frames := 5, cells := 400, slots := 180000, locals := 151 })).room s m ([.ref (o 15), .int (iz p0), .int (iz 0)] : List Value).toArray below meth c H locs cv sv QQ (F0 m 8 ls []) := by
      intro n0
      induction n0 with
      | zero => intro k rL8 nL8 zL8 FL8 cv sv hinv hm0; exact absurd hm0 (Nat.not_lt_zero _)
      | succ n0 ih8 =>
        intro k rL8 nL8 zL8 FL8 cv sv hinv hm0 H locs hP hD hS ls hl
        obtain ⟨hRLL8, hCLL8, hZLL8, hk, hso, hme⟩ := hinv
        have hkzL8_0 : zL8 0 = z 0 := hRLL8.2.1.1 0 (by decide)
        have hF0 : FL8 0 = F 0 := hRLL8.2.1.2 0 (by decide)
        have hzz1 : 0 ≤ zL8 1 ∧ zL8 1 ≤ (nL8 1 : Int) ∧ (nL8 1 : Int) ≤ 80 := hRLL8.1.1 1 (by decide)
        have hrng : ∀ j, 0 ≤ j → j < zL8 1 → 0 ≤ FL8 1 j ∧ FL8 1 j < z 12 := fun j a b => by rcases (hme (FL8 1 j)).mp ⟨j, a, b, rfl⟩ with h9 | h9; (obtain ⟨j2, a2, b2, c2⟩ := h9; rw [← c2]; exact hRm j2 a2 b2); exact ⟨h9.1.1.1, h9.1.1.2.1⟩
        have hfew : zL8 1 ≤ z 12 := rs_few (by omega) (by omega) hrng (fun i j a b c h9 => rs_bf_ir hcm (FL8 1 i) (by have h8 := hso i j a b c; rw [← h9] at h8; exact h8))
        refine lv_iload_n hx hb dX5_addRowsUnder_8 rfl (lv_at hl 0 rfl) ?_
        refine lv_aload_n hx hb dX5_addRowsUnder_9 rfl (lv_at hl 1 rfl) ?_
        refine va_get (D := (dC, dI)) (ci := 5) (v := .ref (o 0)) (C := RX5) (T := TX5) (N := 16) hx hb hts kt_X5 hown hK hP 0 rfl rfl 5 (by decide) (kx_word hG kq_18_xrows_37 rfl) (fun _ h9 => h9) rfl dX5_addRowsUnder_10 ?_
        have hxi_2 : 0 ≤ zL8 0 ∧ zL8 0 ≤ ((nL8 0 : Nat) : Int) ∧ ((nL8 0 : Nat) : Int) ≤ 80 := hRLL8.1.1 0 (by decide)
        have hPc := hP.sub (ws' := (iU cI 80 (o 0) (rL8 0) (nL8 0) (zL8 0) (FL8 0))) [2, 3] rfl
        refine xk_pure (va_runV (As := []) (rest := [.int (iz k)]) ⟨hx, hb, hml, hown, hts⟩ (x_size l dC dI cI cB cE 80 (o 0) (rL8 0) (nL8 0) (zL8 0) (FL8 0)  H.size ) (cwV 0 hts (kx_gV kq_18_xrows_40 kq_15_xspan_10 kq_15_xspan_11 kq_13_xints_6 kq_15_xspan_12 rfl) rfl rfl rfl (by decide +kernel) ⟨Nat.le_of_ble_eq_true rfl, Nat.le_of_ble_eq_true rfl⟩) ⟨pPre_blind, va_recv hK hPc (ci := 1) (q0 := 0) rfl rfl, pPre_give hPc hK hG⟩ rfl rfl hl.1 rfl (lv_room (Nat.le_of_ble_eq_true rfl)) dX5_addRowsUnder_13 ⟨show cv + 0 ≤ 400 from (by omega), show sv + 0 ≤ 180000 from (by omega)⟩) hS (fun z_4 locs hq_3 hS => ?_)
        refine W.eq (g2 := F0 m 16 ls [.int (iz z_4), .int (iz k)]) rfl ?_
        try dsimp only at hq_3
        have hq_3 := hq_3.symm
        subst hq_3
        refine ki_icmp_ge (tgt := 83) hx hb dX5_addRowsUnder_16 (by decide) (by omega) (by omega) (by omega) (by omega) (fun c_5 => ?_) (fun c_5 => ?_)
        · skip
          rw [← hQe]
          exact xk_vret (ov := (fun _ : (Nat → Nat) × (Nat → Nat) × (Nat → Int) × (Nat → Int → Int) × (Nat → Nat → Nat) × (Nat → Nat → Nat) × (Nat → Nat → Int) × (Nat → Nat → Int → Int) => none)) (post := (fun (u : (Nat → Nat) × (Nat → Nat) × (Nat → Int) × (Nat → Int → Int) × (Nat → Nat → Nat) × (Nat → Nat → Nat) × (Nat → Nat → Int) × (Nat → Nat → Int → Int)) (dn dm : Nat) => match u with | (r', n', z', F', Er', En', Ez', EF') => xR [1] [1] [] [] N z F En Ez EF n' z' F' En' Ez' EF' ∧ (dn + xg n' ≤ xg n + 0 ∧ dm + xp n' ≤ xp n + 0) ∧ (rs_so (rs_bf lv ab (rs_sE Ez) cm) (F' 1) 0 (z' 1) ∧ (∀ x, rs_me (F' 1) 0 (z' 1) x ↔ (rs_me (F 1) 0 (z 1) x ∨ rs_Q lv ab (rs_sE Ez) (z 12) 0 p0 x)) ∧ Er = Er' ∧ En = En' ∧ Ez = Ez' ∧ EF = EF'))) (ws := (fun u : (Nat → Nat) × (Nat → Nat) × (Nat → Int) × (Nat → Int → Int) × (Nat → Nat → Nat) × (Nat → Nat → Nat) × (Nat → Nat → Int) × (Nat → Nat → Int → Int) => match u with | (r', n', z', F', Er', En', Ez', EF') => (xU cI cB cE o r' n' z' F' G (Eo 0 0) ++ eP cI N Eo Er' En' Ez' EF'))) (tys := xT cI cB cE) (rL8, nL8, zL8, FL8, Er, En, Ez, EF) hx hb hr hlocks rfl hP hD hK hS dX5_addRowsUnder_83 (fun dn dm hdn hdm => ⟨⟨hRLL8.1, hRLL8.2.1, hRLL8.2.2.1, hRLL8.2.2.2⟩, ⟨by omega, by omega⟩, ⟨hso, rs_under_end hL hPs (by omega) hSm (by rw [← show k = z 0 by omega]; exact hme), rfl, rfl, rfl, rfl⟩⟩) (by omega) (by omega)
        · skip
          refine lv_aload_n hx hb dX5_addRowsUnder_19 rfl (lv_at hl 1 rfl) ?_
          refine va_get (D := (dC, dI)) (ci := 5) (v := .ref (o 0)) (C := RX5) (T := TX5) (N := 16) hx hb hts kt_X5 hown hK hP 0 rfl rfl 5 (by decide) (kx_word hG kq_18_xrows_37 rfl) (fun _ h9 => h9) rfl dX5_addRowsUnder_20 ?_
          refine lv_iload_n hx hb dX5_addRowsUnder_23 rfl (lv_at hl 0 rfl) ?_
          have hPc := hP.sub (ws' := (iU cI 80 (o 0) (rL8 0) (nL8 0) (zL8 0) (FL8 0))) [2, 3] rfl
          refine xk_pure (va_runV (As := [.int (iz k)]) (rest := []) ⟨hx, hb, hml, hown, hts⟩ (x_get l dC dI cI cB cE 80 (o 0) (rL8 0) (nL8 0) (zL8 0) (FL8 0) k H.size (by omega) (hRLL8.1.2.2.1 0) (by omega) (by omega)) (cwV 1 hts (kx_gV kq_18_xrows_41 kq_13_xints_4 kq_13_xints_5 kq_13_xints_6 kq_13_xints_7 rfl) rfl rfl rfl (by decide +kernel) ⟨Nat.le_of_ble_eq_true rfl, Nat.le_of_ble_eq_true rfl⟩) ⟨pPre_blind, va_recv hK hPc (ci := 1) (q0 := 0) rfl rfl, pPre_give hPc hK hG⟩ rfl rfl hl.1 rfl (lv_room (Nat.le_of_ble_eq_true rfl)) dX5_addRowsUnder_24 ⟨show cv + 0 ≤ 400 from (by omega), show sv + 0 ≤ 180000 from (by omega)⟩) hS (fun z_7 locs hq_6 hS => ?_)
          refine W.eq (g2 := F0 m 27 ls [.int (iz z_7)]) rfl ?_
          try dsimp only at hq_6
          have ev_8 : z_7 = F 0 k := by have h9 := congrFun hF0 k; omega
          subst ev_8
          refine W.eq (g2 := F0 m 27 ls [.int (iz (F 0 k))]) rfl ?_
          have hsk := (hSm (F 0 k)).mp ⟨k, by omega, by omega, rfl⟩
          have h78 := hRH.2.1 (F 0 k) hsk.1 hsk.2.1
          have hlvk := hL (F 0 k) hsk.1 hsk.2.1
          refine lv_istore (lv' := [(4, .int (iz (F 0 k))), (3, .int (iz k)), (0, .ref (o 15)), (1, .int (iz p0)), (2, .int (iz 0))]) hx hb dX5_addRowsUnder_27 hl (by decide) rfl (fun ls hl => ?_)
          refine lv_aload_n hx hb dX5_addRowsUnder_29 rfl (lv_at hl 2 rfl) ?_
          refine lv_iload hx hb dX5_addRowsUnder_30 (lv_at hl 0 rfl) ?_
          have hxz_9 : -2147483648 ≤ zL8 12 ∧ zL8 12 < 2147483648 := hRLL8.1.2.2.2.1 12
          have hxG9 : xG N (zL8 12) G Eo := ⟨by omega, by omega, by omega, fun e9 h9 => hN4 e9 (by omega)⟩
          have hP : va_P (dC, dI) kxCl (xU cI cB cE o rL8 nL8 zL8 FL8 G (Eo 0 0) ++ eP cI N Eo Er En Ez EF) H := hP
          refine xk_pure (va_runV (As := [.int (iz (F 0 k))]) (rest := []) ⟨hx, hb, hml, hown, hts⟩ (y_known l dC dI cI cB cE o rL8 nL8 zL8 FL8 G N Eo Er En Ez EF (F 0 k) H.size hRLL8.1 hxG9 hRLL8.2.2.1 (by omega) (by omega)) (cwV 1 hts (kx_gV kq_18_xrows_8 kq_18_xrows_9 kq_18_xrows_10 kq_18_xrows_4 kq_18_xrows_11 rfl) rfl rfl rfl (by decide +kernel) ⟨Nat.le_of_ble_eq_true rfl, Nat.le_of_ble_eq_true rfl⟩) ⟨pPre_blind, va_recv hK hP (ci := 5) (q0 := 0) rfl rfl, pPre_give hP hK hG⟩ rfl rfl hl.1 rfl (lv_room (Nat.le_of_ble_eq_true rfl)) dX5_addRowsUnder_32 ⟨show cv + 0 ≤ 400 from (by omega), show sv + 0 ≤ 180000 from (by omega)⟩) hS (fun z_11 locs hq_10 hS => ?_)
          refine W.eq (g2 := F0 m 35 ls [.ref z_11.toNat]) rfl ?_
          try dsimp only at hq_10
          obtain ⟨j12, hj12, ez12, hje12⟩ := hq_10
          subst ez12
          refine W.eq (g2 := F0 m 35 ls [.ref (Eo j12 0)]) rfl ?_
          have ej12 : j12 = ((F 0 k) + 1).toNat := by omega
          subst ej12
          have hP := eP_foc hj12 hP
          have hD := eD_foc hj12 hD
          have hez_13 : -2147483648 ≤ Ez (((F 0 k) + 1).toNat) 7 ∧ Ez (((F 0 k) + 1).toNat) 7 < 2147483648 := (hRLL8.2.2.1 (((F 0 k) + 1).toNat) hj12).2.2 7
          refine va_getN (D := (dC, dI)) (ci := 0) (v := .int (iz (Ez (((F 0 k) + 1).toNat) 7))) (C := RX0) (T := TX0) (N := 12) hx hb hts kt_X0 hown hK hP 29 rfl rfl 0 (by decide) (va_Nw.use rfl (kx_nf hG kq_18_xrows_12)) (fun _ h9 => h9) rfl dX5_addRowsUnder_35 ?_
          refine lv_iload_n hx hb dX5_addRowsUnder_38 rfl (lv_at hl 4 rfl) ?_
          refine ki_icmp_ne (tgt := 77) hx hb dX5_addRowsUnder_39 (by decide) (by omega) (by omega) (by omega) (by omega) (fun c_14 => ?_) (fun c_14 => ?_)
          · skip
            refine lv_iinc (v := iz (k + 1)) (lv' := [(3, .int (iz (k + 1))), (4, .int (iz (F 0 k))), (0, .ref (o 15)), (1, .int (iz p0)), (2, .int (iz 0))]) hx hb dX5_addRowsUnder_77 hl (k := 1) rfl (iz_add k 1) (by decide) rfl (fun ls hl => ?_)
            refine lv_goto (tgt := 8) hx hb dX5_addRowsUnder_80 (by decide) ?_
            have hP := eP_un0 hj12 hP
            have hD := eD_un0 hj12 hD
            exact ih8 (k + 1) rL8 nL8 zL8 FL8 cv sv ⟨⟨hRLL8.1, hRLL8.2.1, hRLL8.2.2.1, hRLL8.2.2.2⟩, ⟨by omega, by omega⟩, (show zL8 12 = z 12 by omega), by omega, hso, rs_under_skip hL hPs (by omega) (fun h9 => absurd h9.1 (by omega)) hme⟩ (by omega) _ _ hP hD hS ls (lv_sub hl [0, 2, 3, 4] rfl)
          · skip
            refine lv_aload_n hx hb dX5_addRowsUnder_42 rfl (lv_at hl 2 rfl) ?_
            refine lv_aload_n hx hb dX5_addRowsUnder_43 rfl (lv_at hl 2 rfl) ?_
            refine lv_iload hx hb dX5_addRowsUnder_44 (lv_at hl 0 rfl) ?_
            have hP := eP_un0 hj12 hP
            have hD := eD_un0 hj12 hD
            have hxG9 : xG N (zL8 12) G Eo := ⟨by omega, by omega, by omega, fun e9 h9 => hN4 e9 (by omega)⟩
            have hP : va_P (dC, dI) kxCl (xU cI cB cE o rL8 nL8 zL8 FL8 G (Eo 0 0) ++ eP cI N Eo Er En Ez EF) H := hP
            refine xk_pure (va_runV (As := [.int (iz (F 0 k))]) (rest := [.ref (o 15)]) ⟨hx, hb, hml, hown, hts⟩ (y_known l dC dI cI cB cE o rL8 nL8 zL8 FL8 G N Eo Er En Ez EF (F 0 k) H.size hRLL8.1 hxG9 hRLL8.2.2.1 (by omega) (by omega)) (cwV 1 hts (kx_gV kq_18_xrows_8 kq_18_xrows_9 kq_18_xrows_10 kq_18_xrows_4 kq_18_xrows_11 rfl) rfl rfl rfl (by decide +kernel) ⟨Nat.le_of_ble_eq_true rfl, Nat.le_of_ble_eq_true rfl⟩) ⟨pPre_blind, va_recv hK hP (ci := 5) (q0 := 0) rfl rfl, pPre_give hP hK hG⟩ rfl rfl hl.1 rfl (lv_room (Nat.le_of_ble_eq_true rfl)) dX5_addRowsUnder_46 ⟨show cv + 0 ≤ 400 from (by omega), show sv + 0 ≤ 180000 from (by omega)⟩) hS (fun z_16 locs hq_15 hS => ?_)
            refine W.eq (g2 := F0 m 49 ls [.ref z_16.toNat, .ref (o 15)]) rfl ?_
            try dsimp only at hq_15
            obtain ⟨j17, hj17, ez17, hje17⟩ := hq_15
            subst ez17
            refine W.eq (g2 := F0 m 49 ls [.ref (Eo j17 0), .ref (o 15)]) rfl ?_
            have ej17 : j17 = ((F 0 k) + 1).toNat := by omega
            subst ej17
            have hP := eP_foc hj17 hP
            have hD := eD_foc hj17 hD
            have hez_18 : -2147483648 ≤ Ez (((F 0 k) + 1).toNat) 8 ∧ Ez (((F 0 k) + 1).toNat) 8 < 2147483648 := (hRLL8.2.2.1 (((F 0 k) + 1).toNat) hj17).2.2 8
            refine va_getN (D := (dC, dI)) (ci := 0) (v := .int (iz (Ez (((F 0 k) + 1).toNat) 8))) (C := RX0) (T := TX0) (N := 12) hx hb hts kt_X0 hown hK hP 29 rfl rfl 1 (by decide) (va_Nw.use rfl (kx_nf hG kq_18_xrows_14)) (fun _ h9 => h9) rfl dX5_addRowsUnder_49 ?_
            have hP := eP_un0 hj17 hP
            have hD := eD_un0 hj17 hD
            have hxG9 : xG N (zL8 12) G Eo := ⟨by omega, by omega, by omega, fun e9 h9 => hN4 e9 (by omega)⟩
            have hP : va_P (dC, dI) kxCl (xU cI cB cE o rL8 nL8 zL8 FL8 G (Eo 0 0) ++ eP cI N Eo Er En Ez EF) H := hP
            refine xk_pure (va_runV (As := [.int (iz (Ez (((F 0 k) + 1).toNat) 8))]) (rest := []) ⟨hx, hb, hml, hown, hts⟩ (y_firstOf2 l dC dI cI cB cE o rL8 nL8 zL8 FL8 G N Eo Er En Ez EF (Ez (((F 0 k) + 1).toNat) 8) H.size hRLL8.1 hxG9 hRLL8.2.2.1 (by omega) (by omega)) (cwV 1 hts (kx_gV kq_18_xrows_15 kq_18_xrows_16 kq_18_xrows_17 kq_18_xrows_4 kq_18_xrows_18 rfl) rfl rfl rfl (by decide +kernel) ⟨Nat.le_of_ble_eq_true rfl, Nat.le_of_ble_eq_true rfl⟩) ⟨pPre_blind, va_recv hK hP (ci := 5) (q0 := 0) rfl rfl, pPre_give hP hK hG⟩ rfl rfl hl.1 rfl (lv_room (Nat.le_of_ble_eq_true rfl)) dX5_addRowsUnder_52 ⟨show cv + 0 ≤ 400 from (by omega), show sv + 0 ≤ 180000 from (by omega)⟩) hS (fun z_20 locs hq_19 hS => ?_)
            refine W.eq (g2 := F0 m 55 ls [.int (iz z_20)]) rfl ?_
            try dsimp only at hq_19
            obtain ⟨hq_19, hq_19b⟩ := hq_19
            subst hq_19
            refine W.eq (g2 := F0 m 55 ls [.int (iz (rs_fo (zL8 12) Ez (Ez (((F 0 k) + 1).toNat) 8)))]) rfl ?_
            refine lv_iload_n hx hb dX5_addRowsUnder_55 rfl (lv_at hl 3 rfl) ?_
            refine ki_icmp_ne (tgt := 77) hx hb dX5_addRowsUnder_56 (by decide) (by omega) (by omega) (by omega) (by omega) (fun c_21 => ?_) (fun c_21 => ?_)
            · skip
              refine lv_iinc (v := iz (k + 1)) (lv' := [(3, .int (iz (k + 1))), (4, .int (iz (F 0 k))), (0, .ref (o 15)), (1, .int (iz p0)), (2, .int (iz 0))]) hx hb dX5_addRowsUnder_77 hl (k := 1) rfl (iz_add k 1) (by decide) rfl (fun ls hl => ?_)
              refine lv_goto (tgt := 8) hx hb dX5_addRowsUnder_80 (by decide) ?_
              exact ih8 (k + 1) rL8 nL8 zL8 FL8 cv sv ⟨⟨hRLL8.1, hRLL8.2.1, hRLL8.2.2.1, hRLL8.2.2.2⟩, ⟨by omega, by omega⟩, (show zL8 12 = z 12 by omega), by omega, hso, (show False from by have h9 : rs_fo (zL8 12) Ez (Ez ((F 0 k + 1).toNat) 8) = -1 := if_neg (by omega); omega).elim⟩ (by omega) _ _ hP hD hS ls (lv_sub hl [0, 2, 3, 4] rfl)
            · skip
              have hle9 : lv (F 0 k) = 0 := by omega
              have hQe : rs_Q lv ab (rs_sE Ez) (z 12) 0 p0 (F 0 k) := ⟨hsk, by omega, Or.inl rfl⟩
              refine lv_aload_n hx hb dX5_addRowsUnder_59 rfl (lv_at hl 2 rfl) ?_
              refine va_get (D := (dC, dI)) (ci := 5) (v := .ref (o 1)) (C := RX5) (T := TX5) (N := 16) hx hb hts kt_X5 hown hK hP 0 rfl rfl 6 (by decide) (kx_word hG kq_18_xrows_47 rfl) (fun _ h9 => h9) rfl dX5_addRowsUnder_60 ?_
              refine lv_iload hx hb dX5_addRowsUnder_63 (lv_at hl 0 rfl) ?_
              have hxi_22 : 0 ≤ zL8 1 ∧ zL8 1 ≤ ((nL8 1 : Nat) : Int) ∧ ((nL8 1 : Nat) : Int) ≤ 80 := hRLL8.1.1 1 (by decide)
              have hPc := hP.sub (ws' := (iU cI 80 (o 1) (rL8 1) (nL8 1) (zL8 1) (FL8 1))) [4, 5] rfl
              have hDc := hD.sub (ws' := (iU cI 80 (o 1) (rL8 1) (nL8 1) (zL8 1) (FL8 1))) [4, 5] (by decide) rfl
              have hFc := va_free (wc := (iU cI 80 (o 1) (rL8 1) (nL8 1) (zL8 1) (FL8 1))) hD hS hA [4, 5] rfl
              refine xk_call (va_runV (As := [.int (iz (F 0 k))]) (rest := []) ⟨hx, hb, hml, hown, hts⟩ (x_add l dC dI cI cB cE 80 (o 1) (rL8 1) (nL8 1) (zL8 1) (FL8 1) (F 0 k) H.size (by omega) (hRLL8.1.2.2.1 1) (by omega) (by omega)) (cwV 1 hts (kx_gV kq_18_xrows_39 kq_15_xspan_46 kq_15_xspan_47 kq_13_xints_6 kq_15_xspan_48 rfl) rfl rfl rfl (by decide +kernel) ⟨Nat.le_of_ble_eq_true rfl, Nat.le_of_ble_eq_true rfl⟩) ⟨kx_blind, va_recv hK hPc (ci := 1) (q0 := 0) rfl rfl, kx_give (ws := []) (tys := []) hPc hDc hK hG hZ hS hFc⟩ rfl rfl hl.1 rfl (lv_room (Nat.le_of_ble_eq_true rfl)) dX5_addRowsUnder_65 ⟨show cv + 1 ≤ 400 from (by omega), show sv + 1600 ≤ 180000 from (by omega)⟩) hS (fun q _ h => hFc q h) hFc (fun u dn_24 dm_25 t H locs ht hvm hq_23 hB hk1 hS => ?_)
              obtain ⟨r_26, n_27, z_28, F_29⟩ := u
              obtain ⟨hP1, hK1, hD1⟩ := hB
              rw [ht] at hP1
              obtain ⟨hP, hD⟩ := xj_pool (wr := [(o 15, .inr (5, [.ref (o 16), .ref (Eo 0 0), .int (iz (zL8 12)), .int (iz (zL8 13)), .int (iz (zL8 14)), .ref (o 0), .ref (o 1), .int (iz (zL8 15)), .ref (o 13), .ref (o 14), .int (iz (zL8 16)), .ref (o 2), .ref (o 12), .ref (o 3), .ref (o 10), .ref (o 11)])), (o 16, .inl (cE, 80, .inr (.inr (.inr (.inr G))))), (o 0, .inr (1, [.int (iz 80), .ref (rL8 0), .int (iz (zL8 0))])), (rL8 0, .inl (cI, nL8 0, .inl (iA (FL8 0)))), (o 2, .inr (1, [.int (iz 80), .ref (rL8 2), .int (iz (zL8 2))])), (rL8 2, .inl (cI, nL8 2, .inl (iA (FL8 2)))), (o 3, .inr (1, [.int (iz 80), .ref (rL8 3), .int (iz (zL8 3))])), (rL8 3, .inl (cI, nL8 3, .inl (iA (FL8 3)))), (o 13, .inr (3, [.ref (o 4), .ref (o 5), .ref (o 6)])), (o 4, .inr (1, [.int (iz 1600), .ref (rL8 4), .int (iz (zL8 4))])), (rL8 4, .inl (cI, nL8 4, .inl (iA (FL8 4)))), (o 5, .inr (1, [.int (iz 1600), .ref (rL8 5), .int (iz (zL8 5))])), (rL8 5, .inl (cI, nL8 5, .inl (iA (FL8 5)))), (o 6, .inr (1, [.int (iz 1600), .ref (rL8 6), .int (iz (zL8 6))])), (rL8 6, .inl (cI, nL8 6, .inl (iA (FL8 6)))), (o 14, .inr (3, [.ref (o 7), .ref (o 8), .ref (o 9)])), (o 7, .inr (1, [.int (iz 1600), .ref (rL8 7), .int (iz (zL8 7))])), (rL8 7, .inl (cI, nL8 7, .inl (iA (FL8 7)))), (o 8, .inr (1, [.int (iz 1600), .ref (rL8 8), .int (iz (zL8 8))])), (rL8 8, .inl (cI, nL8 8, .inl (iA (FL8 8)))), (o 9, .inr (1, [.int (iz 1600), .ref (rL8 9), .int (iz (zL8 9))])), (rL8 9, .inl (cI, nL8 9, .inl (iA (FL8 9)))), (o 12, .inr (4, [.int (iz (zL8 17)), .int (iz (zL8 18)), .int (iz (zL8 19)), .int (iz (zL8 20)), .int (iz (zL8 21))])), (o 10, .inr (2, [.ref (rL8 10), .int (iz (zL8 10)), .int (iz (zL8 22))])), (rL8 10, .inl (cB, nL8 10, .inl (iA (FL8 10)))), (o 11, .inr (2, [.ref (rL8 11), .int (iz (zL8 11)), .int (iz (zL8 23))])), (rL8 11, .inl (cB, nL8 11, .inl (iA (FL8 11))))]) (w1 := (iU cI 80 (o 1) r_26 n_27 z_28 F_29)) (ws' := (xU cI cB cE o (va_up rL8 1 r_26) (va_up nL8 1 n_27) (va_up zL8 1 z_28) (va_up FL8 1 F_29) G (Eo 0 0))) hP hD [4, 5] [0, 1, 2, 3, 6, 7, 8, 9, 10, 11, 12, 13, 14, 15, 16, 17, 18, 19, 20, 21, 22, 23, 24, 25, 26, 27, 28] [0, 1, 2, 3, 27, 28, 4, 5, 6, 7, 8, 9, 10, 11, 12, 13, 14, 15, 16, 17, 18, 19, 20, 21, 22, 23, 24, 25, 26] rfl rfl (by decide) (by decide) hk1 hFc hP1 hD1 rfl (by decide)
              refine W.eq (g2 := F0 m 68 ls []) rfl ?_
              try dsimp only at hq_23
              obtain ⟨ha30, hb30, hc30, hd30⟩ := hq_23
              have hax30 := hd30.1
              obtain ⟨haz, haf, hav⟩ := rs_added (by omega) (by omega) hd30
              refine lv_aload_n hx hb dX5_addRowsUnder_68 rfl (lv_at hl 2 rfl) ?_
              refine lv_iload hx hb dX5_addRowsUnder_69 (lv_at hl 0 rfl) ?_
              refine lv_iload_n hx hb dX5_addRowsUnder_71 rfl (lv_at hl 4 rfl) ?_
              refine lv_iconst (v := iz 1) hx hb dX5_addRowsUnder_72 (by decide) ?_
              refine ki_iadd hx hb dX5_addRowsUnder_73 ?_
              refine ki_is (show iz (0 + 1) = iz 1 from rfl) ?_
              have hok31 : xOk (va_up nL8 1 n_27) (va_up zL8 1 z_28) (va_up FL8 1 F_29) := (hRLL8.1.i 1 (by decide) (show 0 ≤ z_28 ∧ z_28 ≤ ((n_27 : Nat) : Int) ∧ ((n_27 : Nat) : Int) ≤ 80 by omega) hb30)
              have hfr31 : xFr [1] [1] z F (va_up zL8 1 z_28) (va_up FL8 1 F_29) := ((hRLL8.2.1.uz 1 (by decide) _).uf 1 (by decide) _)
              have hcg31 : (dn_24) + xg (va_up nL8 1 n_27) ≤ xg nL8 := by unfold xg; simp (decide := true) only [va_ev, ↓reduceIte]; omega
              have hcp31 : (dm_25) + xp (va_up nL8 1 n_27) ≤ xp nL8 := by unfold xp; simp (decide := true) only [va_ev, ↓reduceIte]; omega
              have hxG9 : xG N (zL8 12) G Eo := ⟨by omega, by omega, by omega, fun e9 h9 => hN4 e9 (by omega)⟩
              have hP : va_P (dC, dI) kxCl (xU cI cB cE o (va_up rL8 1 r_26) (va_up nL8 1 n_27) (va_up zL8 1 z_28) (va_up FL8 1 F_29) G (Eo 0 0) ++ eP cI N Eo Er En Ez EF) H := hP
              have hD : va_D A (xU cI cB cE o (va_up rL8 1 r_26) (va_up nL8 1 n_27) (va_up zL8 1 z_28) (va_up FL8 1 F_29) G (Eo 0 0) ++ eP cI N Eo Er En Ez EF) := hD
              have hFc := xw_free hD hS hA
              refine xk_call (va_runV (As := [.int (iz (F 0 k)), .int (iz 1)]) (rest := []) ⟨hx, hb, hml, hown, hts⟩ (y_addRows2_1 l dC dI cI cB cE o (va_up rL8 1 r_26) (va_up nL8 1 n_27) (va_up zL8 1 z_28) (va_up FL8 1 F_29) G N Eo Er En Ez EF (F 0 k) lv ab Wd cm H.size hok31 hxG9 hRLL8.2.2.1 (by omega) (by omega) (by show rs_H (zL8 12) Ez EF lv ab Wd cm; rw [show zL8 12 = z 12 by omega]; exact hRH) (by show rs_C lv ab Wd (zL8 12) (rs_sE Ez); rw [show zL8 12 = z 12 by omega]; exact hC) (show zL8 12 ≤ 78 by omega) (by show rs_so (rs_lt cm) (FL8 0) 0 (zL8 0); rw [hF0, hkzL8_0]; exact hSo) (by show ∀ x, rs_me (FL8 0) 0 (zL8 0) x ↔ (0 ≤ x ∧ x < zL8 12 ∧ rs_sE Ez x = x); rw [hF0, hkzL8_0, show zL8 12 = z 12 by omega]; exact hSm) (by show rs_so (rs_bf lv ab (rs_sE Ez) cm) F_29 0 z_28; rw [haz]; exact rs_so_snoc (by omega) hso haf hav (fun j a b => rs_under_bf hL hPs hcm (by omega) (m := z 0) (by omega) hSo hpre hme ⟨j, a, b, rfl⟩ hQe (rs_w_is hle9))) (by show ∀ j, 0 ≤ j → j < z_28 → 0 ≤ F_29 j ∧ F_29 j < zL8 12; intro j a b; by_cases c9 : j = zL8 1; (rw [c9, hav]; omega); (rw [haf j a (by omega), show zL8 12 = z 12 by omega]; exact hrng j a (by omega))) (by show ∀ y, rs_me F_29 0 z_28 y → ∀ x, rs_Q lv ab (rs_sE Ez) (zL8 12) 1 (F 0 k) x → (rs_bf lv ab (rs_sE Ez) cm) y x; rw [haz, show zL8 12 = z 12 by omega]; intro y hy x hx; rcases (rs_me_snoc (by omega) haf hav).mp hy with h9 | h9; (rw [h9]; exact rs_Q_dn hL hPs (by omega) hQe hle9 hx); exact rs_under_bf hL hPs hcm (by omega) (m := z 0) (by omega) hSo hpre hme h9 (rs_Q_up hL hPs (by omega) hQe hle9 hx) (by have h8 := hx.2.2.resolve_left (by omega); exact h8)) (by omega)) (cwV 2 hts (kx_gV kq_18_xrows_48 kq_18_xrows_49 kq_18_xrows_50 kq_18_xrows_4 kq_18_xrows_51 rfl) rfl rfl rfl (by decide +kernel) ⟨Nat.le_of_ble_eq_true rfl, Nat.le_of_ble_eq_true rfl⟩) ⟨kx_blind, va_recv hK hP (ci := 5) (q0 := 0) rfl rfl, kx_give (ws := []) (tys := []) hP hD hK hG hZ hS hFc⟩ rfl rfl hl.1 rfl (lv_room (Nat.le_of_ble_eq_true rfl)) dX5_addRowsUnder_74 ⟨show (cv + dn_24) + 300 ≤ 400 from (by omega), show (sv + dm_25) + 135000 ≤ 180000 from (by omega)⟩) hS (fun q _ h => hFc q h) hFc (fun u dn_34 dm_35 t H locs ht hvm hq_32 hB hk1 hS => ?_)
              obtain ⟨r_36, n_37, z_38, F_39, Er_40, En_41, Ez_42, EF_43⟩ := u
              obtain ⟨hP, hK1, hD1⟩ := hB
              rw [ht] at hP
              have hD := hD1.weaken (fun _ q _ h => hFc _ h)
              obtain ⟨hR44, hC44, hq_32⟩ := hq_32
              have hok44 := hR44.1
              have hfr44 := hfr31.tr (hR44.2.1.mono (S' := [1]) (T' := [1]) (by decide) (by decide))
              have hPE44 := hR44.2.2.1
              have hef44 := hRLL8.2.2.2.tr (hR44.2.2.2.mono (S' := []) (T' := []) (by decide) (by decide))
              have hz44 : z_38 12 = (zL8 12) := hR44.2.1.1 12 (by decide)
              have hkz44_0 : z_38 0 = z 0 := hfr44.1 0 (by decide)
              refine W.eq (g2 := F0 m 77 ls []) rfl ?_
              try dsimp only at hq_32
              try simp (decide := true) only [va_ev, ↓reduceIte] at hq_32
              obtain ⟨hs45, hm45, hp45⟩ := hq_32
              rw [show zL8 12 = z 12 by omega] at hm45
              obtain ⟨rfl, rfl, rfl, rfl⟩ := hp45
              refine lv_iinc (v := iz (k + 1)) (lv' := [(3, .int (iz (k + 1))), (4, .int (iz (F 0 k))), (0, .ref (o 15)), (1, .int (iz p0)), (2, .int (iz 0))]) hx hb dX5_addRowsUnder_77 hl (k := 1) rfl (iz_add k 1) (by decide) rfl (fun ls hl => ?_)
              refine lv_goto (tgt := 8) hx hb dX5_addRowsUnder_80 (by decide) ?_
              exact ih8 (k + 1) r_36 n_37 z_38 F_39 ((cv + dn_24) + dn_34) ((sv + dm_25) + dm_35) ⟨⟨hok44, hfr44, hPE44, hef44⟩, ⟨by omega, by omega⟩, (show z_38 12 = z 12 by omega), by omega, hs45, rs_under_step hL hPs (by omega) (by omega) hQe hle9 hme (show ∀ x, rs_me F_29 0 z_28 x ↔ (x = F 0 k ∨ rs_me (FL8 1) 0 (zL8 1) x) from fun x => by rw [haz]; exact rs_me_snoc (by omega) haf hav) hm45⟩ (by omega) _ _ hP hD hS ls (lv_sub hl [0, 2, 3, 4] rfl)
    exact lp8 _ 0 r n z F 0 0 ⟨⟨hok, hfr, hPE, hef⟩, ⟨by omega, by omega⟩, (show z 12 = z 12 by omega), by omega, hRo, fun x => ⟨fun h9 => Or.inl h9, fun h9 => by rcases h9 with h9 | ⟨-, i, a, b, -⟩; exact h9; exact absurd b (by omega)⟩⟩ (Nat.lt_succ_self _) _ _ hP hD hS ls (lv_sub hl [0, 1, 2, 3] rfl)
  · omega
set_option maxHeartbeats 4000000 in
set_option maxRecDepth 100000 in
theorem y_findRows2 (l : Launch) (dC : Nat → ClassId) (dI : Nat → Nat → Nat) (cI cB cE : ClassId) (o r n : Nat → Nat) (z : Nat → Int) (F : Nat → Int → Int) (G : Nat → Option Nat) (N : Nat) (Eo Er En : Nat → Nat → Nat) (Ez : Nat → Nat → Int) (EF : Nat → Nat → Int → Int) (lv : Int → Int) (ab : Int → Int) (Wd : Int → Int → Prop) (cm : Int → Int → Int) (sz : Nat) (hok : xOk n z F) (hxG : xG N (z 12) G Eo) (hPE : eA N En Ez EF) (hRH : rs_H (z 12) Ez EF lv ab Wd cm) (h79 : z 12 ≤ 78) (hkn : rs_RK z F Ez lv ab Wd cm) : Met l yX5_findRows [.code yX5_findRows cX5_findRows 2 none] ({ frames := 6, cells := 600, slots := 300000, locals := 175 }) (va_Pc [.ref (o 15)] (kx_Pre dC dI (xU cI cB cE o r n z F G (Eo 0 0) ++ eP cI N Eo Er En Ez EF) (xT cI cB cE) sz)) (xQ (fun _ : (Nat → Nat) × (Nat → Nat) × (Nat → Int) × (Nat → Int → Int) × (Nat → Nat → Nat) × (Nat → Nat → Nat) × (Nat → Nat → Int) × (Nat → Nat → Int → Int) => none) (fun (u : (Nat → Nat) × (Nat → Nat) × (Nat → Int) × (Nat → Int → Int) × (Nat → Nat → Nat) × (Nat → Nat → Nat) × (Nat → Nat → Int) × (Nat → Nat → Int → Int)) (dn dm : Nat) => match u with | (r', n', z', F', Er', En', Ez', EF') => xR [0, 1, 15] [0, 1] [10] [] N z F En Ez EF n' z' F' En' Ez' EF' ∧ (dn + xg n' ≤ xg n + 0 ∧ dm + xp n' ≤ xp n + 0) ∧ (z' 15 = 1 ∧ rs_R z' F' Ez' lv ab Wd cm)) (fun u t => kx_At dC dI (va_A (xU cI cB cE o r n z F G (Eo 0 0) ++ eP cI N Eo Er En Ez EF) sz) ((fun u : (Nat → Nat) × (Nat → Nat) × (Nat → Int) × (Nat → Int → Int) × (Nat → Nat → Nat) × (Nat → Nat → Nat) × (Nat → Nat → Int) × (Nat → Nat → Int → Int) => match u with | (r', n', z', F', Er', En', Ez', EF') => (xU cI cB cE o r' n' z' F' G (Eo 0 0) ++ eP cI N Eo Er' En' Ez' EF')) u) (xT cI cB cE) t) (va_A (xU cI cB cE o r n z F G (Eo 0 0) ++ eP cI N Eo Er En Ez EF) sz)) 600 300000 (va_A (xU cI cB cE o r n z F G (Eo 0 0) ++ eP cI N Eo Er En Ez EF) sz) := by
  refine Met.ofW (cc := cX5_findRows) (maxL := 2) (ret := none) (by decide) rfl ?_
  intro p e s m args below meth c s₁ B hml hv
  obtain ⟨rfl, hsz, hP, hK, hD0, hG, hZ⟩ := hv
  have hx := B.exec
  have hb := B.bytes
  have hr := B.returns
  have hts := kx_hts (a := ([.ref (o 15)] : List Value).toArray) hG
  have hown : s.vm.findClass RX5 = some m.cls := findClass_of_methodNamed B.named
  have hlocks := B.notSynchronized
  subst hsz
  have hD := hD0.self (sz := s.heap.size)
  generalize hAe : va_A (xU cI cB cE o r n z F G (Eo 0 0) ++ eP cI N Eo Er En Ez EF) s.heap.size = A at hD hZ ⊢
  have hA : ∀ q : Nat, s.heap.size ≤ q → A q := fun q h => by rw [← hAe]; exact Or.inr h
  have hS : va_S A s.heap s.heap [] := va_S.rf
  have hl := lv_entry ([.ref (o 15)]) (n := 2) (Nat.le_of_ble_eq_true rfl)
  rw [lg_entry_eq]
  generalize (lg_sl ([.ref (o 15)]) ++ List.replicate (2 - (lg_sl ([.ref (o 15)])).length) Slot.unset).toArray = ls at hl ⊢
  obtain ⟨hN1, hN2, hN3, hN4⟩ := hxG
  have hef : eFr [10] [] En Ez EF En Ez EF := eFr.rf
  have hfr : xFr [0, 1, 15] [0, 1] z F z F := xFr.rf
  have hxgl := xg_le n
  have hxpl := xp_le n
  have hl : lv_has ls 2 [(0, .ref (o 15))] := hl
  generalize hQe : MQ below (xQ (fun _ : (Nat → Nat) × (Nat → Nat) × (Nat → Int) × (Nat → Int → Int) × (Nat → Nat → Nat) × (Nat → Nat → Nat) × (Nat → Nat → Int) × (Nat → Nat → Int → Int) => none) (fun (u : (Nat → Nat) × (Nat → Nat) × (Nat → Int) × (Nat → Int → Int) × (Nat → Nat → Nat) × (Nat → Nat → Nat) × (Nat → Nat → Int) × (Nat → Nat → Int → Int)) (dn dm : Nat) => match u with | (r', n', z', F', Er', En', Ez', EF') => xR [0, 1, 15] [0, 1] [10] [] N z F En Ez EF n' z' F' En' Ez' EF' ∧ (dn + xg n' ≤ xg n + 0 ∧ dm + xp n' ≤ xp n + 0) ∧ (z' 15 = 1 ∧ rs_R z' F' Ez' lv ab Wd cm)) (fun u t => kx_At dC dI A ((fun u : (Nat → Nat) × (Nat → Nat) × (Nat → Int) × (Nat → Int → Int) × (Nat → Nat → Nat) × (Nat → Nat → Nat) × (Nat → Nat → Int) × (Nat → Nat → Int → Int) => match u with | (r', n', z', F', Er', En', Ez', EF') => (xU cI cB cE o r' n' z' F' G (Eo 0 0) ++ eP cI N Eo Er' En' Ez' EF')) u) (xT cI cB cE) t) A) ([.ref (o 15)] : List Value).toArray s 600 300000 A = QQ
  refine lv_aload_n hx hb dX5_findRows_0 rfl (lv_at hl 0 rfl) ?_
  have hxz_1 : -2147483648 ≤ z 15 ∧ z 15 < 2147483648 := hok.2.2.2.1 15
  have hxb_2 : z 15 = 0 ∨ z 15 = 1 := hok.2.2.2.2 15 (by decide)
  refine va_get (D := (dC, dI)) (ci := 5) (v := .int (iz (z 15))) (C := RX5) (T := TX5) (N := 16) hx hb hts kt_X5 hown hK hP 0 rfl rfl 7 (by decide) (kx_word hG kq_18_xrows_25 rfl) (fun _ h9 => h9) rfl dX5_findRows_1 ?_
  refine ki_if_eq (tgt := 8) hx hb dX5_findRows_4 (by decide) (by omega) (by omega) (fun c_3 => ?_) (fun c_3 => ?_)
  · skip
    refine lv_iconst (v := iz 0) hx hb dX5_findRows_8 (by decide) ?_
    refine lv_istore_n (lv' := [(1, .int (iz 0)), (0, .ref (o 15))]) hx hb dX5_findRows_9 rfl hl (by decide) rfl (fun ls hl => ?_)
    have lp10 : ∀ (n0 : Nat) (k : Int) (rL10 : Nat → Nat) (nL10 : Nat → Nat) (zL10 : Nat → Int) (FL10 : Nat → Int → Int) (ErL10 : Nat → Nat → Nat) (EnL10 : Nat → Nat → Nat) (EzL10 : Nat → Nat → Int) (EFL10 : Nat → Nat → Int → Int) (cv : Nat) (sv : Nat), ((xR [0, 1, 15] [0, 1] [10] [] N z F En Ez EF nL10 zL10 FL10 EnL10 EzL10 EFL10) ∧ (cv + xg nL10 ≤ xg n + (0) ∧ sv + xp nL10 ≤ xp n + (0)) ∧ (zL10 12 = z 12) ∧ (0 ≤ k ∧ k ≤ 79 ∧ k ≤ z 12) ∧ (rs_C lv ab Wd k (rs_sE EzL10))) → (z 12 - k).toNat < n0 → ∀ (H : Heap) (locs : List Loc), va_P (dC, dI) kxCl ((xU cI cB cE o rL10 nL10 zL10 FL10 G (Eo 0 0)) ++ (eP cI N Eo ErL10 EnL10 EzL10 EFL10)) H → va_D A ((xU cI cB cE o rL10 nL10 zL10 FL10 G (Eo 0 0)) ++ (eP cI N Eo ErL10 EnL10 EzL10 EFL10)) → va_S A s.heap H locs → ∀ ls : Array Slot, lv_has ls 2 [(1, .int (iz k)), (0, .ref (o 15))] → W p l e (headSpec [.code yX5_findRows cX5_findRows 2 none] ({ frames := 6, cells := 600, slots := 300000, locals := 175 })).room s m ([.ref (o 15)] : List Value).toArray below meth c H locs cv sv QQ (F0 m 10 ls []) := by
      intro n0
      induction n0 with
      | zero => intro k rL10 nL10 zL10 FL10 ErL10 EnL10 EzL10 EFL10 cv sv hinv hm0; exact absurd hm0 (Nat.not_lt_zero _)
      | succ n0 ih10 =>
        intro k rL10 nL10 zL10 FL10 ErL10 EnL10 EzL10 EFL10 cv sv hinv hm0 H locs hP hD hS ls hl
        obtain ⟨hRLL10, hCLL10, hZLL10, hk, hC⟩ := hinv
        refine lv_iload_n hx hb dX5_findRows_10 rfl (lv_at hl 0 rfl) ?_
        refine lv_aload_n hx hb dX5_findRows_11 rfl (lv_at hl 1 rfl) ?_
        have hxz_4 : -2147483648 ≤ zL10 12 ∧ zL10 12 < 2147483648 := hRLL10.1.2.2.2.1 12
        refine va_get (D := (dC, dI)) (ci := 5) (v := .int (iz (zL10 12))) (C := RX5) (T := TX5) (N := 16) hx hb hts kt_X5 hown hK hP 0 rfl rfl 2 (by decide) (kx_word hG kq_18_xrows_0 rfl) (fun _ h9 => h9) rfl dX5_findRows_12 ?_
        refine ki_icmp_ge (tgt := 37) hx hb dX5_findRows_15 (by decide) (by omega) (by omega) (by omega) (by omega) (fun c_5 => ?_) (fun c_5 => ?_)
        · skip
          refine lv_aload_n hx hb dX5_findRows_37 rfl (lv_at hl 1 rfl) ?_
          have hxG9 : xG N (zL10 12) G Eo := ⟨by omega, by omega, by omega, fun e9 h9 => hN4 e9 (by omega)⟩
          have hP : va_P (dC, dI) kxCl (xU cI cB cE o rL10 nL10 zL10 FL10 G (Eo 0 0) ++ eP cI N Eo ErL10 EnL10 EzL10 EFL10) H := hP
          have hD : va_D A (xU cI cB cE o rL10 nL10 zL10 FL10 G (Eo 0 0) ++ eP cI N Eo ErL10 EnL10 EzL10 EFL10) := hD
          have hFc := xw_free hD hS hA
          refine xk_call (va_runV (As := []) (rest := []) ⟨hx, hb, hml, hown, hts⟩ (y_sortFirsts2 l dC dI cI cB cE o rL10 nL10 zL10 FL10 G N Eo ErL10 EnL10 EzL10 EFL10 lv ab Wd cm H.size hRLL10.1 hxG9 hRLL10.2.2.1 (by show rs_H (zL10 12) EzL10 EFL10 lv ab Wd cm; rw [show zL10 12 = z 12 by omega]; exact hRH.fr hRLL10.2.2.2 (by decide) (by decide)) (show zL10 12 ≤ 78 by omega)) (cwV 0 hts (kx_gV kq_18_xrows_52 kq_18_xrows_53 kq_18_xrows_54 kq_18_xrows_4 kq_18_xrows_55 rfl) rfl rfl rfl (by decide +kernel) ⟨Nat.le_of_ble_eq_true rfl, Nat.le_of_ble_eq_true rfl⟩) ⟨kx_blind, va_recv hK hP (ci := 5) (q0 := 0) rfl rfl, kx_give (ws := []) (tys := []) hP hD hK hG hZ hS hFc⟩ rfl rfl hl.1 rfl (lv_room (Nat.le_of_ble_eq_true rfl)) dX5_findRows_38 ⟨show cv + 100 ≤ 600 from (by omega), show sv + 45000 ≤ 300000 from (by omega)⟩) hS (fun q _ h => hFc q h) hFc (fun u dn_8 dm_9 t H locs ht hvm hq_6 hB hk1 hS => ?_)
          obtain ⟨r_10, n_11, z_12, F_13, Er_14, En_15, Ez_16, EF_17⟩ := u
          obtain ⟨hP, hK1, hD1⟩ := hB
          rw [ht] at hP
          have hD := hD1.weaken (fun _ q _ h => hFc _ h)
          obtain ⟨hR18, hC18, hq_6⟩ := hq_6
          have hok18 := hR18.1
          have hfr18 := hRLL10.2.1.tr (hR18.2.1.mono (S' := [0, 1, 15]) (T' := [0, 1]) (by decide) (by decide))
          have hPE18 := hR18.2.2.1
          have hef18 := hRLL10.2.2.2.tr (hR18.2.2.2.mono (S' := [10]) (T' := []) (by decide) (by decide))
          have hz18 : z_12 12 = (zL10 12) := hR18.2.1.1 12 (by decide)
          refine W.eq (g2 := F0 m 41 ls []) rfl ?_
          try dsimp only at hq_6
          obtain ⟨hSo9, hSm9, hpp9⟩ := hq_6
          obtain ⟨rfl, rfl, rfl, rfl⟩ := hpp9
          refine lv_aload_n hx hb dX5_findRows_41 rfl (lv_at hl 1 rfl) ?_
          refine va_get (D := (dC, dI)) (ci := 5) (v := .ref (o 1)) (C := RX5) (T := TX5) (N := 16) hx hb hts kt_X5 hown hK hP 0 rfl rfl 6 (by decide) (kx_word hG kq_18_xrows_47 rfl) (fun _ h9 => h9) rfl dX5_findRows_42 ?_
          have hxi_19 : 0 ≤ z_12 1 ∧ z_12 1 ≤ ((n_11 1 : Nat) : Int) ∧ ((n_11 1 : Nat) : Int) ≤ 80 := hok18.1 1 (by decide)
          have hPc := hP.sub (ws' := (iU cI 80 (o 1) (r_10 1) (n_11 1) (z_12 1) (F_13 1))) [4, 5] rfl
          have hDc := hD.sub (ws' := (iU cI 80 (o 1) (r_10 1) (n_11 1) (z_12 1) (F_13 1))) [4, 5] (by decide) rfl
          have hFc := va_free (wc := (iU cI 80 (o 1) (r_10 1) (n_11 1) (z_12 1) (F_13 1))) hD hS hA [4, 5] rfl
          refine xk_call (va_runV (As := []) (rest := []) ⟨hx, hb, hml, hown, hts⟩ (x_clear l dC dI cI cB cE 80 (o 1) (r_10 1) (n_11 1) (z_12 1) (F_13 1)  H.size ) (cwV 0 hts (kx_gV kq_18_xrows_38 kq_15_xspan_42 kq_15_xspan_43 kq_13_xints_6 kq_15_xspan_44 rfl) rfl rfl rfl (by decide +kernel) ⟨Nat.le_of_ble_eq_true rfl, Nat.le_of_ble_eq_true rfl⟩) ⟨kx_blind, va_recv hK hPc (ci := 1) (q0 := 0) rfl rfl, kx_give (ws := []) (tys := []) hPc hDc hK hG hZ hS hFc⟩ rfl rfl hl.1 rfl (lv_room (Nat.le_of_ble_eq_true rfl)) dX5_findRows_45 ⟨show (cv + dn_8) + 0 ≤ 600 from (by omega), show (sv + dm_9) + 0 ≤ 300000 from (by omega)⟩) hS (fun q _ h => hFc q h) hFc (fun u dn_21 dm_22 t H locs ht hvm hq_20 hB hk1 hS => ?_)
          obtain ⟨z_23, rfl⟩ : ∃ z, z = u := ⟨_, rfl⟩
          obtain ⟨hP1, hK1, hD1⟩ := hB
          rw [ht] at hP1
          obtain ⟨hP, hD⟩ := xj_pool (wr := [(o 15, .inr (5, [.ref (o 16), .ref (Eo 0 0), .int (iz (z_12 12)), .int (iz (z_12 13)), .int (iz (z_12 14)), .ref (o 0), .ref (o 1), .int (iz (z_12 15)), .ref (o 13), .ref (o 14), .int (iz (z_12 16)), .ref (o 2), .ref (o 12), .ref (o 3), .ref (o 10), .ref (o 11)])), (o 16, .inl (cE, 80, .inr (.inr (.inr (.inr G))))), (o 0, .inr (1, [.int (iz 80), .ref (r_10 0), .int (iz (z_12 0))])), (r_10 0, .inl (cI, n_11 0, .inl (iA (F_13 0)))), (o 2, .inr (1, [.int (iz 80), .ref (r_10 2), .int (iz (z_12 2))])), (r_10 2, .inl (cI, n_11 2, .inl (iA (F_13 2)))), (o 3, .inr (1, [.int (iz 80), .ref (r_10 3), .int (iz (z_12 3))])), (r_10 3, .inl (cI, n_11 3, .inl (iA (F_13 3)))), (o 13, .inr (3, [.ref (o 4), .ref (o 5), .ref (o 6)])), (o 4, .inr (1, [.int (iz 1600), .ref (r_10 4), .int (iz (z_12 4))])), (r_10 4, .inl (cI, n_11 4, .inl (iA (F_13 4)))), (o 5, .inr (1, [.int (iz 1600), .ref (r_10 5), .int (iz (z_12 5))])), (r_10 5, .inl (cI, n_11 5, .inl (iA (F_13 5)))), (o 6, .inr (1, [.int (iz 1600), .ref (r_10 6), .int (iz (z_12 6))])), (r_10 6, .inl (cI, n_11 6, .inl (iA (F_13 6)))), (o 14, .inr (3, [.ref (o 7), .ref (o 8), .ref (o 9)])), (o 7, .inr (1, [.int (iz 1600), .ref (r_10 7), .int (iz (z_12 7))])), (r_10 7, .inl (cI, n_11 7, .inl (iA (F_13 7)))), (o 8, .inr (1, [.int (iz 1600), .ref (r_10 8), .int (iz (z_12 8))])), (r_10 8, .inl (cI, n_11 8, .inl (iA (F_13 8)))), (o 9, .inr (1, [.int (iz 1600), .ref (r_10 9), .int (iz (z_12 9))])), (r_10 9, .inl (cI, n_11 9, .inl (iA (F_13 9)))), (o 12, .inr (4, [.int (iz (z_12 17)), .int (iz (z_12 18)), .int (iz (z_12 19)), .int (iz (z_12 20)), .int (iz (z_12 21))])), (o 10, .inr (2, [.ref (r_10 10), .int (iz (z_12 10)), .int (iz (z_12 22))])), (r_10 10, .inl (cB, n_11 10, .inl (iA (F_13 10)))), (o 11, .inr (2, [.ref (r_10 11), .int (iz (z_12 11)), .int (iz (z_12 23))])), (r_10 11, .inl (cB, n_11 11, .inl (iA (F_13 11))))]) (w1 := (iU cI 80 (o 1) (r_10 1) (n_11 1) z_23 (F_13 1))) (ws' := (xU cI cB cE o r_10 n_11 (va_up z_12 1 z_23) F_13 G (Eo 0 0))) hP hD [4, 5] [0, 1, 2, 3, 6, 7, 8, 9, 10, 11, 12, 13, 14, 15, 16, 17, 18, 19, 20, 21, 22, 23, 24, 25, 26, 27, 28] [0, 1, 2, 3, 27, 28, 4, 5, 6, 7, 8, 9, 10, 11, 12, 13, 14, 15, 16, 17, 18, 19, 20, 21, 22, 23, 24, 25, 26] rfl rfl (by decide) (by decide) hk1 hFc hP1 hD1 rfl (by decide)
          refine W.eq (g2 := F0 m 48 ls []) rfl ?_
          try dsimp only at hq_20
          obtain ⟨hd24, hm24, hz24⟩ := hq_20
          subst hd24
          subst hm24
          refine lv_aload_n hx hb dX5_findRows_48 rfl (lv_at hl 1 rfl) ?_
          refine lv_iconst (v := iz (-1)) hx hb dX5_findRows_49 (by decide) ?_
          refine lv_iconst (v := iz 0) hx hb dX5_findRows_50 (by decide) ?_
          have hok25 : xOk (va_up n_11 1 (n_11 1)) (va_up z_12 1 z_23) (va_up F_13 1 (F_13 1)) := (hok18.i 1 (by decide) (show 0 ≤ z_23 ∧ z_23 ≤ ((n_11 1 : Nat) : Int) ∧ ((n_11 1 : Nat) : Int) ≤ 80 by omega) (hok18.2.2.1 1))
          have hfr25 : xFr [0, 1, 15] [0, 1] z F (va_up z_12 1 z_23) (va_up F_13 1 (F_13 1)) := ((hfr18.uz 1 (by decide) _).uf 1 (by decide) _)
          have hcg25 : (0) + xg (va_up n_11 1 (n_11 1)) ≤ xg n_11 := by unfold xg; simp (decide := true) only [va_ev, ↓reduceIte]; omega
          have hcp25 : (0) + xp (va_up n_11 1 (n_11 1)) ≤ xp n_11 := by unfold xp; simp (decide := true) only [va_ev, ↓reduceIte]; omega
          have hxz_26 : -2147483648 ≤ z_12 12 ∧ z_12 12 < 2147483648 := hok18.2.2.2.1 12
          have hxG9 : xG N (z_12 12) G Eo := ⟨by omega, by omega, by omega, fun e9 h9 => hN4 e9 (by omega)⟩
          have hP : va_P (dC, dI) kxCl (xU cI cB cE o r_10 (va_up n_11 1 (n_11 1)) (va_up z_12 1 z_23) (va_up F_13 1 (F_13 1)) G (Eo 0 0) ++ eP cI N Eo ErL10 EnL10 EzL10 EFL10) H := hP
          have hD : va_D A (xU cI cB cE o r_10 (va_up n_11 1 (n_11 1)) (va_up z_12 1 z_23) (va_up F_13 1 (F_13 1)) G (Eo 0 0) ++ eP cI N Eo ErL10 EnL10 EzL10 EFL10) := hD
          have hFc := xw_free hD hS hA
          refine xk_call (va_runV (As := [.int (iz (-1)), .int (iz 0)]) (rest := []) ⟨hx, hb, hml, hown, hts⟩ (y_addRows2_0 l dC dI cI cB cE o r_10 (va_up n_11 1 (n_11 1)) (va_up z_12 1 z_23) (va_up F_13 1 (F_13 1)) G N Eo ErL10 EnL10 EzL10 EFL10 (-1) lv ab Wd cm H.size hok25 hxG9 hPE18 (by omega) (by omega) (by show rs_H (z_12 12) EzL10 EFL10 lv ab Wd cm; rw [show z_12 12 = z 12 by omega]; exact hRH.fr hef18 (by decide) (by decide)) (by show rs_C lv ab Wd (z_12 12) (rs_sE EzL10); rw [show z_12 12 = k by omega]; exact hC) (show z_12 12 ≤ 78 by omega) hSo9 (fun x => (hSm9 x).trans ⟨fun h9 => ⟨h9.1, by show x < z_12 12; have h8 := h9.2.1; omega, h9.2.2⟩, fun h9 => ⟨h9.1, by have h8 : x < z_12 12 := h9.2.1; omega, h9.2.2⟩⟩) (fun i j a b c => absurd (show j < z_23 from c) (by omega)) (fun j a b => absurd (show j < z_23 from b) (by omega)) (fun y hy => by obtain ⟨j, a, b, -⟩ := hy; exact absurd (show j < z_23 from b) (by omega)) rfl) (cwV 2 hts (kx_gV kq_18_xrows_48 kq_18_xrows_49 kq_18_xrows_50 kq_18_xrows_4 kq_18_xrows_51 rfl) rfl rfl rfl (by decide +kernel) ⟨Nat.le_of_ble_eq_true rfl, Nat.le_of_ble_eq_true rfl⟩) ⟨kx_blind, va_recv hK hP (ci := 5) (q0 := 0) rfl rfl, kx_give (ws := []) (tys := []) hP hD hK hG hZ hS hFc⟩ rfl rfl hl.1 rfl (lv_room (Nat.le_of_ble_eq_true rfl)) dX5_findRows_51 ⟨show ((cv + dn_8) + 0) + 400 ≤ 600 from (by omega), show ((sv + dm_9) + 0) + 180000 ≤ 300000 from (by omega)⟩) hS (fun q _ h => hFc q h) hFc (fun u dn_29 dm_30 t H locs ht hvm hq_27 hB hk1 hS => ?_)
          obtain ⟨r_31, n_32, z_33, F_34, Er_35, En_36, Ez_37, EF_38⟩ := u
          obtain ⟨hP, hK1, hD1⟩ := hB
          rw [ht] at hP
          have hD := hD1.weaken (fun _ q _ h => hFc _ h)
          obtain ⟨hR39, hC39, hq_27⟩ := hq_27
          have hok39 := hR39.1
          have hfr39 := hfr25.tr (hR39.2.1.mono (S' := [0, 1, 15]) (T' := [0, 1]) (by decide) (by decide))
          have hPE39 := hR39.2.2.1
          have hef39 := hef18.tr (hR39.2.2.2.mono (S' := [10]) (T' := []) (by decide) (by decide))
          have hz39 : z_33 12 = (z_12 12) := hR39.2.1.1 12 (by decide)
          refine W.eq (g2 := F0 m 54 ls []) rfl ?_
          try dsimp only at hq_27
          try simp (decide := true) only [va_ev, ↓reduceIte] at hq_27
          obtain ⟨hRo9, hRm9, hpp8⟩ := hq_27
          obtain ⟨rfl, rfl, rfl, rfl⟩ := hpp8
          refine lv_aload_n hx hb dX5_findRows_54 rfl (lv_at hl 1 rfl) ?_
          refine lv_iconst (v := iz 1) hx hb dX5_findRows_55 (by decide) ?_
          refine va_put (D := (dC, dI)) (ci := 5) (v := .int (iz 1)) (ty := .boolean) (C := RX5) (T := TX5) (N := 16) hx hb hts kt_X5 tyX5 tyX5_ok nmX5 hown hK hP hD hS 0 rfl rfl 7 (by decide) (kx_word hG kq_18_xrows_25 rfl) (fun _ h9 => h9) rfl (by decide +kernel) (mz_bool (Or.inr rfl)).1 (mz_bool (Or.inr rfl)).2 (Nat.le_of_ble_eq_true rfl) dX5_findRows_56 (fun H locs hP hD hS => ?_)
          have hP : va_P (dC, dI) kxCl ((xU cI cB cE o r_31 n_32 (va_up z_33 15 1) F_34 G (Eo 0 0)) ++ (eP cI N Eo ErL10 EnL10 EzL10 EFL10)) H := hP
          have hD : va_D A ((xU cI cB cE o r_31 n_32 (va_up z_33 15 1) F_34 G (Eo 0 0)) ++ (eP cI N Eo ErL10 EnL10 EzL10 EFL10)) := hD
          have hxz_40 : -2147483648 ≤ z_33 15 ∧ z_33 15 < 2147483648 := hok39.2.2.2.1 15
          have hxb_41 : z_33 15 = 0 ∨ z_33 15 = 1 := hok39.2.2.2.2 15 (by decide)
          have hok42 : xOk n_32 (va_up z_33 15 1) F_34 := (hok39.s 15 (by decide) (show -2147483648 ≤ 1 ∧ 1 < 2147483648 by omega) (by omega))
          have hfr42 : xFr [0, 1, 15] [0, 1] z F (va_up z_33 15 1) F_34 := (hfr39.uz 15 (by decide) _)
          rw [← hQe]
          exact xk_vret (ov := (fun _ : (Nat → Nat) × (Nat → Nat) × (Nat → Int) × (Nat → Int → Int) × (Nat → Nat → Nat) × (Nat → Nat → Nat) × (Nat → Nat → Int) × (Nat → Nat → Int → Int) => none)) (post := (fun (u : (Nat → Nat) × (Nat → Nat) × (Nat → Int) × (Nat → Int → Int) × (Nat → Nat → Nat) × (Nat → Nat → Nat) × (Nat → Nat → Int) × (Nat → Nat → Int → Int)) (dn dm : Nat) => match u with | (r', n', z', F', Er', En', Ez', EF') => xR [0, 1, 15] [0, 1] [10] [] N z F En Ez EF n' z' F' En' Ez' EF' ∧ (dn + xg n' ≤ xg n + 0 ∧ dm + xp n' ≤ xp n + 0) ∧ (z' 15 = 1 ∧ rs_R z' F' Ez' lv ab Wd cm))) (ws := (fun u : (Nat → Nat) × (Nat → Nat) × (Nat → Int) × (Nat → Int → Int) × (Nat → Nat → Nat) × (Nat → Nat → Nat) × (Nat → Nat → Int) × (Nat → Nat → Int → Int) => match u with | (r', n', z', F', Er', En', Ez', EF') => (xU cI cB cE o r' n' z' F' G (Eo 0 0) ++ eP cI N Eo Er' En' Ez' EF'))) (tys := xT cI cB cE) (r_31, n_32, (va_up z_33 15 1), F_34, ErL10, EnL10, EzL10, EFL10) hx hb hr hlocks rfl hP hD hK hS dX5_findRows_59 (fun dn dm hdn hdm => ⟨⟨hok42, hfr42, hPE39, hef39⟩, ⟨by omega, by omega⟩, ⟨rfl, (by show rs_C lv ab Wd (z_33 12) (rs_sE EzL10) ∧ rs_so (rs_bf lv ab (rs_sE EzL10) cm) (F_34 1) 0 (z_33 1) ∧ ∀ x, rs_me (F_34 1) 0 (z_33 1) x ↔ (0 ≤ x ∧ x < z_33 12 ∧ rs_sE EzL10 x = x); exact ⟨by rw [show z_33 12 = k by omega]; exact hC, hRo9, fun x => (hRm9 x).trans ⟨fun h9 => by rcases h9 with ⟨j, a, b, -⟩ | h9; exact absurd b (by omega); exact ⟨h9.1.1, by have h8 := h9.1.2.1; omega, h9.1.2.2⟩, fun h9 => Or.inr ⟨⟨h9.1, by have h8 := h9.2.1; omega, h9.2.2⟩, (hRH.1.1 x h9.1 (by have h8 := h9.2.1; omega)).1.1, Or.inl rfl⟩⟩⟩)⟩⟩) (by omega) (by omega)
        · skip
          refine lv_aload_n hx hb dX5_findRows_18 rfl (lv_at hl 1 rfl) ?_
          refine lv_iload_n hx hb dX5_findRows_19 rfl (lv_at hl 0 rfl) ?_
          have hxG9 : xG N (zL10 12) G Eo := ⟨by omega, by omega, by omega, fun e9 h9 => hN4 e9 (by omega)⟩
          have hP : va_P (dC, dI) kxCl (xU cI cB cE o rL10 nL10 zL10 FL10 G (Eo 0 0) ++ eP cI N Eo ErL10 EnL10 EzL10 EFL10) H := hP
          refine xk_pure (va_runV (As := [.int (iz k)]) (rest := []) ⟨hx, hb, hml, hown, hts⟩ (y_known l dC dI cI cB cE o rL10 nL10 zL10 FL10 G N Eo ErL10 EnL10 EzL10 EFL10 k H.size hRLL10.1 hxG9 hRLL10.2.2.1 (by omega) (by omega)) (cwV 1 hts (kx_gV kq_18_xrows_8 kq_18_xrows_9 kq_18_xrows_10 kq_18_xrows_4 kq_18_xrows_11 rfl) rfl rfl rfl (by decide +kernel) ⟨Nat.le_of_ble_eq_true rfl, Nat.le_of_ble_eq_true rfl⟩) ⟨pPre_blind, va_recv hK hP (ci := 5) (q0 := 0) rfl rfl, pPre_give hP hK hG⟩ rfl rfl hl.1 rfl (lv_room (Nat.le_of_ble_eq_true rfl)) dX5_findRows_20 ⟨show cv + 0 ≤ 600 from (by omega), show sv + 0 ≤ 300000 from (by omega)⟩) hS (fun z_44 locs hq_43 hS => ?_)
          refine W.eq (g2 := F0 m 23 ls [.ref z_44.toNat]) rfl ?_
          try dsimp only at hq_43
          obtain ⟨j45, hj45, ez45, hje45⟩ := hq_43
          subst ez45
          refine W.eq (g2 := F0 m 23 ls [.ref (Eo j45 0)]) rfl ?_
          have ej45 : j45 = (k + 1).toNat := by omega
          subst ej45
          refine lv_aload_n hx hb dX5_findRows_23 rfl (lv_at hl 1 rfl) ?_
          refine lv_iload_n hx hb dX5_findRows_24 rfl (lv_at hl 0 rfl) ?_
          have hxG9 : xG N (zL10 12) G Eo := ⟨by omega, by omega, by omega, fun e9 h9 => hN4 e9 (by omega)⟩
          have hP : va_P (dC, dI) kxCl (xU cI cB cE o rL10 nL10 zL10 FL10 G (Eo 0 0) ++ eP cI N Eo ErL10 EnL10 EzL10 EFL10) H := hP
          refine xk_pure (va_runV (As := [.int (iz k)]) (rest := [.ref (Eo ((k + 1).toNat) 0)]) ⟨hx, hb, hml, hown, hts⟩ (y_firstSame2 l dC dI cI cB cE o rL10 nL10 zL10 FL10 G N Eo ErL10 EnL10 EzL10 EFL10 k lv ab Wd cm H.size hRLL10.1 hxG9 hRLL10.2.2.1 (by omega) (by show rs_H (zL10 12) EzL10 EFL10 lv ab Wd cm; rw [show zL10 12 = z 12 by omega]; exact hRH.fr hRLL10.2.2.2 (by decide) (by decide))) (cwV 1 hts (kx_gV kq_18_xrows_56 kq_18_xrows_57 kq_18_xrows_58 kq_18_xrows_4 kq_18_xrows_59 rfl) rfl rfl rfl (by decide +kernel) ⟨Nat.le_of_ble_eq_true rfl, Nat.le_of_ble_eq_true rfl⟩) ⟨pPre_blind, va_recv hK hP (ci := 5) (q0 := 0) rfl rfl, pPre_give hP hK hG⟩ rfl rfl hl.1 rfl (lv_room (Nat.le_of_ble_eq_true rfl)) dX5_findRows_25 ⟨show cv + 0 ≤ 600 from (by omega), show sv + 0 ≤ 300000 from (by omega)⟩) hS (fun z_47 locs hq_46 hS => ?_)
          refine W.eq (g2 := F0 m 28 ls [.int (iz z_47), .ref (Eo ((k + 1).toNat) 0)]) rfl ?_
          try dsimp only at hq_46
          obtain ⟨hf1, hf2, hf3⟩ := hq_46
          have hP := eP_foc hj45 hP
          have hD := eD_foc hj45 hD
          refine va_putN (D := (dC, dI)) (ci := 0) (v := .int (iz z_47)) (ty := .int) (C := RX0) (T := TX0) (N := 12) hx hb hts kt_X0 tyX0 tyX0_ok nmX0 hown hK hP hD hS 29 rfl rfl 8 (by decide) (va_Nw.use rfl (kx_nf hG kq_18_xrows_13)) (fun _ h9 => h9) rfl (by decide +kernel) rfl rfl (Nat.le_of_ble_eq_true rfl) dX5_findRows_28 (fun H locs hP hD hS => ?_)
          have hP : va_P (dC, dI) kxCl (((xU cI cB cE o rL10 nL10 zL10 FL10 G (Eo 0 0)) ++ (eU cI (Eo ((k + 1).toNat)) (ErL10 ((k + 1).toNat)) (EnL10 ((k + 1).toNat)) (va_up (EzL10 ((k + 1).toNat)) 10 z_47) (EFL10 ((k + 1).toNat)))) ++ (eR cI N ((k + 1).toNat) Eo ErL10 EnL10 EzL10 EFL10)) H := hP
          have hD : va_D A (((xU cI cB cE o rL10 nL10 zL10 FL10 G (Eo 0 0)) ++ (eU cI (Eo ((k + 1).toNat)) (ErL10 ((k + 1).toNat)) (EnL10 ((k + 1).toNat)) (va_up (EzL10 ((k + 1).toNat)) 10 z_47) (EFL10 ((k + 1).toNat)))) ++ (eR cI N ((k + 1).toNat) Eo ErL10 EnL10 EzL10 EFL10)) := hD
          refine lv_iinc (v := iz (k + 1)) (lv' := [(1, .int (iz (k + 1))), (0, .ref (o 15))]) hx hb dX5_findRows_31 hl (k := 0) rfl (iz_add k 1) (by decide) rfl (fun ls hl => ?_)
          refine lv_goto (tgt := 10) hx hb dX5_findRows_34 (by decide) ?_
          have hez_48 : -2147483648 ≤ EzL10 ((k + 1).toNat) 10 ∧ EzL10 ((k + 1).toNat) 10 < 2147483648 := (hRLL10.2.2.1 ((k + 1).toNat) hj45).2.2 10
          have hP : va_P (dC, dI) kxCl (((xU cI cB cE o rL10 nL10 zL10 FL10 G (Eo 0 0)) ++ (eU cI (Eo ((k + 1).toNat)) (ErL10 ((k + 1).toNat)) (EnL10 ((k + 1).toNat)) (va_up (EzL10 ((k + 1).toNat)) 10 z_47) (EFL10 ((k + 1).toNat)))) ++ (eR cI N ((k + 1).toNat) Eo ErL10 EnL10 EzL10 EFL10)) H := hP
          have hD : va_D A (((xU cI cB cE o rL10 nL10 zL10 FL10 G (Eo 0 0)) ++ (eU cI (Eo ((k + 1).toNat)) (ErL10 ((k + 1).toNat)) (EnL10 ((k + 1).toNat)) (va_up (EzL10 ((k + 1).toNat)) 10 z_47) (EFL10 ((k + 1).toNat)))) ++ (eR cI N ((k + 1).toNat) Eo ErL10 EnL10 EzL10 EFL10)) := hD
          have hP := eP_unf hj45 hP
          have hD := eD_unf hj45 hD
          have hPE49 := hRLL10.2.2.1.up ((k + 1).toNat) ((hRLL10.2.2.1 ((k + 1).toNat) hj45).sc 10 (by decide) (show -2147483648 ≤ z_47 by omega) (show z_47 < 2147483648 by omega))
          have hef49 := hRLL10.2.2.2.up ((k + 1).toNat) (z := (va_up (EzL10 ((k + 1).toNat)) 10 z_47)) (n := (EnL10 ((k + 1).toNat))) (F := (EFL10 ((k + 1).toNat))) (fun k hk => (vfr hk _ (by decide) rfl)) (fun k hk => ⟨rfl, rfl⟩)
          generalize eEr49 : va_up ErL10 ((k + 1).toNat) (ErL10 ((k + 1).toNat)) = Er49 at hP hD
          generalize eEn49 : va_up EnL10 ((k + 1).toNat) (EnL10 ((k + 1).toNat)) = En49 at hP hD hPE49 hef49
          generalize eEz49 : va_up EzL10 ((k + 1).toNat) (va_up (EzL10 ((k + 1).toNat)) 10 z_47) = Ez49 at hP hD hPE49 hef49
          generalize eEF49 : va_up EFL10 ((k + 1).toNat) (EFL10 ((k + 1).toNat)) = EF49 at hP hD hPE49 hef49
          have hcl49_10 : Ez49 ((k + 1).toNat) 10 = z_47 := by rw [← eEz49]; simp (decide := true) only [va_ev, ↓reduceIte]
          exact ih10 (k + 1) rL10 nL10 zL10 FL10 Er49 En49 Ez49 EF49 cv sv ⟨⟨hRLL10.1, hRLL10.2.1, hPE49, hef49⟩, ⟨by omega, by omega⟩, (show zL10 12 = z 12 by omega), by omega, rs_C_add hRH.1.1 hC (by omega) (fun j a b => by show Ez49 ((j + 1).toNat) 10 = EzL10 ((j + 1).toNat) 10; rw [← eEz49, va_up_ne _ _ (show (j + 1).toNat ≠ (k + 1).toNat by omega)]) (by show 0 ≤ Ez49 ((k + 1).toNat) 10 ∧ Ez49 ((k + 1).toNat) 10 ≤ k; rw [hcl49_10]; exact hf1) (by show Ez49 ((k + 1).toNat) 10 = k ∨ rs_al lv ab Wd (rs_sE EzL10) k (Ez49 ((k + 1).toNat) 10); rw [hcl49_10]; exact hf2) (by show ∀ k9, 0 ≤ k9 → k9 < Ez49 ((k + 1).toNat) 10 → ¬ rs_al lv ab Wd (rs_sE EzL10) k k9; rw [hcl49_10]; exact hf3)⟩ (by omega) _ _ hP hD hS ls (lv_sub hl [0, 1] rfl)
    exact lp10 _ 0 r n z F Er En Ez EF 0 0 ⟨⟨hok, hfr, hPE, hef⟩, ⟨by omega, by omega⟩, (show z 12 = z 12 by omega), by omega, fun e a b => absurd b (by omega)⟩ (Nat.lt_succ_self _) _ _ hP hD hS ls (lv_sub hl [0, 1] rfl)
  · skip
    rw [← hQe]
    exact xk_vret (ov := (fun _ : (Nat → Nat) × (Nat → Nat) × (Nat → Int) × (Nat → Int → Int) × (Nat → Nat → Nat) × (Nat → Nat → Nat) × (Nat → Nat → Int) × (Nat → Nat → Int → Int) => none)) (post := (fun (u : (Nat → Nat) × (Nat → Nat) × (Nat → Int) × (Nat → Int → Int) × (Nat → Nat → Nat) × (Nat → Nat → Nat) × (Nat → Nat → Int) × (Nat → Nat → Int → Int)) (dn dm : Nat) => match u with | (r', n', z', F', Er', En', Ez', EF') => xR [0, 1, 15] [0, 1] [10] [] N z F En Ez EF n' z' F' En' Ez' EF' ∧ (dn + xg n' ≤ xg n + 0 ∧ dm + xp n' ≤ xp n + 0) ∧ (z' 15 = 1 ∧ rs_R z' F' Ez' lv ab Wd cm))) (ws := (fun u : (Nat → Nat) × (Nat → Nat) × (Nat → Int) × (Nat → Int → Int) × (Nat → Nat → Nat) × (Nat → Nat → Nat) × (Nat → Nat → Int) × (Nat → Nat → Int → Int) => match u with | (r', n', z', F', Er', En', Ez', EF') => (xU cI cB cE o r' n' z' F' G (Eo 0 0) ++ eP cI N Eo Er' En' Ez' EF'))) (tys := xT cI cB cE) (r, n, z, F, Er, En, Ez, EF) hx hb hr hlocks rfl hP hD hK hS dX5_findRows_7 (fun dn dm hdn hdm => ⟨⟨hok, hfr, hPE, hef⟩, ⟨by omega, by omega⟩, ⟨by omega, hkn (by omega)⟩⟩) (by omega) (by omega)
