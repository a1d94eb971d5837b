/-! the landed object: entries and rows -/
theorem kq_18_xrows_0 : (Cond.fieldLink RX5 22 "IndexSort" "entryCount" "I") ∈ lw_tbl := by decide +kernel
theorem kq_18_xrows_1 : (Cond.methodLink RX5 84 yX5_isEntry) ∈ lw_tbl := by decide +kernel
theorem kq_18_xrows_2 : (Cond.instanceMethod yX5_isEntry) ∈ lw_tbl := by decide +kernel
theorem kq_18_xrows_3 : (Cond.selects RX5 yX5_isEntry yX5_isEntry) ∈ lw_tbl := by decide +kernel
theorem kq_18_xrows_4 : (Cond.initialized RX5) ∈ lw_tbl := by decide +kernel
theorem kq_18_xrows_5 : (Cond.code yX5_isEntry cX5_isEntry 2 (some .boolean)) ∈ lw_tbl := by decide +kernel
theorem kq_18_xrows_6 : (Cond.fieldLink RX5 11 "IndexSort" "entries" "[LIndexSort$Entry;") ∈ lw_tbl := by decide +kernel
theorem kq_18_xrows_7 : (Cond.fieldLink RX5 18 "IndexSort" "nobody" "LIndexSort$Entry;") ∈ lw_tbl := by decide +kernel
theorem kq_18_xrows_8 : (Cond.methodLink RX5 107 yX5_known) ∈ lw_tbl := by decide +kernel
theorem kq_18_xrows_9 : (Cond.instanceMethod yX5_known) ∈ lw_tbl := by decide +kernel
theorem kq_18_xrows_10 : (Cond.selects RX5 yX5_known yX5_known) ∈ lw_tbl := by decide +kernel
theorem kq_18_xrows_11 : (Cond.code yX5_known cX5_known 3 (some (.object "IndexSort$Entry"))) ∈ lw_tbl := by decide +kernel
theorem kq_18_xrows_12 : (Cond.fieldLinkNest RX5 172 "IndexSort$Entry" "level" "I" "IndexSort") ∈ lw_tbl := by decide +kernel
theorem kq_18_xrows_13 : (Cond.fieldLinkNest RX5 238 "IndexSort$Entry" "first" "I" "IndexSort") ∈ lw_tbl := by decide +kernel
theorem kq_18_xrows_14 : (Cond.fieldLinkNest RX5 251 "IndexSort$Entry" "above" "I" "IndexSort") ∈ lw_tbl := by decide +kernel
theorem kq_18_xrows_15 : (Cond.methodLink RX5 254 yX5_firstOf) ∈ lw_tbl := by decide +kernel
theorem kq_18_xrows_16 : (Cond.instanceMethod yX5_firstOf) ∈ lw_tbl := by decide +kernel
theorem kq_18_xrows_17 : (Cond.selects RX5 yX5_firstOf yX5_firstOf) ∈ lw_tbl := by decide +kernel
theorem kq_18_xrows_18 : (Cond.code yX5_firstOf cX5_firstOf 2 (some .int)) ∈ lw_tbl := by decide +kernel
theorem kq_18_xrows_19 : (Cond.fieldLinkNest RX5 257 "IndexSort$Entry" "ranks" "LIndexSort$Ints;" "IndexSort") ∈ lw_tbl := by decide +kernel
theorem kq_18_xrows_20 : (Cond.methodLink RX5 260 yX1_orderTo) ∈ lw_tbl := by decide +kernel
theorem kq_18_xrows_21 : (Cond.methodLink RX5 247 yX5_isSame) ∈ lw_tbl := by decide +kernel
theorem kq_18_xrows_22 : (Cond.instanceMethod yX5_isSame) ∈ lw_tbl := by decide +kernel
theorem kq_18_xrows_23 : (Cond.selects RX5 yX5_isSame yX5_isSame) ∈ lw_tbl := by decide +kernel
theorem kq_18_xrows_24 : (Cond.code yX5_isSame cX5_isSame 3 (some .boolean)) ∈ lw_tbl := by decide +kernel
theorem kq_18_xrows_25 : (Cond.fieldLink RX5 45 "IndexSort" "rowsKnown" "Z") ∈ lw_tbl := by decide +kernel
theorem kq_18_xrows_26 : (Cond.fieldLink RX5 58 "IndexSort" "locatorsOf" "I") ∈ lw_tbl := by decide +kernel
theorem kq_18_xrows_27 : (Cond.methodLink RX5 266 yX0_group) ∈ lw_tbl := by decide +kernel
theorem kq_18_xrows_28 : (Cond.instanceMethod yX0_group) ∈ lw_tbl := by decide +kernel
theorem kq_18_xrows_29 : (Cond.selects RX0 yX0_group yX0_group) ∈ lw_tbl := by decide +kernel
theorem kq_18_xrows_30 : (Cond.code yX0_group cX0_group 1 (some .int)) ∈ lw_tbl := by decide +kernel
theorem kq_18_xrows_31 : (Cond.fieldLink RX5 26 "IndexSort" "digitsRule" "Z") ∈ lw_tbl := by decide +kernel
theorem kq_18_xrows_32 : (Cond.fieldLink RX5 30 "IndexSort" "wordsRule" "Z") ∈ lw_tbl := by decide +kernel
theorem kq_18_xrows_33 : (Cond.methodLink RX5 121 yX0_makeKey) ∈ lw_tbl := by decide +kernel
theorem kq_18_xrows_34 : (Cond.instanceMethod yX0_makeKey) ∈ lw_tbl := by decide +kernel
theorem kq_18_xrows_35 : (Cond.selects RX0 yX0_makeKey yX0_makeKey) ∈ lw_tbl := by decide +kernel
theorem kq_18_xrows_36 : (Cond.code yX0_makeKey cX0_makeKey 6 none) ∈ lw_tbl := by decide +kernel
theorem kq_18_xrows_37 : (Cond.fieldLink RX5 38 "IndexSort" "sorted" "LIndexSort$Ints;") ∈ lw_tbl := by decide +kernel
theorem kq_18_xrows_38 : (Cond.methodLink RX5 215 yX1_clear) ∈ lw_tbl := by decide +kernel
theorem kq_18_xrows_39 : (Cond.methodLink RX5 158 yX1_add) ∈ lw_tbl := by decide +kernel
theorem kq_18_xrows_40 : (Cond.methodLink RX5 125 yX1_size) ∈ lw_tbl := by decide +kernel
theorem kq_18_xrows_41 : (Cond.methodLink RX5 169 yX1_get) ∈ lw_tbl := by decide +kernel
theorem kq_18_xrows_42 : (Cond.methodLink RX5 190 yX0_orderTo) ∈ lw_tbl := by decide +kernel
theorem kq_18_xrows_43 : (Cond.instanceMethod yX0_orderTo) ∈ lw_tbl := by decide +kernel
theorem kq_18_xrows_44 : (Cond.selects RX0 yX0_orderTo yX0_orderTo) ∈ lw_tbl := by decide +kernel
theorem kq_18_xrows_45 : (Cond.code yX0_orderTo cX0_orderTo 3 (some .int)) ∈ lw_tbl := by decide +kernel
theorem kq_18_xrows_46 : (Cond.methodLink RX5 263 yX1_swap) ∈ lw_tbl := by decide +kernel
theorem kq_18_xrows_47 : (Cond.fieldLink RX5 42 "IndexSort" "rows" "LIndexSort$Ints;") ∈ lw_tbl := by decide +kernel
theorem kq_18_xrows_48 : (Cond.methodLink RX5 244 yX5_addRowsUnder) ∈ lw_tbl := by decide +kernel
theorem kq_18_xrows_49 : (Cond.instanceMethod yX5_addRowsUnder) ∈ lw_tbl := by decide +kernel
theorem kq_18_xrows_50 : (Cond.selects RX5 yX5_addRowsUnder yX5_addRowsUnder) ∈ lw_tbl := by decide +kernel
theorem kq_18_xrows_51 : (Cond.code yX5_addRowsUnder cX5_addRowsUnder 5 none) ∈ lw_tbl := by decide +kernel
theorem kq_18_xrows_52 : (Cond.methodLink RX5 241 yX5_sortFirsts) ∈ lw_tbl := by decide +kernel
theorem kq_18_xrows_53 : (Cond.instanceMethod yX5_sortFirsts) ∈ lw_tbl := by decide +kernel
theorem kq_18_xrows_54 : (Cond.selects RX5 yX5_sortFirsts yX5_sortFirsts) ∈ lw_tbl := by decide +kernel
theorem kq_18_xrows_55 : (Cond.code yX5_sortFirsts cX5_sortFirsts 3 none) ∈ lw_tbl := by decide +kernel
theorem kq_18_xrows_56 : (Cond.methodLink RX5 235 yX5_firstSame) ∈ lw_tbl := by decide +kernel
theorem kq_18_xrows_57 : (Cond.instanceMethod yX5_firstSame) ∈ lw_tbl := by decide +kernel
theorem kq_18_xrows_58 : (Cond.selects RX5 yX5_firstSame yX5_firstSame) ∈ lw_tbl := by decide +kernel
theorem kq_18_xrows_59 : (Cond.code yX5_firstSame cX5_firstSame 3 (some .int)) ∈ lw_tbl := by decide +kernel
set_option maxHeartbeats 4000000 in
set_option maxRecDepth 100000 in
theorem y_isEntry (l : Launch) (dC : Nat → ClassId) (dI : Nat → Nat → Nat) (cI cB cE : ClassId) (o r n : Nat → Nat) (z : Nat → Int) (F : Nat → Int → Int) (G : Nat → Option Nat) (N : Nat) (Eo Er En : Nat → Nat → Nat) (Ez : Nat → Nat → Int) (EF : Nat → Nat → Int → Int) (p0 : Int) (sz : Nat) (hok : xOk n z F) (hxG : xG N (z 12) G Eo) (hPE : eA N En Ez EF) (hp01 : -2147483648 ≤ p0) (hp02 : p0 < 2147483648) : Met l yX5_isEntry [.code yX5_isEntry cX5_isEntry 2 (some .boolean)] ({ frames := 0, cells := 0, slots := 0, locals := 0 }) (va_Pc [.ref (o 15), .int (iz p0)] (pPre dC dI (xU cI cB cE o r n z F G (Eo 0 0) ++ eP cI N Eo Er En Ez EF) (xT cI cB cE) sz)) (pQ (fun z => some (.int (iz z))) (fun (q : Int) => (q = 1 ∧ 0 ≤ p0 ∧ p0 < z 12) ∨ (q = 0 ∧ ¬ (0 ≤ p0 ∧ p0 < z 12)))) 0 0 (fun _ => False) := by
  refine Met.ofW (cc := cX5_isEntry) (maxL := 2) (ret := (some .boolean)) (by decide) rfl ?_
  intro p e s m args below meth c s₁ B hml hv
  obtain ⟨rfl, hsz, hP, hK, hG⟩ := hv
  have hx := B.exec
  have hb := B.bytes
  have hr := B.returns
  have hts := kx_hts (a := ([.ref (o 15), .int (iz p0)] : List Value).toArray) hG
  have hown : s.vm.findClass RX5 = some m.cls := findClass_of_methodNamed B.named
  have hlocks := B.notSynchronized
  subst hsz
  have hS : va_S (fun _ => False) s.heap s.heap [] := va_S.rf
  have hl := lv_entry ([.ref (o 15), .int (iz p0)]) (n := 2) (Nat.le_of_ble_eq_true rfl)
  rw [lg_entry_eq]
  generalize (lg_sl ([.ref (o 15), .int (iz p0)]) ++ List.replicate (2 - (lg_sl ([.ref (o 15), .int (iz p0)])).length) Slot.unset).toArray = ls at hl ⊢
  obtain ⟨hN1, hN2, hN3, hN4⟩ := hxG
  have hl : lv_has ls 2 [(0, .ref (o 15)), (1, .int (iz p0))] := hl
  refine lv_iload_n hx hb dX5_isEntry_0 rfl (lv_at hl 1 rfl) ?_
  refine ki_if_lt (tgt := 16) hx hb dX5_isEntry_1 (by decide) (by omega) (by omega) (fun c_1 => ?_) (fun c_1 => ?_)
  · skip
    refine lv_iconst (v := iz 0) hx hb dX5_isEntry_16 (by decide) ?_
    exact xp_iret (z := 0) hx hb hr (mz_bool (by omega)).1 hlocks rfl hS.2.2 dX5_isEntry_17 (by omega)
  · skip
    refine lv_iload_n hx hb dX5_isEntry_4 rfl (lv_at hl 1 rfl) ?_
    refine lv_aload_n hx hb dX5_isEntry_5 rfl (lv_at hl 0 rfl) ?_
    have hxz_2 : -2147483648 ≤ z 12 ∧ z 12 < 2147483648 := hok.2.2.2.1 12
    refine va_get (D := (dC, dI)) (ci := 5) (v := .int (iz (z 12))) (C := RX5) (T := TX5) (N := 16) hx hb hts kt_X5 hown hK hP 0 rfl rfl 2 (by decide) (kx_word hG kq_18_xrows_0 rfl) (fun _ h9 => h9) rfl dX5_isEntry_6 ?_
    refine ki_icmp_ge (tgt := 16) hx hb dX5_isEntry_9 (by decide) (by omega) (by omega) (by omega) (by omega) (fun c_3 => ?_) (fun c_3 => ?_)
    · skip
      refine lv_iconst (v := iz 0) hx hb dX5_isEntry_16 (by decide) ?_
      exact xp_iret (z := 0) hx hb hr (mz_bool (by omega)).1 hlocks rfl hS.2.2 dX5_isEntry_17 (by omega)
    · skip
      refine lv_iconst (v := iz 1) hx hb dX5_isEntry_12 (by decide) ?_
      refine lv_goto (tgt := 17) hx hb dX5_isEntry_13 (by decide) ?_
      exact xp_iret (z := 1) hx hb hr (mz_bool (by omega)).1 hlocks rfl hS.2.2 dX5_isEntry_17 (by omega)
set_option maxHeartbeats 4000000 in
set_option maxRecDepth 100000 in
theorem y_known (l : Launch) (dC : Nat → ClassId) (dI : Nat → Nat → Nat) (cI cB cE : ClassId) (o r n : Nat → Nat) (z : Nat → Int) (F : Nat → Int → Int) (G : Nat → Option Nat) (N : Nat) (Eo Er En : Nat → Nat → Nat) (Ez : Nat → Nat → Int) (EF : Nat → Nat → Int → Int) (p0 : Int) (sz : Nat) (hok : xOk n z F) (hxG : xG N (z 12) G Eo) (hPE : eA N En Ez EF) (hp01 : -2147483648 ≤ p0) (hp02 : p0 < 2147483648) : Met l yX5_known [.code yX5_known cX5_known 3 (some (.object "IndexSort$Entry"))] ({ frames := 1, cells := 0, slots := 0, locals := 21 }) (va_Pc [.ref (o 15), .int (iz p0)] (pPre dC dI (xU cI cB cE o r n z F G (Eo 0 0) ++ eP cI N Eo Er En Ez EF) (xT cI cB cE) sz)) (pQ (fun z => some (.ref z.toNat)) (fun (q : Int) => ∃ j : Nat, j < N ∧ q = (Eo j 0 : Int) ∧ (0 ≤ p0 ∧ p0 < z 12 → (j : Int) = p0 + 1))) 0 0 (fun _ => False) := by
  refine Met.ofW (cc := cX5_known) (maxL := 3) (ret := (some (.object "IndexSort$Entry"))) (by decide) rfl ?_
  intro p e s m args below meth c s₁ B hml hv
  obtain ⟨rfl, hsz, hP, hK, hG⟩ := hv
  have hx := B.exec
  have hb := B.bytes
  have hr := B.returns
  have hts := kx_hts (a := ([.ref (o 15), .int (iz p0)] : List Value).toArray) hG
  have hown : s.vm.findClass RX5 = some m.cls := findClass_of_methodNamed B.named
  have hlocks := B.notSynchronized
  subst hsz
  have hS : va_S (fun _ => False) s.heap s.heap [] := va_S.rf
  have hl := lv_entry ([.ref (o 15), .int (iz p0)]) (n := 3) (Nat.le_of_ble_eq_true rfl)
  rw [lg_entry_eq]
  generalize (lg_sl ([.ref (o 15), .int (iz p0)]) ++ List.replicate (3 - (lg_sl ([.ref (o 15), .int (iz p0)])).length) Slot.unset).toArray = ls at hl ⊢
  obtain ⟨hN1, hN2, hN3, hN4⟩ := hxG
  have hl : lv_has ls 3 [(0, .ref (o 15)), (1, .int (iz p0))] := hl
  refine lv_aload_n hx hb dX5_known_0 rfl (lv_at hl 0 rfl) ?_
  refine lv_iload_n hx hb dX5_known_1 rfl (lv_at hl 1 rfl) ?_
  have hxz_1 : -2147483648 ≤ z 12 ∧ z 12 < 2147483648 := hok.2.2.2.1 12
  have hxG9 : xG N (z 12) G Eo := ⟨by omega, by omega, by omega, fun e9 h9 => hN4 e9 (by omega)⟩
  have hP : va_P (dC, dI) kxCl (xU cI cB cE o r n z F G (Eo 0 0) ++ eP cI N Eo Er En Ez EF) s.heap := hP
  refine xk_pure (va_runV (As := [.int (iz p0)]) (rest := []) ⟨hx, hb, hml, hown, hts⟩ (y_isEntry l dC dI cI cB cE o r n z F G N Eo Er En Ez EF p0 s.heap.size hok hxG9 hPE (by omega) (by omega)) (cwV 1 hts (kx_gV kq_18_xrows_1 kq_18_xrows_2 kq_18_xrows_3 kq_18_xrows_4 kq_18_xrows_5 rfl) rfl rfl rfl (by decide +kernel) ⟨Nat.le_of_ble_eq_true rfl, Nat.le_of_ble_eq_true rfl⟩) ⟨pPre_blind, va_recv hK hP (ci := 5) (q0 := 0) rfl rfl, pPre_give hP hK hG⟩ rfl rfl hl.1 rfl (lv_room (Nat.le_of_ble_eq_true rfl)) dX5_known_2 ⟨Nat.le_of_ble_eq_true rfl, Nat.le_of_ble_eq_true rfl⟩) hS (fun z_3 locs hq_2 hS => ?_)
  refine W.eq (g2 := F0 m 5 ls [.int (iz z_3)]) rfl ?_
  try dsimp only at hq_2
  rcases hq_2 with ⟨rfl, hq_2⟩ | ⟨rfl, hq_2⟩
  · skip
    refine ki_if_eq (tgt := 26) hx hb dX5_known_5 (by decide) (by omega) (by omega) (fun c_4 => ?_) (fun c_4 => ?_)
    · omega
    · skip
      refine lv_iload_n hx hb dX5_known_8 rfl (lv_at hl 1 rfl) ?_
      refine lv_aload_n hx hb dX5_known_9 rfl (lv_at hl 0 rfl) ?_
      refine va_get (D := (dC, dI)) (ci := 5) (v := .ref (o 16)) (C := RX5) (T := TX5) (N := 16) hx hb hts kt_X5 hown hK hP 0 rfl rfl 0 (by decide) (kx_word hG kq_18_xrows_6 rfl) (fun _ h9 => h9) rfl dX5_known_10 ?_
      refine xk_alen hx hb hK hP 1 2 rfl rfl dX5_known_13 ?_
      refine ki_is (show iz ((80 : Nat) : Int) = iz 80 from rfl) ?_
      refine ki_icmp_ge (tgt := 26) hx hb dX5_known_14 (by decide) (by omega) (by omega) (by omega) (by omega) (fun c_5 => ?_) (fun c_5 => ?_)
      · omega
      · skip
        refine lv_aload_n hx hb dX5_known_17 rfl (lv_at hl 0 rfl) ?_
        refine va_get (D := (dC, dI)) (ci := 5) (v := .ref (o 16)) (C := RX5) (T := TX5) (N := 16) hx hb hts kt_X5 hown hK hP 0 rfl rfl 0 (by decide) (kx_word hG kq_18_xrows_6 rfl) (fun _ h9 => h9) rfl dX5_known_18 ?_
        refine lv_iload_n hx hb dX5_known_21 rfl (lv_at hl 1 rfl) ?_
        refine va_aldq hx hb hK hP 1 2 rfl rfl (iz_in (show 0 ≤ p0 by omega) (by omega) (by omega)) dX5_known_22 ?_
        rw [show G (iz p0).toNatClampNeg = some (Eo (p0.toNat + 1) 0) from by rw [iz_clamp (by omega) (by omega)]; exact hN4 _ (by omega)]
        refine W.eq (g2 := F0 m 23 ls [.ref (Eo (p0.toNat + 1) 0)]) rfl ?_
        refine lv_goto (tgt := 27) hx hb dX5_known_23 (by decide) ?_
        refine lv_astore_n (lv' := [(2, .ref (Eo (p0.toNat + 1) 0)), (0, .ref (o 15)), (1, .int (iz p0))]) hx hb dX5_known_27 rfl hl (by decide) rfl (fun ls hl => ?_)
        refine lv_aload_n hx hb dX5_known_28 rfl (lv_at hl 0 rfl) ?_
        refine lv_ifnonnull (tgt := 39) hx hb dX5_known_29 (by decide) ?_
        refine lv_aload_n hx hb dX5_known_39 rfl (lv_at hl 0 rfl) ?_
        exact xp_aret hx hb hr (Or.inl ⟨_, rfl⟩) hlocks rfl hS.2.2 dX5_known_40 (⟨p0.toNat + 1, by omega, rfl, by omega⟩)
  · skip
    refine ki_if_eq (tgt := 26) hx hb dX5_known_5 (by decide) (by omega) (by omega) (fun c_6 => ?_) (fun c_6 => ?_)
    · skip
      refine lv_null hx hb dX5_known_26 ?_
      refine lv_astore_nN (lv' := [(2, .null), (0, .ref (o 15)), (1, .int (iz p0))]) hx hb dX5_known_27 rfl hl (by decide) rfl (fun ls hl => ?_)
      refine lv_aload_nN hx hb dX5_known_28 rfl (lv_at hl 0 rfl) ?_
      refine lv_ifnonnullN hx hb dX5_known_29 ?_
      refine lv_aload_n hx hb dX5_known_32 rfl (lv_at hl 1 rfl) ?_
      refine va_get (D := (dC, dI)) (ci := 5) (v := .ref (Eo 0 0)) (C := RX5) (T := TX5) (N := 16) hx hb hts kt_X5 hown hK hP 0 rfl rfl 1 (by decide) (kx_word hG kq_18_xrows_7 rfl) (fun _ h9 => h9) rfl dX5_known_33 ?_
      refine lv_goto (tgt := 40) hx hb dX5_known_36 (by decide) ?_
      exact xp_aret hx hb hr (Or.inl ⟨_, rfl⟩) hlocks rfl hS.2.2 dX5_known_40 (⟨0, by omega, rfl, by omega⟩)
    · omega
set_option maxHeartbeats 4000000 in
set_option maxRecDepth 100000 in
theorem y_isLevelBefore (l : Launch) (dC : Nat → ClassId) (dI : Nat → Nat → Nat) (cI cB cE : ClassId) (o r n : Nat → Nat) (z : Nat → Int) (F : Nat → Int → Int) (G : Nat → Option Nat) (N : Nat) (Eo Er En : Nat → Nat → Nat) (Ez : Nat → Nat → Int) (EF : Nat → Nat → Int → Int) (p0 : Int) (p1 : Int) (sz : Nat) (hok : xOk n z F) (hxG : xG N (z 12) G Eo) (hPE : eA N En Ez EF) (hp01 : -2147483648 ≤ p0) (hp02 : p0 < 2147483648) (hp1 : 0 ≤ p1 ∧ p1 ≤ 100) (hp0 : p0 = -1 ∨ (0 ≤ p0 ∧ p0 < z 12)) : Met l yX5_isLevelBefore [.code yX5_isLevelBefore cX5_isLevelBefore 3 (some .boolean)] ({ frames := 2, cells := 0, slots := 0, locals := 43 }) (va_Pc [.ref (o 15), .int (iz p0), .int (iz p1)] (pPre dC dI (xU cI cB cE o r n z F G (Eo 0 0) ++ eP cI N Eo Er En Ez EF) (xT cI cB cE) sz)) (pQ (fun z => some (.int (iz z))) (fun (q : Int) => (q = 1 ∧ ((p1 = 0 ∧ p0 = -1) ∨ (¬ p1 = 0 ∧ 0 ≤ p0 ∧ Ez (p0 + 1).toNat 7 = p1 - 1))) ∨ (q = 0 ∧ ¬ ((p1 = 0 ∧ p0 = -1) ∨ (¬ p1 = 0 ∧ 0 ≤ p0 ∧ Ez (p0 + 1).toNat 7 = p1 - 1))))) 0 0 (fun _ => False) := by
  refine Met.ofW (cc := cX5_isLevelBefore) (maxL := 3) (ret := (some .boolean)) (by decide) rfl ?_
  intro p e s m args below meth c s₁ B hml hv
  obtain ⟨rfl, hsz, hP, hK, hG⟩ := hv
  have hx := B.exec
  have hb := B.bytes
  have hr := B.returns
  have hts := kx_hts (a := ([.ref (o 15), .int (iz p0), .int (iz p1)] : List Value).toArray) hG
  have hown : s.vm.findClass RX5 = some m.cls := findClass_of_methodNamed B.named
  have hlocks := B.notSynchronized
  subst hsz
  have hS : va_S (fun _ => False) s.heap s.heap [] := va_S.rf
  have hl := lv_entry ([.ref (o 15), .int (iz p0), .int (iz p1)]) (n := 3) (Nat.le_of_ble_eq_true rfl)
  rw [lg_entry_eq]
  generalize (lg_sl ([.ref (o 15), .int (iz p0), .int (iz p1)]) ++ List.replicate (3 - (lg_sl ([.ref (o 15), .int (iz p0), .int (iz p1)])).length) Slot.unset).toArray = ls at hl ⊢
  obtain ⟨hN1, hN2, hN3, hN4⟩ := hxG
  have hl : lv_has ls 3 [(0, .ref (o 15)), (1, .int (iz p0)), (2, .int (iz p1))] := hl
  refine lv_iload_n hx hb dX5_isLevelBefore_0 rfl (lv_at hl 2 rfl) ?_
  refine ki_if_ne (tgt := 17) hx hb dX5_isLevelBefore_1 (by decide) (by omega) (by omega) (fun c_1 => ?_) (fun c_1 => ?_)
  · skip
    refine lv_iload_n hx hb dX5_isLevelBefore_17 rfl (lv_at hl 1 rfl) ?_
    refine lv_iconst (v := iz (-1)) hx hb dX5_isLevelBefore_18 (by decide) ?_
    refine ki_icmp_eq (tgt := 40) hx hb dX5_isLevelBefore_19 (by decide) (by omega) (by omega) (by omega) (by omega) (fun c_2 => ?_) (fun c_2 => ?_)
    · skip
      refine lv_iconst (v := iz 0) hx hb dX5_isLevelBefore_40 (by decide) ?_
      exact xp_iret (z := 0) hx hb hr (mz_bool (by omega)).1 hlocks rfl hS.2.2 dX5_isLevelBefore_41 (by omega)
    · skip
      refine lv_aload_n hx hb dX5_isLevelBefore_22 rfl (lv_at hl 0 rfl) ?_
      refine lv_iload_n hx hb dX5_isLevelBefore_23 rfl (lv_at hl 1 rfl) ?_
      have hxz_3 : -2147483648 ≤ z 12 ∧ z 12 < 2147483648 := hok.2.2.2.1 12
      have hxG9 : xG N (z 12) G Eo := ⟨by omega, by omega, by omega, fun e9 h9 => hN4 e9 (by omega)⟩
      have hP : va_P (dC, dI) kxCl (xU cI cB cE o r n z F G (Eo 0 0) ++ eP cI N Eo Er En Ez EF) s.heap := hP
      refine xk_pure (va_runV (As := [.int (iz p0)]) (rest := []) ⟨hx, hb, hml, hown, hts⟩ (y_known l dC dI cI cB cE o r n z F G N Eo Er En Ez EF p0 s.heap.size hok hxG9 hPE (by omega) (by omega)) (cwV 1 hts (kx_gV kq_18_xrows_8 kq_18_xrows_9 kq_18_xrows_10 kq_18_xrows_4 kq_18_xrows_11 rfl) rfl rfl rfl (by decide +kernel) ⟨Nat.le_of_ble_eq_true rfl, Nat.le_of_ble_eq_true rfl⟩) ⟨pPre_blind, va_recv hK hP (ci := 5) (q0 := 0) rfl rfl, pPre_give hP hK hG⟩ rfl rfl hl.1 rfl (lv_room (Nat.le_of_ble_eq_true rfl)) dX5_isLevelBefore_24 ⟨Nat.le_of_ble_eq_true rfl, Nat.le_of_ble_eq_true rfl⟩) hS (fun z_5 locs hq_4 hS => ?_)
      refine W.eq (g2 := F0 m 27 ls [.ref z_5.toNat]) rfl ?_
      try dsimp only at hq_4
      obtain ⟨j6, hj6, ez6, hje6⟩ := hq_4
      subst ez6
      refine W.eq (g2 := F0 m 27 ls [.ref (Eo j6 0)]) rfl ?_
      have hP := eP_foc hj6 hP
      have hez_7 : -2147483648 ≤ Ez j6 7 ∧ Ez j6 7 < 2147483648 := (hPE j6 hj6).2.2 7
      refine va_getN (D := (dC, dI)) (ci := 0) (v := .int (iz (Ez j6 7))) (C := RX0) (T := TX0) (N := 12) hx hb hts kt_X0 hown hK hP 29 rfl rfl 0 (by decide) (va_Nw.use rfl (kx_nf hG kq_18_xrows_12)) (fun _ h9 => h9) rfl dX5_isLevelBefore_27 ?_
      refine lv_iload_n hx hb dX5_isLevelBefore_30 rfl (lv_at hl 2 rfl) ?_
      refine lv_iconst (v := iz 1) hx hb dX5_isLevelBefore_31 (by decide) ?_
      refine ki_isub hx hb dX5_isLevelBefore_32 ?_
      refine ki_icmp_ne (tgt := 40) hx hb dX5_isLevelBefore_33 (by decide) (by omega) (by omega) (by omega) (by omega) (fun c_8 => ?_) (fun c_8 => ?_)
      · skip
        refine lv_iconst (v := iz 0) hx hb dX5_isLevelBefore_40 (by decide) ?_
        exact xp_iret (z := 0) hx hb hr (mz_bool (by omega)).1 hlocks rfl hS.2.2 dX5_isLevelBefore_41 (by have ej : j6 = (p0 + 1).toNat := (by omega); subst ej; omega)
      · skip
        refine lv_iconst (v := iz 1) hx hb dX5_isLevelBefore_36 (by decide) ?_
        refine lv_goto (tgt := 41) hx hb dX5_isLevelBefore_37 (by decide) ?_
        exact xp_iret (z := 1) hx hb hr (mz_bool (by omega)).1 hlocks rfl hS.2.2 dX5_isLevelBefore_41 (by have ej : j6 = (p0 + 1).toNat := (by omega); subst ej; omega)
  · skip
    refine lv_iload_n hx hb dX5_isLevelBefore_4 rfl (lv_at hl 1 rfl) ?_
    refine lv_iconst (v := iz (-1)) hx hb dX5_isLevelBefore_5 (by decide) ?_
    refine ki_icmp_ne (tgt := 13) hx hb dX5_isLevelBefore_6 (by decide) (by omega) (by omega) (by omega) (by omega) (fun c_9 => ?_) (fun c_9 => ?_)
    · skip
      refine lv_iconst (v := iz 0) hx hb dX5_isLevelBefore_13 (by decide) ?_
      refine lv_goto (tgt := 41) hx hb dX5_isLevelBefore_14 (by decide) ?_
      exact xp_iret (z := 0) hx hb hr (mz_bool (by omega)).1 hlocks rfl hS.2.2 dX5_isLevelBefore_41 (by omega)
    · skip
      refine lv_iconst (v := iz 1) hx hb dX5_isLevelBefore_9 (by decide) ?_
      refine lv_goto (tgt := 41) hx hb dX5_isLevelBefore_10 (by decide) ?_
      exact xp_iret (z := 1) hx hb hr (mz_bool (by omega)).1 hlocks rfl hS.2.2 dX5_isLevelBefore_41 (by omega)
set_option maxHeartbeats 4000000 in
set_option maxRecDepth 100000 in
theorem y_firstOf (l : Launch) (dC : Nat → ClassId) (dI : Nat → Nat → Nat) (cI cB cE : ClassId) (o r n : Nat → Nat) (z : Nat → Int) (F : Nat → Int → Int) (G : Nat → Option Nat) (N : Nat) (Eo Er En : Nat → Nat → Nat) (Ez : Nat → Nat → Int) (EF : Nat → Nat → Int → Int) (p0 : Int) (sz : Nat) (hok : xOk n z F) (hxG : xG N (z 12) G Eo) (hPE : eA N En Ez EF) (hp01 : -2147483648 ≤ p0) (hp02 : p0 < 2147483648) : Met l yX5_firstOf [.code yX5_firstOf cX5_firstOf 2 (some .int)] ({ frames := 2, cells := 0, slots := 0, locals := 43 }) (va_Pc [.ref (o 15), .int (iz p0)] (pPre dC dI (xU cI cB cE o r n z F G (Eo 0 0) ++ eP cI N Eo Er En Ez EF) (xT cI cB cE) sz)) (pQ (fun z => some (.int (iz z))) (fun (q : Int) => -2147483648 ≤ q ∧ q < 2147483648)) 0 0 (fun _ => False) := by
  refine Met.ofW (cc := cX5_firstOf) (maxL := 2) (ret := (some .int)) (by decide) rfl ?_
  intro p e s m args below meth c s₁ B hml hv
  obtain ⟨rfl, hsz, hP, hK, hG⟩ := hv
  have hx := B.exec
  have hb := B.bytes
  have hr := B.returns
  have hts := kx_hts (a := ([.ref (o 15), .int (iz p0)] : List Value).toArray) hG
  have hown : s.vm.findClass RX5 = some m.cls := findClass_of_methodNamed B.named
  have hlocks := B.notSynchronized
  subst hsz
  have hS : va_S (fun _ => False) s.heap s.heap [] := va_S.rf
  have hl := lv_entry ([.ref (o 15), .int (iz p0)]) (n := 2) (Nat.le_of_ble_eq_true rfl)
  rw [lg_entry_eq]
  generalize (lg_sl ([.ref (o 15), .int (iz p0)]) ++ List.replicate (2 - (lg_sl ([.ref (o 15), .int (iz p0)])).length) Slot.unset).toArray = ls at hl ⊢
  obtain ⟨hN1, hN2, hN3, hN4⟩ := hxG
  have hl : lv_has ls 2 [(0, .ref (o 15)), (1, .int (iz p0))] := hl
  refine lv_aload_n hx hb dX5_firstOf_0 rfl (lv_at hl 0 rfl) ?_
  refine lv_iload_n hx hb dX5_firstOf_1 rfl (lv_at hl 1 rfl) ?_
  have hxz_1 : -2147483648 ≤ z 12 ∧ z 12 < 2147483648 := hok.2.2.2.1 12
  have hxG9 : xG N (z 12) G Eo := ⟨by omega, by omega, by omega, fun e9 h9 => hN4 e9 (by omega)⟩
  have hP : va_P (dC, dI) kxCl (xU cI cB cE o r n z F G (Eo 0 0) ++ eP cI N Eo Er En Ez EF) s.heap := hP
  refine xk_pure (va_runV (As := [.int (iz p0)]) (rest := []) ⟨hx, hb, hml, hown, hts⟩ (y_isEntry l dC dI cI cB cE o r n z F G N Eo Er En Ez EF p0 s.heap.size hok hxG9 hPE (by omega) (by omega)) (cwV 1 hts (kx_gV kq_18_xrows_1 kq_18_xrows_2 kq_18_xrows_3 kq_18_xrows_4 kq_18_xrows_5 rfl) rfl rfl rfl (by decide +kernel) ⟨Nat.le_of_ble_eq_true rfl, Nat.le_of_ble_eq_true rfl⟩) ⟨pPre_blind, va_recv hK hP (ci := 5) (q0 := 0) rfl rfl, pPre_give hP hK hG⟩ rfl rfl hl.1 rfl (lv_room (Nat.le_of_ble_eq_true rfl)) dX5_firstOf_2 ⟨Nat.le_of_ble_eq_true rfl, Nat.le_of_ble_eq_true rfl⟩) hS (fun z_3 locs hq_2 hS => ?_)
  refine W.eq (g2 := F0 m 5 ls [.int (iz z_3)]) rfl ?_
  try dsimp only at hq_2
  rcases hq_2 with ⟨rfl, hq_2⟩ | ⟨rfl, hq_2⟩
  · skip
    refine ki_if_eq (tgt := 19) hx hb dX5_firstOf_5 (by decide) (by omega) (by omega) (fun c_4 => ?_) (fun c_4 => ?_)
    · omega
    · skip
      refine lv_aload_n hx hb dX5_firstOf_8 rfl (lv_at hl 0 rfl) ?_
      refine lv_iload_n hx hb dX5_firstOf_9 rfl (lv_at hl 1 rfl) ?_
      have hxG9 : xG N (z 12) G Eo := ⟨by omega, by omega, by omega, fun e9 h9 => hN4 e9 (by omega)⟩
      have hP : va_P (dC, dI) kxCl (xU cI cB cE o r n z F G (Eo 0 0) ++ eP cI N Eo Er En Ez EF) s.heap := hP
      refine xk_pure (va_runV (As := [.int (iz p0)]) (rest := []) ⟨hx, hb, hml, hown, hts⟩ (y_known l dC dI cI cB cE o r n z F G N Eo Er En Ez EF p0 s.heap.size hok hxG9 hPE (by omega) (by omega)) (cwV 1 hts (kx_gV kq_18_xrows_8 kq_18_xrows_9 kq_18_xrows_10 kq_18_xrows_4 kq_18_xrows_11 rfl) rfl rfl rfl (by decide +kernel) ⟨Nat.le_of_ble_eq_true rfl, Nat.le_of_ble_eq_true rfl⟩) ⟨pPre_blind, va_recv hK hP (ci := 5) (q0 := 0) rfl rfl, pPre_give hP hK hG⟩ rfl rfl hl.1 rfl (lv_room (Nat.le_of_ble_eq_true rfl)) dX5_firstOf_10 ⟨Nat.le_of_ble_eq_true rfl, Nat.le_of_ble_eq_true rfl⟩) hS (fun z_6 locs hq_5 hS => ?_)
      refine W.eq (g2 := F0 m 13 ls [.ref z_6.toNat]) rfl ?_
      try dsimp only at hq_5
      obtain ⟨j7, hj7, ez7, hje7⟩ := hq_5
      subst ez7
      refine W.eq (g2 := F0 m 13 ls [.ref (Eo j7 0)]) rfl ?_
      have hP := eP_foc hj7 hP
      have hez_8 : -2147483648 ≤ Ez j7 10 ∧ Ez j7 10 < 2147483648 := (hPE j7 hj7).2.2 10
      refine va_getN (D := (dC, dI)) (ci := 0) (v := .int (iz (Ez j7 10))) (C := RX0) (T := TX0) (N := 12) hx hb hts kt_X0 hown hK hP 29 rfl rfl 8 (by decide) (va_Nw.use rfl (kx_nf hG kq_18_xrows_13)) (fun _ h9 => h9) rfl dX5_firstOf_13 ?_
      refine lv_goto (tgt := 20) hx hb dX5_firstOf_16 (by decide) ?_
      exact xp_iret (z := Ez j7 10) hx hb hr rfl hlocks rfl hS.2.2 dX5_firstOf_20 (by omega)
  · skip
    refine ki_if_eq (tgt := 19) hx hb dX5_firstOf_5 (by decide) (by omega) (by omega) (fun c_9 => ?_) (fun c_9 => ?_)
    · skip
      refine lv_iconst (v := iz (-1)) hx hb dX5_firstOf_19 (by decide) ?_
      exact xp_iret (z := (-1)) hx hb hr rfl hlocks rfl hS.2.2 dX5_firstOf_20 (by omega)
    · omega
set_option maxHeartbeats 4000000 in
set_option maxRecDepth 100000 in
theorem y_isSame (l : Launch) (dC : Nat → ClassId) (dI : Nat → Nat → Nat) (cI cB cE : ClassId) (o r n : Nat → Nat) (z : Nat → Int) (F : Nat → Int → Int) (G : Nat → Option Nat) (N : Nat) (Eo Er En : Nat → Nat → Nat) (Ez : Nat → Nat → Int) (EF : Nat → Nat → Int → Int) (j1 : Nat) (j2 : Nat) (sz : Nat) (hok : xOk n z F) (hxG : xG N (z 12) G Eo) (hPE : eA N En Ez EF) (hj_j1 : j1 < N) (hj_j2 : j2 < N) : Met l yX5_isSame [.code yX5_isSame cX5_isSame 3 (some .boolean)] ({ frames := 3, cells := 0, slots := 0, locals := 64 }) (va_Pc [.ref (o 15), .ref (Eo j1 0), .ref (Eo j2 0)] (pPre dC dI (xU cI cB cE o r n z F G (Eo 0 0) ++ eP cI N Eo Er En Ez EF) (xT cI cB cE) sz)) (pQ (fun z => some (.int (iz z))) (fun (q : Int) => q = 0 ∨ q = 1)) 0 0 (fun _ => False) := by
  refine Met.ofW (cc := cX5_isSame) (maxL := 3) (ret := (some .boolean)) (by decide) rfl ?_
  intro p e s m args below meth c s₁ B hml hv
  obtain ⟨rfl, hsz, hP, hK, hG⟩ := hv
  have hx := B.exec
  have hb := B.bytes
  have hr := B.returns
  have hts := kx_hts (a := ([.ref (o 15), .ref (Eo j1 0), .ref (Eo j2 0)] : List Value).toArray) hG
  have hown : s.vm.findClass RX5 = some m.cls := findClass_of_methodNamed B.named
  have hlocks := B.notSynchronized
  subst hsz
  have hS : va_S (fun _ => False) s.heap s.heap [] := va_S.rf
  have hl := lv_entry ([.ref (o 15), .ref (Eo j1 0), .ref (Eo j2 0)]) (n := 3) (Nat.le_of_ble_eq_true rfl)
  rw [lg_entry_eq]
  generalize (lg_sl ([.ref (o 15), .ref (Eo j1 0), .ref (Eo j2 0)]) ++ List.replicate (3 - (lg_sl ([.ref (o 15), .ref (Eo j1 0), .ref (Eo j2 0)])).length) Slot.unset).toArray = ls at hl ⊢
  obtain ⟨hN1, hN2, hN3, hN4⟩ := hxG
  have hl : lv_has ls 3 [(0, .ref (o 15)), (1, .ref (Eo j1 0)), (2, .ref (Eo j2 0))] := hl
  refine lv_aload_n hx hb dX5_isSame_0 rfl (lv_at hl 1 rfl) ?_
  have hP := eP_foc hj_j1 hP
  have hez_1 : -2147483648 ≤ Ez j1 7 ∧ Ez j1 7 < 2147483648 := (hPE j1 hj_j1).2.2 7
  refine va_getN (D := (dC, dI)) (ci := 0) (v := .int (iz (Ez j1 7))) (C := RX0) (T := TX0) (N := 12) hx hb hts kt_X0 hown hK hP 29 rfl rfl 0 (by decide) (va_Nw.use rfl (kx_nf hG kq_18_xrows_12)) (fun _ h9 => h9) rfl dX5_isSame_1 ?_
  refine lv_aload_n hx hb dX5_isSame_4 rfl (lv_at hl 2 rfl) ?_
  have hP := eP_un0 hj_j1 hP
  have hP := eP_foc hj_j2 hP
  have hez_2 : -2147483648 ≤ Ez j2 7 ∧ Ez j2 7 < 2147483648 := (hPE j2 hj_j2).2.2 7
  refine va_getN (D := (dC, dI)) (ci := 0) (v := .int (iz (Ez j2 7))) (C := RX0) (T := TX0) (N := 12) hx hb hts kt_X0 hown hK hP 29 rfl rfl 0 (by decide) (va_Nw.use rfl (kx_nf hG kq_18_xrows_12)) (fun _ h9 => h9) rfl dX5_isSame_5 ?_
  refine ki_icmp_ne (tgt := 48) hx hb dX5_isSame_8 (by decide) (by omega) (by omega) (by omega) (by omega) (fun c_3 => ?_) (fun c_3 => ?_)
  · skip
    refine lv_iconst (v := iz 0) hx hb dX5_isSame_48 (by decide) ?_
    exact xp_iret (z := 0) hx hb hr (mz_bool (by omega)).1 hlocks rfl hS.2.2 dX5_isSame_49 (by omega)
  · skip
    refine lv_aload_n hx hb dX5_isSame_11 rfl (lv_at hl 0 rfl) ?_
    refine lv_aload_n hx hb dX5_isSame_12 rfl (lv_at hl 1 rfl) ?_
    have hP := eP_un0 hj_j2 hP
    have hP := eP_foc hj_j1 hP
    have hez_4 : -2147483648 ≤ Ez j1 8 ∧ Ez j1 8 < 2147483648 := (hPE j1 hj_j1).2.2 8
    refine va_getN (D := (dC, dI)) (ci := 0) (v := .int (iz (Ez j1 8))) (C := RX0) (T := TX0) (N := 12) hx hb hts kt_X0 hown hK hP 29 rfl rfl 1 (by decide) (va_Nw.use rfl (kx_nf hG kq_18_xrows_14)) (fun _ h9 => h9) rfl dX5_isSame_13 ?_
    have hP := eP_un0 hj_j1 hP
    have hxz_5 : -2147483648 ≤ z 12 ∧ z 12 < 2147483648 := hok.2.2.2.1 12
    have hxG9 : xG N (z 12) G Eo := ⟨by omega, by omega, by omega, fun e9 h9 => hN4 e9 (by omega)⟩
    have hP : va_P (dC, dI) kxCl (xU cI cB cE o r n z F G (Eo 0 0) ++ eP cI N Eo Er En Ez EF) s.heap := hP
    refine xk_pure (va_runV (As := [.int (iz (Ez j1 8))]) (rest := []) ⟨hx, hb, hml, hown, hts⟩ (y_firstOf l dC dI cI cB cE o r n z F G N Eo Er En Ez EF (Ez j1 8) s.heap.size hok hxG9 hPE (by omega) (by omega)) (cwV 1 hts (kx_gV kq_18_xrows_15 kq_18_xrows_16 kq_18_xrows_17 kq_18_xrows_4 kq_18_xrows_18 rfl) rfl rfl rfl (by decide +kernel) ⟨Nat.le_of_ble_eq_true rfl, Nat.le_of_ble_eq_true rfl⟩) ⟨pPre_blind, va_recv hK hP (ci := 5) (q0 := 0) rfl rfl, pPre_give hP hK hG⟩ rfl rfl hl.1 rfl (lv_room (Nat.le_of_ble_eq_true rfl)) dX5_isSame_16 ⟨Nat.le_of_ble_eq_true rfl, Nat.le_of_ble_eq_true rfl⟩) hS (fun z_7 locs hq_6 hS => ?_)
    refine W.eq (g2 := F0 m 19 ls [.int (iz z_7)]) rfl ?_
    try dsimp only at hq_6
    refine lv_aload_n hx hb dX5_isSame_19 rfl (lv_at hl 0 rfl) ?_
    refine lv_aload_n hx hb dX5_isSame_20 rfl (lv_at hl 2 rfl) ?_
    have hP := eP_foc hj_j2 hP
    have hez_8 : -2147483648 ≤ Ez j2 8 ∧ Ez j2 8 < 2147483648 := (hPE j2 hj_j2).2.2 8
    refine va_getN (D := (dC, dI)) (ci := 0) (v := .int (iz (Ez j2 8))) (C := RX0) (T := TX0) (N := 12) hx hb hts kt_X0 hown hK hP 29 rfl rfl 1 (by decide) (va_Nw.use rfl (kx_nf hG kq_18_xrows_14)) (fun _ h9 => h9) rfl dX5_isSame_21 ?_
    have hP := eP_un0 hj_j2 hP
    have hxG9 : xG N (z 12) G Eo := ⟨by omega, by omega, by omega, fun e9 h9 => hN4 e9 (by omega)⟩
    have hP : va_P (dC, dI) kxCl (xU cI cB cE o r n z F G (Eo 0 0) ++ eP cI N Eo Er En Ez EF) s.heap := hP
    refine xk_pure (va_runV (As := [.int (iz (Ez j2 8))]) (rest := [.int (iz z_7)]) ⟨hx, hb, hml, hown, hts⟩ (y_firstOf l dC dI cI cB cE o r n z F G N Eo Er En Ez EF (Ez j2 8) s.heap.size hok hxG9 hPE (by omega) (by omega)) (cwV 1 hts (kx_gV kq_18_xrows_15 kq_18_xrows_16 kq_18_xrows_17 kq_18_xrows_4 kq_18_xrows_18 rfl) rfl rfl rfl (by decide +kernel) ⟨Nat.le_of_ble_eq_true rfl, Nat.le_of_ble_eq_true rfl⟩) ⟨pPre_blind, va_recv hK hP (ci := 5) (q0 := 0) rfl rfl, pPre_give hP hK hG⟩ rfl rfl hl.1 rfl (lv_room (Nat.le_of_ble_eq_true rfl)) dX5_isSame_24 ⟨Nat.le_of_ble_eq_true rfl, Nat.le_of_ble_eq_true rfl⟩) hS (fun z_10 locs hq_9 hS => ?_)
    refine W.eq (g2 := F0 m 27 ls [.int (iz z_10), .int (iz z_7)]) rfl ?_
    try dsimp only at hq_9
    refine ki_icmp_ne (tgt := 48) hx hb dX5_isSame_27 (by decide) (by omega) (by omega) (by omega) (by omega) (fun c_11 => ?_) (fun c_11 => ?_)
    · skip
      refine lv_iconst (v := iz 0) hx hb dX5_isSame_48 (by decide) ?_
      exact xp_iret (z := 0) hx hb hr (mz_bool (by omega)).1 hlocks rfl hS.2.2 dX5_isSame_49 (by omega)
    · skip
      refine lv_aload_n hx hb dX5_isSame_30 rfl (lv_at hl 1 rfl) ?_
      have hP := eP_foc hj_j1 hP
      refine va_getN (D := (dC, dI)) (ci := 0) (v := .ref (Eo j1 2)) (C := RX0) (T := TX0) (N := 12) hx hb hts kt_X0 hown hK hP 29 rfl rfl 3 (by decide) (va_Nw.use rfl (kx_nf hG kq_18_xrows_19)) (fun _ h9 => h9) rfl dX5_isSame_31 ?_
      refine lv_aload_n hx hb dX5_isSame_34 rfl (lv_at hl 2 rfl) ?_
      have hP := eP_un0 hj_j1 hP
      have hP := eP_foc hj_j2 hP
      refine va_getN (D := (dC, dI)) (ci := 0) (v := .ref (Eo j2 2)) (C := RX0) (T := TX0) (N := 12) hx hb hts kt_X0 hown hK hP 29 rfl rfl 3 (by decide) (va_Nw.use rfl (kx_nf hG kq_18_xrows_19)) (fun _ h9 => h9) rfl dX5_isSame_35 ?_
      have hP := eP_un0 hj_j2 hP
      have hPk := hP
      have hP : va_P (dC, dI) kxCl ((xU cI cB cE o r n z F G (Eo 0 0)) ++ (eU cI (Eo j2) (Er j2) (En j2) (Ez j2) (EF j2)) ++ (eU cI (Eo j1) (Er j1) (En j1) (Ez j1) (EF j1))) s.heap := (((eP_hd hP).app (eP_get hj_j2 hP)).app (eP_get hj_j1 hP))
      have he_12 : 0 ≤ Ez j1 1 ∧ Ez j1 1 ≤ ((En j1 1 : Nat) : Int) ∧ ((En j1 1 : Nat) : Int) ≤ 20 := (hPE j1 hj_j1).1 1 (by decide)
      have he_13 : 0 ≤ Ez j2 1 ∧ Ez j2 1 ≤ ((En j2 1 : Nat) : Int) ∧ ((En j2 1 : Nat) : Int) ≤ 20 := (hPE j2 hj_j2).1 1 (by decide)
      have hPc := hP.sub (ws' := ((iU cI 20 (Eo j1 2) (Er j1 1) (En j1 1) (Ez j1 1) (EF j1 1)) ++ (iU cI 20 (Eo j2 2) (Er j2 1) (En j2 1) (Ez j2 1) (EF j2 1)))) [48, 49, 32, 33] rfl
      refine xk_pure (va_runV (As := [.ref (Eo j2 2)]) (rest := []) ⟨hx, hb, hml, hown, hts⟩ (x_orderTo l dC dI cI cB cE 20 (Eo j1 2) (Er j1 1) (En j1 1) (Ez j1 1) (EF j1 1) 20 (Eo j2 2) (Er j2 1) (En j2 1) (Ez j2 1) (EF j2 1)  s.heap.size (by omega) ((hPE j1 hj_j1).2.1 1) (by omega) ((hPE j2 hj_j2).2.1 1)) (cwV 1 hts (kx_gV kq_18_xrows_20 kq_16_xentry_26 kq_16_xentry_27 kq_13_xints_6 kq_16_xentry_28 rfl) rfl rfl rfl (by decide +kernel) ⟨Nat.le_of_ble_eq_true rfl, Nat.le_of_ble_eq_true rfl⟩) ⟨pPre_blind, va_recv hK hPc (ci := 1) (q0 := 0) rfl rfl, pPre_give hPc hK hG⟩ rfl rfl hl.1 rfl (lv_room (Nat.le_of_ble_eq_true rfl)) dX5_isSame_38 ⟨Nat.le_of_ble_eq_true rfl, Nat.le_of_ble_eq_true rfl⟩) hS (fun z_15 locs hq_14 hS => ?_)
      refine W.eq (g2 := F0 m 41 ls [.int (iz z_15)]) rfl ?_
      try dsimp only at hq_14
      have hP := hPk
      refine ki_if_ne (tgt := 48) hx hb dX5_isSame_41 (by decide) (by omega) (by omega) (fun c_16 => ?_) (fun c_16 => ?_)
      · skip
        refine lv_iconst (v := iz 0) hx hb dX5_isSame_48 (by decide) ?_
        exact xp_iret (z := 0) hx hb hr (mz_bool (by omega)).1 hlocks rfl hS.2.2 dX5_isSame_49 (by omega)
      · skip
        refine lv_iconst (v := iz 1) hx hb dX5_isSame_44 (by decide) ?_
        refine lv_goto (tgt := 49) hx hb dX5_isSame_45 (by decide) ?_
        exact xp_iret (z := 1) hx hb hr (mz_bool (by omega)).1 hlocks rfl hS.2.2 dX5_isSame_49 (by omega)
set_option maxHeartbeats 4000000 in
set_option maxRecDepth 100000 in
theorem y_firstSame (l : Launch) (dC : Nat → ClassId) (dI : Nat → Nat → Nat) (cI cB cE : ClassId) (o r n : Nat → Nat) (z : Nat → Int) (F : Nat → Int → Int) (G : Nat → Option Nat) (N : Nat) (Eo Er En : Nat → Nat → Nat) (Ez : Nat → Nat → Int) (EF : Nat → Nat → Int → Int) (p0 : Int) (sz : Nat) (hok : xOk n z F) (hxG : xG N (z 12) G Eo) (hPE : eA N En Ez EF) (h0 : 0 ≤ p0 ∧ p0 ≤ 100) : Met l yX5_firstSame [.code yX5_firstSame cX5_firstSame 3 (some .int)] ({ frames := 4, cells := 0, slots := 0, locals := 86 }) (va_Pc [.ref (o 15), .int (iz p0)] (pPre dC dI (xU cI cB cE o r n z F G (Eo 0 0) ++ eP cI N Eo Er En Ez EF) (xT cI cB cE) sz)) (pQ (fun z => some (.int (iz z))) (fun (q : Int) => 0 ≤ q ∧ q ≤ p0)) 0 0 (fun _ => False) := by
  refine Met.ofW (cc := cX5_firstSame) (maxL := 3) (ret := (some .int)) (by decide) rfl ?_
  intro p e s m args below meth c s₁ B hml hv
  obtain ⟨rfl, hsz, hP, hK, hG⟩ := hv
  have hx := B.exec
  have hb := B.bytes
  have hr := B.returns
  have hts := kx_hts (a := ([.ref (o 15), .int (iz p0)] : List Value).toArray) hG
  have hown : s.vm.findClass RX5 = some m.cls := findClass_of_methodNamed B.named
  have hlocks := B.notSynchronized
  subst hsz
  have hS : va_S (fun _ => False) s.heap s.heap [] := va_S.rf
  have hl := lv_entry ([.ref (o 15), .int (iz p0)]) (n := 3) (Nat.le_of_ble_eq_true rfl)
  rw [lg_entry_eq]
  generalize (lg_sl ([.ref (o 15), .int (iz p0)]) ++ List.replicate (3 - (lg_sl ([.ref (o 15), .int (iz p0)])).length) Slot.unset).toArray = ls at hl ⊢
  obtain ⟨hN1, hN2, hN3, hN4⟩ := hxG
  have hl : lv_has ls 3 [(0, .ref (o 15)), (1, .int (iz p0))] := hl
  generalize hQe : MQ below (pQ (fun z => some (.int (iz z))) (fun (q : Int) => 0 ≤ q ∧ q ≤ p0)) ([.ref (o 15), .int (iz p0)] : List Value).toArray s 0 0 (fun _ => False) = QQ
  refine lv_iconst (v := iz 0) hx hb dX5_firstSame_0 (by decide) ?_
  refine lv_istore_n (lv' := [(2, .int (iz 0)), (0, .ref (o 15)), (1, .int (iz p0))]) hx hb dX5_firstSame_1 rfl hl (by decide) rfl (fun ls hl => ?_)
  have lp2 : ∀ (n0 : Nat) (k : Int), ((0 ≤ k ∧ k ≤ 100)) → (p0 - k).toNat < n0 → ∀ (locs : List Loc), va_S (fun _ => False) s.heap s.heap locs → ∀ ls : Array Slot, lv_has ls 3 [(2, .int (iz k)), (0, .ref (o 15)), (1, .int (iz p0))] → W p l e (headSpec [.code yX5_firstSame cX5_firstSame 3 (some .int)] ({ frames := 4, cells := 0, slots := 0, locals := 86 })).room s m ([.ref (o 15), .int (iz p0)] : List Value).toArray below meth c s.heap locs 0 0 QQ (F0 m 2 ls []) := by
    intro n0
    induction n0 with
    | zero => intro k hinv hm0; exact absurd hm0 (Nat.not_lt_zero _)
    | succ n0 ih2 =>
      intro k hinv hm0 locs hS ls hl
      have hk := hinv
      refine lv_iload_n hx hb dX5_firstSame_2 rfl (lv_at hl 0 rfl) ?_
      refine lv_iload_n hx hb dX5_firstSame_3 rfl (lv_at hl 2 rfl) ?_
      refine ki_icmp_ge (tgt := 32) hx hb dX5_firstSame_4 (by decide) (by omega) (by omega) (by omega) (by omega) (fun c_1 => ?_) (fun c_1 => ?_)
      · skip
        refine lv_iload_n hx hb dX5_firstSame_32 rfl (lv_at hl 2 rfl) ?_
        rw [← hQe]
        exact xp_iret (z := p0) hx hb hr rfl hlocks rfl hS.2.2 dX5_firstSame_33 (by omega)
      · skip
        refine lv_aload_n hx hb dX5_firstSame_7 rfl (lv_at hl 1 rfl) ?_
        refine lv_aload_n hx hb dX5_firstSame_8 rfl (lv_at hl 1 rfl) ?_
        refine lv_iload_n hx hb dX5_firstSame_9 rfl (lv_at hl 2 rfl) ?_
        have hxz_2 : -2147483648 ≤ z 12 ∧ z 12 < 2147483648 := hok.2.2.2.1 12
        have hxG9 : xG N (z 12) G Eo := ⟨by omega, by omega, by omega, fun e9 h9 => hN4 e9 (by omega)⟩
        have hP : va_P (dC, dI) kxCl (xU cI cB cE o r n z F G (Eo 0 0) ++ eP cI N Eo Er En Ez EF) s.heap := hP
        refine xk_pure (va_runV (As := [.int (iz p0)]) (rest := [.ref (o 15)]) ⟨hx, hb, hml, hown, hts⟩ (y_known l dC dI cI cB cE o r n z F G N Eo Er En Ez EF p0 s.heap.size hok hxG9 hPE (by omega) (by omega)) (cwV 1 hts (kx_gV kq_18_xrows_8 kq_18_xrows_9 kq_18_xrows_10 kq_18_xrows_4 kq_18_xrows_11 rfl) rfl rfl rfl (by decide +kernel) ⟨Nat.le_of_ble_eq_true rfl, Nat.le_of_ble_eq_true rfl⟩) ⟨pPre_blind, va_recv hK hP (ci := 5) (q0 := 0) rfl rfl, pPre_give hP hK hG⟩ rfl rfl hl.1 rfl (lv_room (Nat.le_of_ble_eq_true rfl)) dX5_firstSame_10 ⟨Nat.le_of_ble_eq_true rfl, Nat.le_of_ble_eq_true rfl⟩) hS (fun z_4 locs hq_3 hS => ?_)
        refine W.eq (g2 := F0 m 13 ls [.ref z_4.toNat, .ref (o 15)]) rfl ?_
        try dsimp only at hq_3
        obtain ⟨j5, hj5, ez5, hje5⟩ := hq_3
        subst ez5
        refine W.eq (g2 := F0 m 13 ls [.ref (Eo j5 0), .ref (o 15)]) rfl ?_
        refine lv_aload_n hx hb dX5_firstSame_13 rfl (lv_at hl 1 rfl) ?_
        refine lv_iload_n hx hb dX5_firstSame_14 rfl (lv_at hl 0 rfl) ?_
        have hxG9 : xG N (z 12) G Eo := ⟨by omega, by omega, by omega, fun e9 h9 => hN4 e9 (by omega)⟩
        have hP : va_P (dC, dI) kxCl (xU cI cB cE o r n z F G (Eo 0 0) ++ eP cI N Eo Er En Ez EF) s.heap := hP
        refine xk_pure (va_runV (As := [.int (iz k)]) (rest := [.ref (Eo j5 0), .ref (o 15)]) ⟨hx, hb, hml, hown, hts⟩ (y_known l dC dI cI cB cE o r n z F G N Eo Er En Ez EF k s.heap.size hok hxG9 hPE (by omega) (by omega)) (cwV 1 hts (kx_gV kq_18_xrows_8 kq_18_xrows_9 kq_18_xrows_10 kq_18_xrows_4 kq_18_xrows_11 rfl) rfl rfl rfl (by decide +kernel) ⟨Nat.le_of_ble_eq_true rfl, Nat.le_of_ble_eq_true rfl⟩) ⟨pPre_blind, va_recv hK hP (ci := 5) (q0 := 0) rfl rfl, pPre_give hP hK hG⟩ rfl rfl hl.1 rfl (lv_room (Nat.le_of_ble_eq_true rfl)) dX5_firstSame_15 ⟨Nat.le_of_ble_eq_true rfl, Nat.le_of_ble_eq_true rfl⟩) hS (fun z_7 locs hq_6 hS => ?_)
        refine W.eq (g2 := F0 m 18 ls [.ref z_7.toNat, .ref (Eo j5 0), .ref (o 15)]) rfl ?_
        try dsimp only at hq_6
        obtain ⟨j8, hj8, ez8, hje8⟩ := hq_6
        subst ez8
        refine W.eq (g2 := F0 m 18 ls [.ref (Eo j8 0), .ref (Eo j5 0), .ref (o 15)]) rfl ?_
        have hxG9 : xG N (z 12) G Eo := ⟨by omega, by omega, by omega, fun e9 h9 => hN4 e9 (by omega)⟩
        have hP : va_P (dC, dI) kxCl (xU cI cB cE o r n z F G (Eo 0 0) ++ eP cI N Eo Er En Ez EF) s.heap := hP
        refine xk_pure (va_runV (As := [.ref (Eo j5 0), .ref (Eo j8 0)]) (rest := []) ⟨hx, hb, hml, hown, hts⟩ (y_isSame l dC dI cI cB cE o r n z F G N Eo Er En Ez EF j5 j8 s.heap.size hok hxG9 hPE hj5 hj8) (cwV 2 hts (kx_gV kq_18_xrows_21 kq_18_xrows_22 kq_18_xrows_23 kq_18_xrows_4 kq_18_xrows_24 rfl) rfl rfl rfl (by decide +kernel) ⟨Nat.le_of_ble_eq_true rfl, Nat.le_of_ble_eq_true rfl⟩) ⟨pPre_blind, va_recv hK hP (ci := 5) (q0 := 0) rfl rfl, pPre_give hP hK hG⟩ rfl rfl hl.1 rfl (lv_room (Nat.le_of_ble_eq_true rfl)) dX5_firstSame_18 ⟨Nat.le_of_ble_eq_true rfl, Nat.le_of_ble_eq_true rfl⟩) hS (fun z_10 locs hq_9 hS => ?_)
        refine W.eq (g2 := F0 m 21 ls [.int (iz z_10)]) rfl ?_
        try dsimp only at hq_9
        refine ki_if_eq (tgt := 26) hx hb dX5_firstSame_21 (by decide) (by omega) (by omega) (fun c_11 => ?_) (fun c_11 => ?_)
        · skip
          refine lv_iinc (v := iz (k + 1)) (lv' := [(2, .int (iz (k + 1))), (0, .ref (o 15)), (1, .int (iz p0))]) hx hb dX5_firstSame_26 hl (k := 0) rfl (iz_add k 1) (by decide) rfl (fun ls hl => ?_)
          refine lv_goto (tgt := 2) hx hb dX5_firstSame_29 (by decide) ?_
          exact ih2 (k + 1) (by omega) (by omega) _ hS ls (lv_sub hl [0, 1, 2] rfl)
        · skip
          refine lv_iload_n hx hb dX5_firstSame_24 rfl (lv_at hl 0 rfl) ?_
          rw [← hQe]
          exact xp_iret (z := k) hx hb hr rfl hlocks rfl hS.2.2 dX5_firstSame_25 (by omega)
  exact lp2 _ 0 (by omega) (Nat.lt_succ_self _) _ hS ls (lv_sub hl [0, 1, 2] rfl)
set_option maxHeartbeats 4000000 in
set_option maxRecDepth 100000 in
theorem y_forgetRows (l : Launch) (dC : Nat → ClassId) (dI : Nat → Nat → Nat) (cI cB cE : ClassId) (o r n : Nat → Nat) (z : Nat → Int) (F : Nat → Int → Int) (G : Nat → Option Nat) (N : Nat) (Eo Er En : Nat → Nat → Nat) (Ez : Nat → Nat → Int) (EF : Nat → Nat → Int → Int) (sz : Nat) (hok : xOk n z F) (hxG : xG N (z 12) G Eo) (hPE : eA N En Ez EF) : Met l yX5_forgetRows [.code yX5_forgetRows cX5_forgetRows 1 none] ({ frames := 0, cells := 0, slots := 0, locals := 0 }) (va_Pc [.ref (o 15)] (kx_Pre dC dI (xU cI cB cE o r n z F G (Eo 0 0) ++ eP cI N Eo Er En Ez EF) (xT cI cB cE) sz)) (xQ (fun _ : (Nat → Nat) × (Nat → Nat) × (Nat → Int) × (Nat → Int → Int) × (Nat → Nat → Nat) × (Nat → Nat → Nat) × (Nat → Nat → Int) × (Nat → Nat → Int → Int) => none) (fun (u : (Nat → Nat) × (Nat → Nat) × (Nat → Int) × (Nat → Int → Int) × (Nat → Nat → Nat) × (Nat → Nat → Nat) × (Nat → Nat → Int) × (Nat → Nat → Int → Int)) (dn dm : Nat) => match u with | (r', n', z', F', Er', En', Ez', EF') => xR [15, 16] [] [] [] N z F En Ez EF n' z' F' En' Ez' EF' ∧ (dn + xg n' ≤ xg n + 0 ∧ dm + xp n' ≤ xp n + 0) ∧ (r = r' ∧ n = n' ∧ F = F' ∧ Er = Er' ∧ En = En' ∧ Ez = Ez' ∧ EF = EF' ∧ va_up (va_up z 15 0) 16 (-1) = z')) (fun u t => kx_At dC dI (va_A (xU cI cB cE o r n z F G (Eo 0 0) ++ eP cI N Eo Er En Ez EF) sz) ((fun u : (Nat → Nat) × (Nat → Nat) × (Nat → Int) × (Nat → Int → Int) × (Nat → Nat → Nat) × (Nat → Nat → Nat) × (Nat → Nat → Int) × (Nat → Nat → Int → Int) => match u with | (r', n', z', F', Er', En', Ez', EF') => (xU cI cB cE o r' n' z' F' G (Eo 0 0) ++ eP cI N Eo Er' En' Ez' EF')) u) (xT cI cB cE) t) (va_A (xU cI cB cE o r n z F G (Eo 0 0) ++ eP cI N Eo Er En Ez EF) sz)) 0 0 (va_A (xU cI cB cE o r n z F G (Eo 0 0) ++ eP cI N Eo Er En Ez EF) sz) := by
  refine Met.ofW (cc := cX5_forgetRows) (maxL := 1) (ret := none) (by decide) rfl ?_
  intro p e s m args below meth c s₁ B hml hv
  obtain ⟨rfl, hsz, hP, hK, hD0, hG, hZ⟩ := hv
  have hx := B.exec
  have hb := B.bytes
  have hr := B.returns
  have hts := kx_hts (a := ([.ref (o 15)] : List Value).toArray) hG
  have hown : s.vm.findClass RX5 = some m.cls := findClass_of_methodNamed B.named
  have hlocks := B.notSynchronized
  subst hsz
  have hD := hD0.self (sz := s.heap.size)
  generalize hAe : va_A (xU cI cB cE o r n z F G (Eo 0 0) ++ eP cI N Eo Er En Ez EF) s.heap.size = A at hD hZ ⊢
  have hA : ∀ q : Nat, s.heap.size ≤ q → A q := fun q h => by rw [← hAe]; exact Or.inr h
  have hS : va_S A s.heap s.heap [] := va_S.rf
  have hl := lv_entry ([.ref (o 15)]) (n := 1) (Nat.le_of_ble_eq_true rfl)
  rw [lg_entry_eq]
  generalize (lg_sl ([.ref (o 15)]) ++ List.replicate (1 - (lg_sl ([.ref (o 15)])).length) Slot.unset).toArray = ls at hl ⊢
  obtain ⟨hN1, hN2, hN3, hN4⟩ := hxG
  have hef : eFr [] [] En Ez EF En Ez EF := eFr.rf
  have hfr : xFr [15, 16] [] z F z F := xFr.rf
  have hxgl := xg_le n
  have hxpl := xp_le n
  have hl : lv_has ls 1 [(0, .ref (o 15))] := hl
  refine lv_aload_n hx hb dX5_forgetRows_0 rfl (lv_at hl 0 rfl) ?_
  refine lv_iconst (v := iz 0) hx hb dX5_forgetRows_1 (by decide) ?_
  refine va_put (D := (dC, dI)) (ci := 5) (v := .int (iz 0)) (ty := .boolean) (C := RX5) (T := TX5) (N := 16) hx hb hts kt_X5 tyX5 tyX5_ok nmX5 hown hK hP hD hS 0 rfl rfl 7 (by decide) (kx_word hG kq_18_xrows_25 rfl) (fun _ h9 => h9) rfl (by decide +kernel) (mz_bool (Or.inl rfl)).1 (mz_bool (Or.inl rfl)).2 (Nat.le_of_ble_eq_true rfl) dX5_forgetRows_2 (fun H locs hP hD hS => ?_)
  have hP : va_P (dC, dI) kxCl ((xU cI cB cE o r n (va_up z 15 0) F G (Eo 0 0)) ++ (eP cI N Eo Er En Ez EF)) H := hP
  have hD : va_D A ((xU cI cB cE o r n (va_up z 15 0) F G (Eo 0 0)) ++ (eP cI N Eo Er En Ez EF)) := hD
  refine lv_aload_n hx hb dX5_forgetRows_5 rfl (lv_at hl 0 rfl) ?_
  refine lv_iconst (v := iz (-1)) hx hb dX5_forgetRows_6 (by decide) ?_
  refine va_put (D := (dC, dI)) (ci := 5) (v := .int (iz (-1))) (ty := .int) (C := RX5) (T := TX5) (N := 16) hx hb hts kt_X5 tyX5 tyX5_ok nmX5 hown hK hP hD hS 0 rfl rfl 10 (by decide) (kx_word hG kq_18_xrows_26 rfl) (fun _ h9 => h9) rfl (by decide +kernel) rfl rfl (Nat.le_of_ble_eq_true rfl) dX5_forgetRows_7 (fun H locs hP hD hS => ?_)
  have hP : va_P (dC, dI) kxCl ((xU cI cB cE o r n (va_up (va_up z 15 0) 16 (-1)) F G (Eo 0 0)) ++ (eP cI N Eo Er En Ez EF)) H := hP
  have hD : va_D A ((xU cI cB cE o r n (va_up (va_up z 15 0) 16 (-1)) F G (Eo 0 0)) ++ (eP cI N Eo Er En Ez EF)) := hD
  have hxz_1 : -2147483648 ≤ z 15 ∧ z 15 < 2147483648 := hok.2.2.2.1 15
  have hxb_2 : z 15 = 0 ∨ z 15 = 1 := hok.2.2.2.2 15 (by decide)
  have hxz_3 : -2147483648 ≤ z 16 ∧ z 16 < 2147483648 := hok.2.2.2.1 16
  have hok4 : xOk n (va_up (va_up z 15 0) 16 (-1)) F := ((hok.s 15 (by decide) (show -2147483648 ≤ 0 ∧ 0 < 2147483648 by omega) (by omega)).s 16 (by decide) (show -2147483648 ≤ (-1) ∧ (-1) < 2147483648 by omega) (by omega))
  have hfr4 : xFr [15, 16] [] z F (va_up (va_up z 15 0) 16 (-1)) F := ((hfr.uz 15 (by decide) _).uz 16 (by decide) _)
  exact xk_vret (ov := (fun _ : (Nat → Nat) × (Nat → Nat) × (Nat → Int) × (Nat → Int → Int) × (Nat → Nat → Nat) × (Nat → Nat → Nat) × (Nat → Nat → Int) × (Nat → Nat → Int → Int) => none)) (post := (fun (u : (Nat → Nat) × (Nat → Nat) × (Nat → Int) × (Nat → Int → Int) × (Nat → Nat → Nat) × (Nat → Nat → Nat) × (Nat → Nat → Int) × (Nat → Nat → Int → Int)) (dn dm : Nat) => match u with | (r', n', z', F', Er', En', Ez', EF') => xR [15, 16] [] [] [] N z F En Ez EF n' z' F' En' Ez' EF' ∧ (dn + xg n' ≤ xg n + 0 ∧ dm + xp n' ≤ xp n + 0) ∧ (r = r' ∧ n = n' ∧ F = F' ∧ Er = Er' ∧ En = En' ∧ Ez = Ez' ∧ EF = EF' ∧ va_up (va_up z 15 0) 16 (-1) = z'))) (ws := (fun u : (Nat → Nat) × (Nat → Nat) × (Nat → Int) × (Nat → Int → Int) × (Nat → Nat → Nat) × (Nat → Nat → Nat) × (Nat → Nat → Int) × (Nat → Nat → Int → Int) => match u with | (r', n', z', F', Er', En', Ez', EF') => (xU cI cB cE o r' n' z' F' G (Eo 0 0) ++ eP cI N Eo Er' En' Ez' EF'))) (tys := xT cI cB cE) (r, n, (va_up (va_up z 15 0) 16 (-1)), F, Er, En, Ez, EF) hx hb hr hlocks rfl hP hD hK hS dX5_forgetRows_10 (fun dn dm hdn hdm => ⟨⟨hok4, hfr4, hPE, hef⟩, ⟨by omega, by omega⟩, ⟨rfl, rfl, rfl, rfl, rfl, rfl, rfl, rfl⟩⟩) (by omega) (by omega)
set_option maxHeartbeats 4000000 in
set_option maxRecDepth 100000 in
theorem y_groupOf (l : Launch) (dC : Nat → ClassId) (dI : Nat → Nat → Nat) (cI cB cE : ClassId) (o r n : Nat → Nat) (z : Nat → Int) (F : Nat → Int → Int) (G : Nat → Option Nat) (N : Nat) (Eo Er En : Nat → Nat → Nat) (Ez : Nat → Nat → Int) (EF : Nat → Nat → Int → Int) (p0 : Int) (sz : Nat) (hok : xOk n z F) (hxG : xG N (z 12) G Eo) (hPE : eA N En Ez EF) (hp01 : -2147483648 ≤ p0) (hp02 : p0 < 2147483648) : Met l yX5_groupOf [.code yX5_groupOf cX5_groupOf 4 (some .int)] ({ frames := 3, cells := 0, slots := 0, locals := 64 }) (va_Pc [.ref (o 15), .int (iz p0)] (pPre dC dI (xU cI cB cE o r n z F G (Eo 0 0) ++ eP cI N Eo Er En Ez EF) (xT cI cB cE) sz)) (pQ (fun z => some (.int (iz z))) (fun (q : Int) => -2147483648 ≤ q ∧ q < 2147483648)) 0 0 (fun _ => False) := by
  refine Met.ofW (cc := cX5_groupOf) (maxL := 4) (ret := (some .int)) (by decide) rfl ?_
  intro p e s m args below meth c s₁ B hml hv
  obtain ⟨rfl, hsz, hP, hK, hG⟩ := hv
  have hx := B.exec
  have hb := B.bytes
  have hr := B.returns
  have hts := kx_hts (a := ([.ref (o 15), .int (iz p0)] : List Value).toArray) hG
  have hown : s.vm.findClass RX5 = some m.cls := findClass_of_methodNamed B.named
  have hlocks := B.notSynchronized
  subst hsz
  have hS : va_S (fun _ => False) s.heap s.heap [] := va_S.rf
  have hl := lv_entry ([.ref (o 15), .int (iz p0)]) (n := 4) (Nat.le_of_ble_eq_true rfl)
  rw [lg_entry_eq]
  generalize (lg_sl ([.ref (o 15), .int (iz p0)]) ++ List.replicate (4 - (lg_sl ([.ref (o 15), .int (iz p0)])).length) Slot.unset).toArray = ls at hl ⊢
  obtain ⟨hN1, hN2, hN3, hN4⟩ := hxG
  have hl : lv_has ls 4 [(0, .ref (o 15)), (1, .int (iz p0))] := hl
  generalize hQe : MQ below (pQ (fun z => some (.int (iz z))) (fun (q : Int) => -2147483648 ≤ q ∧ q < 2147483648)) ([.ref (o 15), .int (iz p0)] : List Value).toArray s 0 0 (fun _ => False) = QQ
  refine lv_iload_n hx hb dX5_groupOf_0 rfl (lv_at hl 1 rfl) ?_
  refine lv_istore_n (lv' := [(2, .int (iz p0)), (0, .ref (o 15)), (1, .int (iz p0))]) hx hb dX5_groupOf_1 rfl hl (by decide) rfl (fun ls hl => ?_)
  refine lv_iconst (v := iz 1) hx hb dX5_groupOf_2 (by decide) ?_
  refine lv_istore_n (lv' := [(3, .int (iz 1)), (2, .int (iz p0)), (0, .ref (o 15)), (1, .int (iz p0))]) hx hb dX5_groupOf_3 rfl hl (by decide) rfl (fun ls hl => ?_)
  have lp4 : ∀ (n0 : Nat) (tp : Int) (k : Int), ((-2147483648 ≤ tp ∧ tp < 2147483648) ∧ (1 ≤ k ∧ k ≤ 3)) → (3 - k).toNat < n0 → ∀ (locs : List Loc), va_S (fun _ => False) s.heap s.heap locs → ∀ ls : Array Slot, lv_has ls 4 [(3, .int (iz k)), (2, .int (iz tp)), (0, .ref (o 15)), (1, .int (iz p0))] → W p l e (headSpec [.code yX5_groupOf cX5_groupOf 4 (some .int)] ({ frames := 3, cells := 0, slots := 0, locals := 64 })).room s m ([.ref (o 15), .int (iz p0)] : List Value).toArray below meth c s.heap locs 0 0 QQ (F0 m 4 ls []) := by
    intro n0
    induction n0 with
    | zero => intro tp k hinv hm0; exact absurd hm0 (Nat.not_lt_zero _)
    | succ n0 ih4 =>
      intro tp k hinv hm0 locs hS ls hl
      obtain ⟨htp, hk⟩ := hinv
      refine lv_iload_n hx hb dX5_groupOf_4 rfl (lv_at hl 0 rfl) ?_
      refine lv_iconst (v := iz 3) hx hb dX5_groupOf_5 (by decide) ?_
      refine ki_icmp_ge (tgt := 39) hx hb dX5_groupOf_6 (by decide) (by omega) (by omega) (by omega) (by omega) (fun c_1 => ?_) (fun c_1 => ?_)
      · skip
        refine lv_aload_n hx hb dX5_groupOf_39 rfl (lv_at hl 2 rfl) ?_
        refine lv_iload_n hx hb dX5_groupOf_40 rfl (lv_at hl 1 rfl) ?_
        have hxz_2 : -2147483648 ≤ z 12 ∧ z 12 < 2147483648 := hok.2.2.2.1 12
        have hxG9 : xG N (z 12) G Eo := ⟨by omega, by omega, by omega, fun e9 h9 => hN4 e9 (by omega)⟩
        have hP : va_P (dC, dI) kxCl (xU cI cB cE o r n z F G (Eo 0 0) ++ eP cI N Eo Er En Ez EF) s.heap := hP
        refine xk_pure (va_runV (As := [.int (iz tp)]) (rest := []) ⟨hx, hb, hml, hown, hts⟩ (y_known l dC dI cI cB cE o r n z F G N Eo Er En Ez EF tp s.heap.size hok hxG9 hPE (by omega) (by omega)) (cwV 1 hts (kx_gV kq_18_xrows_8 kq_18_xrows_9 kq_18_xrows_10 kq_18_xrows_4 kq_18_xrows_11 rfl) rfl rfl rfl (by decide +kernel) ⟨Nat.le_of_ble_eq_true rfl, Nat.le_of_ble_eq_true rfl⟩) ⟨pPre_blind, va_recv hK hP (ci := 5) (q0 := 0) rfl rfl, pPre_give hP hK hG⟩ rfl rfl hl.1 rfl (lv_room (Nat.le_of_ble_eq_true rfl)) dX5_groupOf_41 ⟨Nat.le_of_ble_eq_true rfl, Nat.le_of_ble_eq_true rfl⟩) hS (fun z_4 locs hq_3 hS => ?_)
        refine W.eq (g2 := F0 m 44 ls [.ref z_4.toNat]) rfl ?_
        try dsimp only at hq_3
        obtain ⟨j5, hj5, ez5, hje5⟩ := hq_3
        subst ez5
        refine W.eq (g2 := F0 m 44 ls [.ref (Eo j5 0)]) rfl ?_
        have hP := eP_foc hj5 hP
        have hPc := hP.sub (ws' := (eU cI (Eo j5) (Er j5) (En j5) (Ez j5) (EF j5))) [29, 30, 31, 32, 33, 34, 35, 36, 37, 38, 39, 40, 41, 42, 43, 44] rfl
        refine xk_pure (va_runV (As := []) (rest := []) ⟨hx, hb, hml, hown, hts⟩ (x_group l dC dI cI cB cE (Eo j5) (Er j5) (En j5) (Ez j5) (EF j5)  s.heap.size (hPE j5 hj5)) (cwV 0 hts (kx_gV kq_18_xrows_27 kq_18_xrows_28 kq_18_xrows_29 kq_16_xentry_2 kq_18_xrows_30 rfl) rfl rfl rfl (by decide +kernel) ⟨Nat.le_of_ble_eq_true rfl, Nat.le_of_ble_eq_true rfl⟩) ⟨pPre_blind, va_recv hK hPc (ci := 0) (q0 := 0) rfl rfl, pPre_give hPc hK hG⟩ rfl rfl hl.1 rfl (lv_room (Nat.le_of_ble_eq_true rfl)) dX5_groupOf_44 ⟨Nat.le_of_ble_eq_true rfl, Nat.le_of_ble_eq_true rfl⟩) hS (fun z_7 locs hq_6 hS => ?_)
        refine W.eq (g2 := F0 m 47 ls [.int (iz z_7)]) rfl ?_
        try dsimp only at hq_6
        rw [← hQe]
        exact xp_iret (z := z_7) hx hb hr rfl hlocks rfl hS.2.2 dX5_groupOf_47 (by omega)
      · skip
        refine lv_aload_n hx hb dX5_groupOf_9 rfl (lv_at hl 2 rfl) ?_
        refine lv_iload_n hx hb dX5_groupOf_10 rfl (lv_at hl 1 rfl) ?_
        have hxz_8 : -2147483648 ≤ z 12 ∧ z 12 < 2147483648 := hok.2.2.2.1 12
        have hxG9 : xG N (z 12) G Eo := ⟨by omega, by omega, by omega, fun e9 h9 => hN4 e9 (by omega)⟩
        have hP : va_P (dC, dI) kxCl (xU cI cB cE o r n z F G (Eo 0 0) ++ eP cI N Eo Er En Ez EF) s.heap := hP
        refine xk_pure (va_runV (As := [.int (iz tp)]) (rest := []) ⟨hx, hb, hml, hown, hts⟩ (y_known l dC dI cI cB cE o r n z F G N Eo Er En Ez EF tp s.heap.size hok hxG9 hPE (by omega) (by omega)) (cwV 1 hts (kx_gV kq_18_xrows_8 kq_18_xrows_9 kq_18_xrows_10 kq_18_xrows_4 kq_18_xrows_11 rfl) rfl rfl rfl (by decide +kernel) ⟨Nat.le_of_ble_eq_true rfl, Nat.le_of_ble_eq_true rfl⟩) ⟨pPre_blind, va_recv hK hP (ci := 5) (q0 := 0) rfl rfl, pPre_give hP hK hG⟩ rfl rfl hl.1 rfl (lv_room (Nat.le_of_ble_eq_true rfl)) dX5_groupOf_11 ⟨Nat.le_of_ble_eq_true rfl, Nat.le_of_ble_eq_true rfl⟩) hS (fun z_10 locs hq_9 hS => ?_)
        refine W.eq (g2 := F0 m 14 ls [.ref z_10.toNat]) rfl ?_
        try dsimp only at hq_9
        obtain ⟨j11, hj11, ez11, hje11⟩ := hq_9
        subst ez11
        refine W.eq (g2 := F0 m 14 ls [.ref (Eo j11 0)]) rfl ?_
        have hP := eP_foc hj11 hP
        have hez_12 : -2147483648 ≤ Ez j11 7 ∧ Ez j11 7 < 2147483648 := (hPE j11 hj11).2.2 7
        refine va_getN (D := (dC, dI)) (ci := 0) (v := .int (iz (Ez j11 7))) (C := RX0) (T := TX0) (N := 12) hx hb hts kt_X0 hown hK hP 29 rfl rfl 0 (by decide) (va_Nw.use rfl (kx_nf hG kq_18_xrows_12)) (fun _ h9 => h9) rfl dX5_groupOf_14 ?_
        refine ki_if_le (tgt := 39) hx hb dX5_groupOf_17 (by decide) (by omega) (by omega) (fun c_13 => ?_) (fun c_13 => ?_)
        · skip
          refine lv_aload_n hx hb dX5_groupOf_39 rfl (lv_at hl 2 rfl) ?_
          refine lv_iload_n hx hb dX5_groupOf_40 rfl (lv_at hl 1 rfl) ?_
          have hP := eP_un0 hj11 hP
          have hxG9 : xG N (z 12) G Eo := ⟨by omega, by omega, by omega, fun e9 h9 => hN4 e9 (by omega)⟩
          have hP : va_P (dC, dI) kxCl (xU cI cB cE o r n z F G (Eo 0 0) ++ eP cI N Eo Er En Ez EF) s.heap := hP
          refine xk_pure (va_runV (As := [.int (iz tp)]) (rest := []) ⟨hx, hb, hml, hown, hts⟩ (y_known l dC dI cI cB cE o r n z F G N Eo Er En Ez EF tp s.heap.size hok hxG9 hPE (by omega) (by omega)) (cwV 1 hts (kx_gV kq_18_xrows_8 kq_18_xrows_9 kq_18_xrows_10 kq_18_xrows_4 kq_18_xrows_11 rfl) rfl rfl rfl (by decide +kernel) ⟨Nat.le_of_ble_eq_true rfl, Nat.le_of_ble_eq_true rfl⟩) ⟨pPre_blind, va_recv hK hP (ci := 5) (q0 := 0) rfl rfl, pPre_give hP hK hG⟩ rfl rfl hl.1 rfl (lv_room (Nat.le_of_ble_eq_true rfl)) dX5_groupOf_41 ⟨Nat.le_of_ble_eq_true rfl, Nat.le_of_ble_eq_true rfl⟩) hS (fun z_15 locs hq_14 hS => ?_)
          refine W.eq (g2 := F0 m 44 ls [.ref z_15.toNat]) rfl ?_
          try dsimp only at hq_14
          obtain ⟨j16, hj16, ez16, hje16⟩ := hq_14
          subst ez16
          refine W.eq (g2 := F0 m 44 ls [.ref (Eo j16 0)]) rfl ?_
          have hP := eP_foc hj16 hP
          have hPc := hP.sub (ws' := (eU cI (Eo j16) (Er j16) (En j16) (Ez j16) (EF j16))) [29, 30, 31, 32, 33, 34, 35, 36, 37, 38, 39, 40, 41, 42, 43, 44] rfl
          refine xk_pure (va_runV (As := []) (rest := []) ⟨hx, hb, hml, hown, hts⟩ (x_group l dC dI cI cB cE (Eo j16) (Er j16) (En j16) (Ez j16) (EF j16)  s.heap.size (hPE j16 hj16)) (cwV 0 hts (kx_gV kq_18_xrows_27 kq_18_xrows_28 kq_18_xrows_29 kq_16_xentry_2 kq_18_xrows_30 rfl) rfl rfl rfl (by decide +kernel) ⟨Nat.le_of_ble_eq_true rfl, Nat.le_of_ble_eq_true rfl⟩) ⟨pPre_blind, va_recv hK hPc (ci := 0) (q0 := 0) rfl rfl, pPre_give hPc hK hG⟩ rfl rfl hl.1 rfl (lv_room (Nat.le_of_ble_eq_true rfl)) dX5_groupOf_44 ⟨Nat.le_of_ble_eq_true rfl, Nat.le_of_ble_eq_true rfl⟩) hS (fun z_18 locs hq_17 hS => ?_)
          refine W.eq (g2 := F0 m 47 ls [.int (iz z_18)]) rfl ?_
          try dsimp only at hq_17
          rw [← hQe]
          exact xp_iret (z := z_18) hx hb hr rfl hlocks rfl hS.2.2 dX5_groupOf_47 (by omega)
        · skip
          refine lv_aload_n hx hb dX5_groupOf_20 rfl (lv_at hl 2 rfl) ?_
          refine lv_aload_n hx hb dX5_groupOf_21 rfl (lv_at hl 2 rfl) ?_
          refine lv_iload_n hx hb dX5_groupOf_22 rfl (lv_at hl 1 rfl) ?_
          have hP := eP_un0 hj11 hP
          have hxG9 : xG N (z 12) G Eo := ⟨by omega, by omega, by omega, fun e9 h9 => hN4 e9 (by omega)⟩
          have hP : va_P (dC, dI) kxCl (xU cI cB cE o r n z F G (Eo 0 0) ++ eP cI N Eo Er En Ez EF) s.heap := hP
          refine xk_pure (va_runV (As := [.int (iz tp)]) (rest := [.ref (o 15)]) ⟨hx, hb, hml, hown, hts⟩ (y_known l dC dI cI cB cE o r n z F G N Eo Er En Ez EF tp s.heap.size hok hxG9 hPE (by omega) (by omega)) (cwV 1 hts (kx_gV kq_18_xrows_8 kq_18_xrows_9 kq_18_xrows_10 kq_18_xrows_4 kq_18_xrows_11 rfl) rfl rfl rfl (by decide +kernel) ⟨Nat.le_of_ble_eq_true rfl, Nat.le_of_ble_eq_true rfl⟩) ⟨pPre_blind, va_recv hK hP (ci := 5) (q0 := 0) rfl rfl, pPre_give hP hK hG⟩ rfl rfl hl.1 rfl (lv_room (Nat.le_of_ble_eq_true rfl)) dX5_groupOf_23 ⟨Nat.le_of_ble_eq_true rfl, Nat.le_of_ble_eq_true rfl⟩) hS (fun z_20 locs hq_19 hS => ?_)
          refine W.eq (g2 := F0 m 26 ls [.ref z_20.toNat, .ref (o 15)]) rfl ?_
          try dsimp only at hq_19
          obtain ⟨j21, hj21, ez21, hje21⟩ := hq_19
          subst ez21
          refine W.eq (g2 := F0 m 26 ls [.ref (Eo j21 0), .ref (o 15)]) rfl ?_
          have hP := eP_foc hj21 hP
          have hez_22 : -2147483648 ≤ Ez j21 8 ∧ Ez j21 8 < 2147483648 := (hPE j21 hj21).2.2 8
          refine va_getN (D := (dC, dI)) (ci := 0) (v := .int (iz (Ez j21 8))) (C := RX0) (T := TX0) (N := 12) hx hb hts kt_X0 hown hK hP 29 rfl rfl 1 (by decide) (va_Nw.use rfl (kx_nf hG kq_18_xrows_14)) (fun _ h9 => h9) rfl dX5_groupOf_26 ?_
          have hP := eP_un0 hj21 hP
          have hxG9 : xG N (z 12) G Eo := ⟨by omega, by omega, by omega, fun e9 h9 => hN4 e9 (by omega)⟩
          have hP : va_P (dC, dI) kxCl (xU cI cB cE o r n z F G (Eo 0 0) ++ eP cI N Eo Er En Ez EF) s.heap := hP
          refine xk_pure (va_runV (As := [.int (iz (Ez j21 8))]) (rest := []) ⟨hx, hb, hml, hown, hts⟩ (y_firstOf l dC dI cI cB cE o r n z F G N Eo Er En Ez EF (Ez j21 8) s.heap.size hok hxG9 hPE (by omega) (by omega)) (cwV 1 hts (kx_gV kq_18_xrows_15 kq_18_xrows_16 kq_18_xrows_17 kq_18_xrows_4 kq_18_xrows_18 rfl) rfl rfl rfl (by decide +kernel) ⟨Nat.le_of_ble_eq_true rfl, Nat.le_of_ble_eq_true rfl⟩) ⟨pPre_blind, va_recv hK hP (ci := 5) (q0 := 0) rfl rfl, pPre_give hP hK hG⟩ rfl rfl hl.1 rfl (lv_room (Nat.le_of_ble_eq_true rfl)) dX5_groupOf_29 ⟨Nat.le_of_ble_eq_true rfl, Nat.le_of_ble_eq_true rfl⟩) hS (fun z_24 locs hq_23 hS => ?_)
          refine W.eq (g2 := F0 m 32 ls [.int (iz z_24)]) rfl ?_
          try dsimp only at hq_23
          refine lv_istore_n (lv' := [(2, .int (iz z_24)), (3, .int (iz k)), (0, .ref (o 15)), (1, .int (iz p0))]) hx hb dX5_groupOf_32 rfl hl (by decide) rfl (fun ls hl => ?_)
          refine lv_iinc (v := iz (k + 1)) (lv' := [(3, .int (iz (k + 1))), (2, .int (iz z_24)), (0, .ref (o 15)), (1, .int (iz p0))]) hx hb dX5_groupOf_33 hl (k := 1) rfl (iz_add k 1) (by decide) rfl (fun ls hl => ?_)
          refine lv_goto (tgt := 4) hx hb dX5_groupOf_36 (by decide) ?_
          exact ih4 z_24 (k + 1) ⟨by omega, by omega⟩ (by omega) _ hS ls (lv_sub hl [0, 1, 2, 3] rfl)
  exact lp4 _ p0 1 ⟨by omega, by omega⟩ (Nat.lt_succ_self _) _ hS ls (lv_sub hl [0, 1, 2, 3] rfl)
set_option maxHeartbeats 4000000 in
set_option maxRecDepth 100000 in
theorem y_makeKeys (l : Launch) (dC : Nat → ClassId) (dI : Nat → Nat → Nat) (cI cB cE : ClassId) (o r n : Nat → Nat) (z : Nat → Int) (F : Nat → Int → Int) (G : Nat → Option Nat) (N : Nat) (Eo Er En : Nat → Nat → Nat) (Ez : Nat → Nat → Int) (EF : Nat → Nat → Int → Int) (sz : Nat) (hok : xOk n z F) (hxG : xG N (z 12) G Eo) (hPE : eA N En Ez EF) : Met l yX5_makeKeys [.code yX5_makeKeys cX5_makeKeys 2 none] ({ frames := 5, cells := 900, slots := 55000, locals := 152 }) (va_Pc [.ref (o 15)] (kx_Pre dC dI (xU cI cB cE o r n z F G (Eo 0 0) ++ eP cI N Eo Er En Ez EF) (xT cI cB cE) sz)) (xQ (fun _ : (Nat → Nat) × (Nat → Nat) × (Nat → Int) × (Nat → Int → Int) × (Nat → Nat → Nat) × (Nat → Nat → Nat) × (Nat → Nat → Int) × (Nat → Nat → Int → Int) => none) (fun (u : (Nat → Nat) × (Nat → Nat) × (Nat → Int) × (Nat → Int → Int) × (Nat → Nat → Nat) × (Nat → Nat → Nat) × (Nat → Nat → Int) × (Nat → Nat → Int → Int)) (dn dm : Nat) => match u with | (r', n', z', F', Er', En', Ez', EF') => xR [] [] [2] [2] N z F En Ez EF n' z' F' En' Ez' EF' ∧ (dn + xg n' ≤ xg n + 720 ∧ dm + xp n' ≤ xp n + 9600) ∧ (True)) (fun u t => kx_At dC dI (va_A (xU cI cB cE o r n z F G (Eo 0 0) ++ eP cI N Eo Er En Ez EF) sz) ((fun u : (Nat → Nat) × (Nat → Nat) × (Nat → Int) × (Nat → Int → Int) × (Nat → Nat → Nat) × (Nat → Nat → Nat) × (Nat → Nat → Int) × (Nat → Nat → Int → Int) => match u with | (r', n', z', F', Er', En', Ez', EF') => (xU cI cB cE o r' n' z' F' G (Eo 0 0) ++ eP cI N Eo Er' En' Ez' EF')) u) (xT cI cB cE) t) (va_A (xU cI cB cE o r n z F G (Eo 0 0) ++ eP cI N Eo Er En Ez EF) sz)) 900 55000 (va_A (xU cI cB cE o r n z F G (Eo 0 0) ++ eP cI N Eo Er En Ez EF) sz) := by
  refine Met.ofW (cc := cX5_makeKeys) (maxL := 2) (ret := none) (by decide) rfl ?_
  intro p e s m args below meth c s₁ B hml hv
  obtain ⟨rfl, hsz, hP, hK, hD0, hG, hZ⟩ := hv
  have hx := B.exec
  have hb := B.bytes
  have hr := B.returns
  have hts := kx_hts (a := ([.ref (o 15)] : List Value).toArray) hG
  have hown : s.vm.findClass RX5 = some m.cls := findClass_of_methodNamed B.named
  have hlocks := B.notSynchronized
  subst hsz
  have hD := hD0.self (sz := s.heap.size)
  generalize hAe : va_A (xU cI cB cE o r n z F G (Eo 0 0) ++ eP cI N Eo Er En Ez EF) s.heap.size = A at hD hZ ⊢
  have hA : ∀ q : Nat, s.heap.size ≤ q → A q := fun q h => by rw [← hAe]; exact Or.inr h
  have hS : va_S A s.heap s.heap [] := va_S.rf
  have hl := lv_entry ([.ref (o 15)]) (n := 2) (Nat.le_of_ble_eq_true rfl)
  rw [lg_entry_eq]
  generalize (lg_sl ([.ref (o 15)]) ++ List.replicate (2 - (lg_sl ([.ref (o 15)])).length) Slot.unset).toArray = ls at hl ⊢
  obtain ⟨hN1, hN2, hN3, hN4⟩ := hxG
  have hef : eFr [2] [2] En Ez EF En Ez EF := eFr.rf
  have hfr : xFr [] [] z F z F := xFr.rf
  have hxgl := xg_le n
  have hxpl := xp_le n
  have hl : lv_has ls 2 [(0, .ref (o 15))] := hl
  generalize hQe : MQ below (xQ (fun _ : (Nat → Nat) × (Nat → Nat) × (Nat → Int) × (Nat → Int → Int) × (Nat → Nat → Nat) × (Nat → Nat → Nat) × (Nat → Nat → Int) × (Nat → Nat → Int → Int) => none) (fun (u : (Nat → Nat) × (Nat → Nat) × (Nat → Int) × (Nat → Int → Int) × (Nat → Nat → Nat) × (Nat → Nat → Nat) × (Nat → Nat → Int) × (Nat → Nat → Int → Int)) (dn dm : Nat) => match u with | (r', n', z', F', Er', En', Ez', EF') => xR [] [] [2] [2] N z F En Ez EF n' z' F' En' Ez' EF' ∧ (dn + xg n' ≤ xg n + 720 ∧ dm + xp n' ≤ xp n + 9600) ∧ (True)) (fun u t => kx_At dC dI A ((fun u : (Nat → Nat) × (Nat → Nat) × (Nat → Int) × (Nat → Int → Int) × (Nat → Nat → Nat) × (Nat → Nat → Nat) × (Nat → Nat → Int) × (Nat → Nat → Int → Int) => match u with | (r', n', z', F', Er', En', Ez', EF') => (xU cI cB cE o r' n' z' F' G (Eo 0 0) ++ eP cI N Eo Er' En' Ez' EF')) u) (xT cI cB cE) t) A) ([.ref (o 15)] : List Value).toArray s 900 55000 A = QQ
  refine lv_iconst (v := iz 0) hx hb dX5_makeKeys_0 (by decide) ?_
  refine lv_istore_n (lv' := [(1, .int (iz 0)), (0, .ref (o 15))]) hx hb dX5_makeKeys_1 rfl hl (by decide) rfl (fun ls hl => ?_)
  have lp2 : ∀ (n0 : Nat) (k : Int) (rL2 : Nat → Nat) (nL2 : Nat → Nat) (zL2 : Nat → Int) (FL2 : Nat → Int → Int) (ErL2 : Nat → Nat → Nat) (EnL2 : Nat → Nat → Nat) (EzL2 : Nat → Nat → Int) (EFL2 : Nat → Nat → Int → Int) (cv : Nat) (sv : Nat), ((xR [] [] [2] [2] N z F En Ez EF nL2 zL2 FL2 EnL2 EzL2 EFL2) ∧ (cv + xg nL2 ≤ xg n + (9 * k.toNat) ∧ sv + xp nL2 ≤ xp n + (120 * k.toNat)) ∧ (zL2 12 = z 12) ∧ (0 ≤ k ∧ k ≤ 79)) → (z 12 - k).toNat < n0 → ∀ (H : Heap) (locs : List Loc), va_P (dC, dI) kxCl ((xU cI cB cE o rL2 nL2 zL2 FL2 G (Eo 0 0)) ++ (eP cI N Eo ErL2 EnL2 EzL2 EFL2)) H → va_D A ((xU cI cB cE o rL2 nL2 zL2 FL2 G (Eo 0 0)) ++ (eP cI N Eo ErL2 EnL2 EzL2 EFL2)) → va_S A s.heap H locs → ∀ ls : Array Slot, lv_has ls 2 [(1, .int (iz k)), (0, .ref (o 15))] → W p l e (headSpec [.code yX5_makeKeys cX5_makeKeys 2 none] ({ frames := 5, cells := 900, slots := 55000, locals := 152 })).room s m ([.ref (o 15)] : List Value).toArray below meth c H locs cv sv QQ (F0 m 2 ls []) := by
    intro n0
    induction n0 with
    | zero => intro k rL2 nL2 zL2 FL2 ErL2 EnL2 EzL2 EFL2 cv sv hinv hm0; exact absurd hm0 (Nat.not_lt_zero _)
    | succ n0 ih2 =>
      intro k rL2 nL2 zL2 FL2 ErL2 EnL2 EzL2 EFL2 cv sv hinv hm0 H locs hP hD hS ls hl
      obtain ⟨hRLL2, hCLL2, hZLL2, hk⟩ := hinv
      refine lv_iload_n hx hb dX5_makeKeys_2 rfl (lv_at hl 0 rfl) ?_
      refine lv_aload_n hx hb dX5_makeKeys_3 rfl (lv_at hl 1 rfl) ?_
      have hxz_1 : -2147483648 ≤ zL2 12 ∧ zL2 12 < 2147483648 := hRLL2.1.2.2.2.1 12
      refine va_get (D := (dC, dI)) (ci := 5) (v := .int (iz (zL2 12))) (C := RX5) (T := TX5) (N := 16) hx hb hts kt_X5 hown hK hP 0 rfl rfl 2 (by decide) (kx_word hG kq_18_xrows_0 rfl) (fun _ h9 => h9) rfl dX5_makeKeys_4 ?_
      refine ki_icmp_ge (tgt := 32) hx hb dX5_makeKeys_7 (by decide) (by omega) (by omega) (by omega) (by omega) (fun c_2 => ?_) (fun c_2 => ?_)
      · skip
        rw [← hQe]
        exact xk_vret (ov := (fun _ : (Nat → Nat) × (Nat → Nat) × (Nat → Int) × (Nat → Int → Int) × (Nat → Nat → Nat) × (Nat → Nat → Nat) × (Nat → Nat → Int) × (Nat → Nat → Int → Int) => none)) (post := (fun (u : (Nat → Nat) × (Nat → Nat) × (Nat → Int) × (Nat → Int → Int) × (Nat → Nat → Nat) × (Nat → Nat → Nat) × (Nat → Nat → Int) × (Nat → Nat → Int → Int)) (dn dm : Nat) => match u with | (r', n', z', F', Er', En', Ez', EF') => xR [] [] [2] [2] N z F En Ez EF n' z' F' En' Ez' EF' ∧ (dn + xg n' ≤ xg n + 720 ∧ dm + xp n' ≤ xp n + 9600) ∧ (True))) (ws := (fun u : (Nat → Nat) × (Nat → Nat) × (Nat → Int) × (Nat → Int → Int) × (Nat → Nat → Nat) × (Nat → Nat → Nat) × (Nat → Nat → Int) × (Nat → Nat → Int → Int) => match u with | (r', n', z', F', Er', En', Ez', EF') => (xU cI cB cE o r' n' z' F' G (Eo 0 0) ++ eP cI N Eo Er' En' Ez' EF'))) (tys := xT cI cB cE) (rL2, nL2, zL2, FL2, ErL2, EnL2, EzL2, EFL2) hx hb hr hlocks rfl hP hD hK hS dX5_makeKeys_32 (fun dn dm hdn hdm => ⟨⟨hRLL2.1, hRLL2.2.1, hRLL2.2.2.1, hRLL2.2.2.2⟩, ⟨by omega, by omega⟩, trivial⟩) (by omega) (by omega)
      · skip
        refine lv_aload_n hx hb dX5_makeKeys_10 rfl (lv_at hl 1 rfl) ?_
        refine lv_iload_n hx hb dX5_makeKeys_11 rfl (lv_at hl 0 rfl) ?_
        have hxG9 : xG N (zL2 12) G Eo := ⟨by omega, by omega, by omega, fun e9 h9 => hN4 e9 (by omega)⟩
        have hP : va_P (dC, dI) kxCl (xU cI cB cE o rL2 nL2 zL2 FL2 G (Eo 0 0) ++ eP cI N Eo ErL2 EnL2 EzL2 EFL2) H := hP
        refine xk_pure (va_runV (As := [.int (iz k)]) (rest := []) ⟨hx, hb, hml, hown, hts⟩ (y_known l dC dI cI cB cE o rL2 nL2 zL2 FL2 G N Eo ErL2 EnL2 EzL2 EFL2 k H.size hRLL2.1 hxG9 hRLL2.2.2.1 (by omega) (by omega)) (cwV 1 hts (kx_gV kq_18_xrows_8 kq_18_xrows_9 kq_18_xrows_10 kq_18_xrows_4 kq_18_xrows_11 rfl) rfl rfl rfl (by decide +kernel) ⟨Nat.le_of_ble_eq_true rfl, Nat.le_of_ble_eq_true rfl⟩) ⟨pPre_blind, va_recv hK hP (ci := 5) (q0 := 0) rfl rfl, pPre_give hP hK hG⟩ rfl rfl hl.1 rfl (lv_room (Nat.le_of_ble_eq_true rfl)) dX5_makeKeys_12 ⟨show cv + 0 ≤ 900 from (by omega), show sv + 0 ≤ 55000 from (by omega)⟩) hS (fun z_4 locs hq_3 hS => ?_)
        refine W.eq (g2 := F0 m 15 ls [.ref z_4.toNat]) rfl ?_
        try dsimp only at hq_3
        obtain ⟨j5, hj5, ez5, hje5⟩ := hq_3
        subst ez5
        refine W.eq (g2 := F0 m 15 ls [.ref (Eo j5 0)]) rfl ?_
        refine lv_aload_n hx hb dX5_makeKeys_15 rfl (lv_at hl 1 rfl) ?_
        have hxz_6 : -2147483648 ≤ zL2 13 ∧ zL2 13 < 2147483648 := hRLL2.1.2.2.2.1 13
        have hxb_7 : zL2 13 = 0 ∨ zL2 13 = 1 := hRLL2.1.2.2.2.2 13 (by decide)
        refine va_get (D := (dC, dI)) (ci := 5) (v := .int (iz (zL2 13))) (C := RX5) (T := TX5) (N := 16) hx hb hts kt_X5 hown hK hP 0 rfl rfl 3 (by decide) (kx_word hG kq_18_xrows_31 rfl) (fun _ h9 => h9) rfl dX5_makeKeys_16 ?_
        refine lv_aload_n hx hb dX5_makeKeys_19 rfl (lv_at hl 1 rfl) ?_
        have hxz_8 : -2147483648 ≤ zL2 14 ∧ zL2 14 < 2147483648 := hRLL2.1.2.2.2.1 14
        have hxb_9 : zL2 14 = 0 ∨ zL2 14 = 1 := hRLL2.1.2.2.2.2 14 (by decide)
        refine va_get (D := (dC, dI)) (ci := 5) (v := .int (iz (zL2 14))) (C := RX5) (T := TX5) (N := 16) hx hb hts kt_X5 hown hK hP 0 rfl rfl 4 (by decide) (kx_word hG kq_18_xrows_32 rfl) (fun _ h9 => h9) rfl dX5_makeKeys_20 ?_
        have hP := eP_foc hj5 hP
        have hD := eD_foc hj5 hD
        have hPc := hP.sub (ws' := (eU cI (Eo j5) (ErL2 j5) (EnL2 j5) (EzL2 j5) (EFL2 j5))) [29, 30, 31, 32, 33, 34, 35, 36, 37, 38, 39, 40, 41, 42, 43, 44] rfl
        have hDc := hD.sub (ws' := (eU cI (Eo j5) (ErL2 j5) (EnL2 j5) (EzL2 j5) (EFL2 j5))) [29, 30, 31, 32, 33, 34, 35, 36, 37, 38, 39, 40, 41, 42, 43, 44] (by decide) rfl
        have hFc := va_free (wc := (eU cI (Eo j5) (ErL2 j5) (EnL2 j5) (EzL2 j5) (EFL2 j5))) hD hS hA [29, 30, 31, 32, 33, 34, 35, 36, 37, 38, 39, 40, 41, 42, 43, 44] rfl
        refine xk_call (va_runV (As := [.int (iz (zL2 13)), .int (iz (zL2 14))]) (rest := []) ⟨hx, hb, hml, hown, hts⟩ (x_makeKey l dC dI cI cB cE (Eo j5) (ErL2 j5) (EnL2 j5) (EzL2 j5) (EFL2 j5) (zL2 13) (zL2 14) H.size (hRLL2.2.2.1 j5 hj5) (by omega) (by omega) (by omega) (by omega)) (cwV 2 hts (kx_gV kq_18_xrows_33 kq_18_xrows_34 kq_18_xrows_35 kq_16_xentry_2 kq_18_xrows_36 rfl) rfl rfl rfl (by decide +kernel) ⟨Nat.le_of_ble_eq_true rfl, Nat.le_of_ble_eq_true rfl⟩) ⟨kx_blind, va_recv hK hPc (ci := 0) (q0 := 0) rfl rfl, kx_give (ws := []) (tys := []) hPc hDc hK hG hZ hS hFc⟩ rfl rfl hl.1 rfl (lv_room (Nat.le_of_ble_eq_true rfl)) dX5_makeKeys_23 ⟨show cv + 20 ≤ 900 from (by omega), show sv + 3500 ≤ 55000 from (by omega)⟩) hS (fun q _ h => hFc q h) hFc (fun u dn_11 dm_12 t H locs ht hvm hq_10 hB hk1 hS => ?_)
        obtain ⟨r2_13, n2_14, z2_15, F2_16⟩ := u
        obtain ⟨hP1, hK1, hD1⟩ := hB
        rw [ht] at hP1
        obtain ⟨hP, hD⟩ := xj_pool (wr := [(o 15, .inr (5, [.ref (o 16), .ref (Eo 0 0), .int (iz (zL2 12)), .int (iz (zL2 13)), .int (iz (zL2 14)), .ref (o 0), .ref (o 1), .int (iz (zL2 15)), .ref (o 13), .ref (o 14), .int (iz (zL2 16)), .ref (o 2), .ref (o 12), .ref (o 3), .ref (o 10), .ref (o 11)])), (o 16, .inl (cE, 80, .inr (.inr (.inr (.inr G))))), (o 0, .inr (1, [.int (iz 80), .ref (rL2 0), .int (iz (zL2 0))])), (rL2 0, .inl (cI, nL2 0, .inl (iA (FL2 0)))), (o 1, .inr (1, [.int (iz 80), .ref (rL2 1), .int (iz (zL2 1))])), (rL2 1, .inl (cI, nL2 1, .inl (iA (FL2 1)))), (o 2, .inr (1, [.int (iz 80), .ref (rL2 2), .int (iz (zL2 2))])), (rL2 2, .inl (cI, nL2 2, .inl (iA (FL2 2)))), (o 3, .inr (1, [.int (iz 80), .ref (rL2 3), .int (iz (zL2 3))])), (rL2 3, .inl (cI, nL2 3, .inl (iA (FL2 3)))), (o 13, .inr (3, [.ref (o 4), .ref (o 5), .ref (o 6)])), (o 4, .inr (1, [.int (iz 1600), .ref (rL2 4), .int (iz (zL2 4))])), (rL2 4, .inl (cI, nL2 4, .inl (iA (FL2 4)))), (o 5, .inr (1, [.int (iz 1600), .ref (rL2 5), .int (iz (zL2 5))])), (rL2 5, .inl (cI, nL2 5, .inl (iA (FL2 5)))), (o 6, .inr (1, [.int (iz 1600), .ref (rL2 6), .int (iz (zL2 6))])), (rL2 6, .inl (cI, nL2 6, .inl (iA (FL2 6)))), (o 14, .inr (3, [.ref (o 7), .ref (o 8), .ref (o 9)])), (o 7, .inr (1, [.int (iz 1600), .ref (rL2 7), .int (iz (zL2 7))])), (rL2 7, .inl (cI, nL2 7, .inl (iA (FL2 7)))), (o 8, .inr (1, [.int (iz 1600), .ref (rL2 8), .int (iz (zL2 8))])), (rL2 8, .inl (cI, nL2 8, .inl (iA (FL2 8)))), (o 9, .inr (1, [.int (iz 1600), .ref (rL2 9), .int (iz (zL2 9))])), (rL2 9, .inl (cI, nL2 9, .inl (iA (FL2 9)))), (o 12, .inr (4, [.int (iz (zL2 17)), .int (iz (zL2 18)), .int (iz (zL2 19)), .int (iz (zL2 20)), .int (iz (zL2 21))])), (o 10, .inr (2, [.ref (rL2 10), .int (iz (zL2 10)), .int (iz (zL2 22))])), (rL2 10, .inl (cB, nL2 10, .inl (iA (FL2 10)))), (o 11, .inr (2, [.ref (rL2 11), .int (iz (zL2 11)), .int (iz (zL2 23))])), (rL2 11, .inl (cB, nL2 11, .inl (iA (FL2 11))))]) (w1 := (eU cI (Eo j5) (va_up (ErL2 j5) 2 r2_13) (va_up (EnL2 j5) 2 n2_14) (va_up (EzL2 j5) 2 z2_15) (va_up (EFL2 j5) 2 F2_16))) (ws' := ((xU cI cB cE o rL2 nL2 zL2 FL2 G (Eo 0 0)) ++ (eU cI (Eo j5) (va_up (ErL2 j5) 2 r2_13) (va_up (EnL2 j5) 2 n2_14) (va_up (EzL2 j5) 2 z2_15) (va_up (EFL2 j5) 2 F2_16)))) hP hD [29, 30, 31, 32, 33, 34, 35, 36, 37, 38, 39, 40, 41, 42, 43, 44] [0, 1, 2, 3, 4, 5, 6, 7, 8, 9, 10, 11, 12, 13, 14, 15, 16, 17, 18, 19, 20, 21, 22, 23, 24, 25, 26, 27, 28] [0, 1, 2, 3, 4, 5, 6, 7, 8, 9, 10, 11, 12, 13, 14, 15, 16, 17, 18, 19, 20, 21, 22, 23, 24, 25, 26, 27, 28, 29, 30, 31, 32, 33, 34, 35, 36, 37, 38, 39, 40, 41, 42, 43, 44] rfl rfl (by decide) (by decide) hk1 hFc hP1 hD1 rfl (by decide)
        refine W.eq (g2 := F0 m 26 ls []) rfl ?_
        try dsimp only at hq_10
        obtain ⟨⟨ha17, hb17⟩, hc17⟩ := hq_10
        have hpg17 := psg_le 40 (EnL2 j5 2)
        have hpj17 := psj_le (L := 40) (by omega) (EnL2 j5 2)
        refine lv_iinc (v := iz (k + 1)) (lv' := [(1, .int (iz (k + 1))), (0, .ref (o 15))]) hx hb dX5_makeKeys_26 hl (k := 0) rfl (iz_add k 1) (by decide) rfl (fun ls hl => ?_)
        refine lv_goto (tgt := 2) hx hb dX5_makeKeys_29 (by decide) ?_
        have he_18 : 0 ≤ EzL2 j5 2 ∧ EzL2 j5 2 ≤ ((EnL2 j5 2 : Nat) : Int) ∧ ((EnL2 j5 2 : Nat) : Int) ≤ 40 := (hRLL2.2.2.1 j5 hj5).1 2 (by decide)
        have hP : va_P (dC, dI) kxCl (((xU cI cB cE o rL2 nL2 zL2 FL2 G (Eo 0 0)) ++ (eU cI (Eo j5) (va_up (ErL2 j5) 2 r2_13) (va_up (EnL2 j5) 2 n2_14) (va_up (EzL2 j5) 2 z2_15) (va_up (EFL2 j5) 2 F2_16))) ++ (eR cI N j5 Eo ErL2 EnL2 EzL2 EFL2)) H := hP
        have hD : va_D A (((xU cI cB cE o rL2 nL2 zL2 FL2 G (Eo 0 0)) ++ (eU cI (Eo j5) (va_up (ErL2 j5) 2 r2_13) (va_up (EnL2 j5) 2 n2_14) (va_up (EzL2 j5) 2 z2_15) (va_up (EFL2 j5) 2 F2_16))) ++ (eR cI N j5 Eo ErL2 EnL2 EzL2 EFL2)) := hD
        have hP := eP_unf hj5 hP
        have hD := eD_unf hj5 hD
        have hPE19 := hRLL2.2.2.1.up j5 ((hRLL2.2.2.1 j5 hj5).i 2 (by decide) (show 0 ≤ z2_15 ∧ z2_15 ≤ ((n2_14 : Nat) : Int) ∧ ((n2_14 : Nat) : Int) ≤ 40 by omega) hb17 (by omega))
        have hef19 := hRLL2.2.2.2.up j5 (z := (va_up (EzL2 j5) 2 z2_15)) (n := (va_up (EnL2 j5) 2 n2_14)) (F := (va_up (EFL2 j5) 2 F2_16)) (fun k hk => (vfr hk _ (by decide) rfl)) (fun k hk => ⟨(vfr hk _ (by decide) rfl), (vfr hk _ (by decide) rfl)⟩)
        generalize eEr19 : va_up ErL2 j5 (va_up (ErL2 j5) 2 r2_13) = Er19 at hP hD
        generalize eEn19 : va_up EnL2 j5 (va_up (EnL2 j5) 2 n2_14) = En19 at hP hD hPE19 hef19
        generalize eEz19 : va_up EzL2 j5 (va_up (EzL2 j5) 2 z2_15) = Ez19 at hP hD hPE19 hef19
        generalize eEF19 : va_up EFL2 j5 (va_up (EFL2 j5) 2 F2_16) = EF19 at hP hD hPE19 hef19
        exact ih2 (k + 1) rL2 nL2 zL2 FL2 Er19 En19 Ez19 EF19 (cv + dn_11) (sv + dm_12) ⟨⟨hRLL2.1, hRLL2.2.1, hPE19, hef19⟩, ⟨by omega, by omega⟩, (show zL2 12 = z 12 by omega), by omega⟩ (by omega) _ _ hP hD hS ls (lv_sub hl [0, 1] rfl)
  exact lp2 _ 0 r n z F Er En Ez EF 0 0 ⟨⟨hok, hfr, hPE, hef⟩, ⟨by omega, by omega⟩, (show z 12 = z 12 by omega), by omega⟩ (Nat.lt_succ_self _) _ _ hP hD hS ls (lv_sub hl [0, 1] rfl)
set_option maxHeartbeats 4000000 in
set_option maxRecDepth 100000 in
theorem y_sortFirsts (l : Launch) (dC : Nat → ClassId) (dI : Nat → Nat → Nat) (cI cB cE : ClassId) (o r n : Nat → Nat) (z : Nat → Int) (F : Nat → Int → Int) (G : Nat → Option Nat) (N : Nat) (Eo Er En : Nat → Nat → Nat) (Ez : Nat → Nat → Int) (EF : Nat → Nat → Int → Int) (sz : Nat) (hok : xOk n z F) (hxG : xG N (z 12) G Eo) (hPE : eA N En Ez EF) : Met l yX5_sortFirsts [.code yX5_sortFirsts cX5_sortFirsts 3 none] ({ frames := 3, cells := 100, slots := 45000, locals := 103 }) (va_Pc [.ref (o 15)] (kx_Pre dC dI (xU cI cB cE o r n z F G (Eo 0 0) ++ eP cI N Eo Er En Ez EF) (xT cI cB cE) sz)) (xQ (fun _ : (Nat → Nat) × (Nat → Nat) × (Nat → Int) × (Nat → Int → Int) × (Nat → Nat → Nat) × (Nat → Nat → Nat) × (Nat → Nat → Int) × (Nat → Nat → Int → Int) => none) (fun (u : (Nat → Nat) × (Nat → Nat) × (Nat → Int) × (Nat → Int → Int) × (Nat → Nat → Nat) × (Nat → Nat → Nat) × (Nat → Nat → Int) × (Nat → Nat → Int → Int)) (dn dm : Nat) => match u with | (r', n', z', F', Er', En', Ez', EF') => xR [0] [0] [] [] N z F En Ez EF n' z' F' En' Ez' EF' ∧ (dn + xg n' ≤ xg n + 0 ∧ dm + xp n' ≤ xp n + 0) ∧ (True)) (fun u t => kx_At dC dI (va_A (xU cI cB cE o r n z F G (Eo 0 0) ++ eP cI N Eo Er En Ez EF) sz) ((fun u : (Nat → Nat) × (Nat → Nat) × (Nat → Int) × (Nat → Int → Int) × (Nat → Nat → Nat) × (Nat → Nat → Nat) × (Nat → Nat → Int) × (Nat → Nat → Int → Int) => match u with | (r', n', z', F', Er', En', Ez', EF') => (xU cI cB cE o r' n' z' F' G (Eo 0 0) ++ eP cI N Eo Er' En' Ez' EF')) u) (xT cI cB cE) t) (va_A (xU cI cB cE o r n z F G (Eo 0 0) ++ eP cI N Eo Er En Ez EF) sz)) 100 45000 (va_A (xU cI cB cE o r n z F G (Eo 0 0) ++ eP cI N Eo Er En Ez EF) sz) := by
  refine Met.ofW (cc := cX5_sortFirsts) (maxL := 3) (ret := none) (by decide) rfl ?_
  intro p e s m args below meth c s₁ B hml hv
  obtain ⟨rfl, hsz, hP, hK, hD0, hG, hZ⟩ := hv
  have hx := B.exec
  have hb := B.bytes
  have hr := B.returns
  have hts := kx_hts (a := ([.ref (o 15)] : List Value).toArray) hG
  have hown : s.vm.findClass RX5 = some m.cls := findClass_of_methodNamed B.named
  have hlocks := B.notSynchronized
  subst hsz
  have hD := hD0.self (sz := s.heap.size)
  generalize hAe : va_A (xU cI cB cE o r n z F G (Eo 0 0) ++ eP cI N Eo Er En Ez EF) s.heap.size = A at hD hZ ⊢
  have hA : ∀ q : Nat, s.heap.size ≤ q → A q := fun q h => by rw [← hAe]; exact Or.inr h
  have hS : va_S A s.heap s.heap [] := va_S.rf
  have hl := lv_entry ([.ref (o 15)]) (n := 3) (Nat.le_of_ble_eq_true rfl)
  rw [lg_entry_eq]
  generalize (lg_sl ([.ref (o 15)]) ++ List.replicate (3 - (lg_sl ([.ref (o 15)])).length) Slot.unset).toArray = ls at hl ⊢
  obtain ⟨hN1, hN2, hN3, hN4⟩ := hxG
  have hef : eFr [] [] En Ez EF En Ez EF := eFr.rf
  have hfr : xFr [0] [0] z F z F := xFr.rf
  have hxgl := xg_le n
  have hxpl := xp_le n
  have hl : lv_has ls 3 [(0, .ref (o 15))] := hl
  generalize hQe : MQ below (xQ (fun _ : (Nat → Nat) × (Nat → Nat) × (Nat → Int) × (Nat → Int → Int) × (Nat → Nat → Nat) × (Nat → Nat → Nat) × (Nat → Nat → Int) × (Nat → Nat → Int → Int) => none) (fun (u : (Nat → Nat) × (Nat → Nat) × (Nat → Int) × (Nat → Int → Int) × (Nat → Nat → Nat) × (Nat → Nat → Nat) × (Nat → Nat → Int) × (Nat → Nat → Int → Int)) (dn dm : Nat) => match u with | (r', n', z', F', Er', En', Ez', EF') => xR [0] [0] [] [] N z F En Ez EF n' z' F' En' Ez' EF' ∧ (dn + xg n' ≤ xg n + 0 ∧ dm + xp n' ≤ xp n + 0) ∧ (True)) (fun u t => kx_At dC dI A ((fun u : (Nat → Nat) × (Nat → Nat) × (Nat → Int) × (Nat → Int → Int) × (Nat → Nat → Nat) × (Nat → Nat → Nat) × (Nat → Nat → Int) × (Nat → Nat → Int → Int) => match u with | (r', n', z', F', Er', En', Ez', EF') => (xU cI cB cE o r' n' z' F' G (Eo 0 0) ++ eP cI N Eo Er' En' Ez' EF')) u) (xT cI cB cE) t) A) ([.ref (o 15)] : List Value).toArray s 100 45000 A = QQ
  refine lv_aload_n hx hb dX5_sortFirsts_0 rfl (lv_at hl 0 rfl) ?_
  refine va_get (D := (dC, dI)) (ci := 5) (v := .ref (o 0)) (C := RX5) (T := TX5) (N := 16) hx hb hts kt_X5 hown hK hP 0 rfl rfl 5 (by decide) (kx_word hG kq_18_xrows_37 rfl) (fun _ h9 => h9) rfl dX5_sortFirsts_1 ?_
  have hxi_1 : 0 ≤ z 0 ∧ z 0 ≤ ((n 0 : Nat) : Int) ∧ ((n 0 : Nat) : Int) ≤ 80 := hok.1 0 (by decide)
  have hPc := hP.sub (ws' := (iU cI 80 (o 0) (r 0) (n 0) (z 0) (F 0))) [2, 3] rfl
  have hDc := hD.sub (ws' := (iU cI 80 (o 0) (r 0) (n 0) (z 0) (F 0))) [2, 3] (by decide) rfl
  have hFc := va_free (wc := (iU cI 80 (o 0) (r 0) (n 0) (z 0) (F 0))) hD hS hA [2, 3] rfl
  refine xk_call (va_runV (As := []) (rest := []) ⟨hx, hb, hml, hown, hts⟩ (x_clear l dC dI cI cB cE 80 (o 0) (r 0) (n 0) (z 0) (F 0)  s.heap.size ) (cwV 0 hts (kx_gV kq_18_xrows_38 kq_15_xspan_42 kq_15_xspan_43 kq_13_xints_6 kq_15_xspan_44 rfl) rfl rfl rfl (by decide +kernel) ⟨Nat.le_of_ble_eq_true rfl, Nat.le_of_ble_eq_true rfl⟩) ⟨kx_blind, va_recv hK hPc (ci := 1) (q0 := 0) rfl rfl, kx_give (ws := []) (tys := []) hPc hDc hK hG hZ hS hFc⟩ rfl rfl hl.1 rfl (lv_room (Nat.le_of_ble_eq_true rfl)) dX5_sortFirsts_4 ⟨show 0 + 0 ≤ 100 from (by omega), show 0 + 0 ≤ 45000 from (by omega)⟩) hS (fun q _ h => hFc q h) hFc (fun u dn_3 dm_4 t H locs ht hvm hq_2 hB hk1 hS => ?_)
  obtain ⟨z_5, rfl⟩ : ∃ z, z = u := ⟨_, rfl⟩
  obtain ⟨hP1, hK1, hD1⟩ := hB
  rw [ht] at hP1
  obtain ⟨hP, hD⟩ := xj_pool (wr := [(o 15, .inr (5, [.ref (o 16), .ref (Eo 0 0), .int (iz (z 12)), .int (iz (z 13)), .int (iz (z 14)), .ref (o 0), .ref (o 1), .int (iz (z 15)), .ref (o 13), .ref (o 14), .int (iz (z 16)), .ref (o 2), .ref (o 12), .ref (o 3), .ref (o 10), .ref (o 11)])), (o 16, .inl (cE, 80, .inr (.inr (.inr (.inr G))))), (o 1, .inr (1, [.int (iz 80), .ref (r 1), .int (iz (z 1))])), (r 1, .inl (cI, n 1, .inl (iA (F 1)))), (o 2, .inr (1, [.int (iz 80), .ref (r 2), .int (iz (z 2))])), (r 2, .inl (cI, n 2, .inl (iA (F 2)))), (o 3, .inr (1, [.int (iz 80), .ref (r 3), .int (iz (z 3))])), (r 3, .inl (cI, n 3, .inl (iA (F 3)))), (o 13, .inr (3, [.ref (o 4), .ref (o 5), .ref (o 6)])), (o 4, .inr (1, [.int (iz 1600), .ref (r 4), .int (iz (z 4))])), (r 4, .inl (cI, n 4, .inl (iA (F 4)))), (o 5, .inr (1, [.int (iz 1600), .ref (r 5), .int (iz (z 5))])), (r 5, .inl (cI, n 5, .inl (iA (F 5)))), (o 6, .inr (1, [.int (iz 1600), .ref (r 6), .int (iz (z 6))])), (r 6, .inl (cI, n 6, .inl (iA (F 6)))), (o 14, .inr (3, [.ref (o 7), .ref (o 8), .ref (o 9)])), (o 7, .inr (1, [.int (iz 1600), .ref (r 7), .int (iz (z 7))])), (r 7, .inl (cI, n 7, .inl (iA (F 7)))), (o 8, .inr (1, [.int (iz 1600), .ref (r 8), .int (iz (z 8))])), (r 8, .inl (cI, n 8, .inl (iA (F 8)))), (o 9, .inr (1, [.int (iz 1600), .ref (r 9), .int (iz (z 9))])), (r 9, .inl (cI, n 9, .inl (iA (F 9)))), (o 12, .inr (4, [.int (iz (z 17)), .int (iz (z 18)), .int (iz (z 19)), .int (iz (z 20)), .int (iz (z 21))])), (o 10, .inr (2, [.ref (r 10), .int (iz (z 10)), .int (iz (z 22))])), (r 10, .inl (cB, n 10, .inl (iA (F 10)))), (o 11, .inr (2, [.ref (r 11), .int (iz (z 11)), .int (iz (z 23))])), (r 11, .inl (cB, n 11, .inl (iA (F 11))))]) (w1 := (iU cI 80 (o 0) (r 0) (n 0) z_5 (F 0))) (ws' := (xU cI cB cE o r n (va_up z 0 z_5) F G (Eo 0 0))) hP hD [2, 3] [0, 1, 4, 5, 6, 7, 8, 9, 10, 11, 12, 13, 14, 15, 16, 17, 18, 19, 20, 21, 22, 23, 24, 25, 26, 27, 28] [0, 1, 27, 28, 2, 3, 4, 5, 6, 7, 8, 9, 10, 11, 12, 13, 14, 15, 16, 17, 18, 19, 20, 21, 22, 23, 24, 25, 26] rfl rfl (by decide) (by decide) hk1 hFc hP1 hD1 rfl (by decide)
  refine W.eq (g2 := F0 m 7 ls []) rfl ?_
  try dsimp only at hq_2
  obtain ⟨hd6, hm6, hz6⟩ := hq_2
  subst hd6
  subst hm6
  refine lv_iconst (v := iz 0) hx hb dX5_sortFirsts_7 (by decide) ?_
  refine lv_istore_n (lv' := [(1, .int (iz 0)), (0, .ref (o 15))]) hx hb dX5_sortFirsts_8 rfl hl (by decide) rfl (fun ls hl => ?_)
  have hok7 : xOk (va_up n 0 (n 0)) (va_up z 0 z_5) (va_up F 0 (F 0)) := (hok.i 0 (by decide) (show 0 ≤ z_5 ∧ z_5 ≤ ((n 0 : Nat) : Int) ∧ ((n 0 : Nat) : Int) ≤ 80 by omega) (hok.2.2.1 0))
  have hfr7 : xFr [0] [0] z F (va_up z 0 z_5) (va_up F 0 (F 0)) := ((hfr.uz 0 (by decide) _).uf 0 (by decide) _)
  have hcg7 : (0) + xg (va_up n 0 (n 0)) ≤ xg n := by unfold xg; simp (decide := true) only [va_ev, ↓reduceIte]; omega
  have hcp7 : (0) + xp (va_up n 0 (n 0)) ≤ xp n := by unfold xp; simp (decide := true) only [va_ev, ↓reduceIte]; omega
  have lp9 : ∀ (n0 : Nat) (k : Int) (rL9 : Nat → Nat) (nL9 : Nat → Nat) (zL9 : Nat → Int) (FL9 : Nat → Int → Int) (ErL9 : Nat → Nat → Nat) (EnL9 : Nat → Nat → Nat) (EzL9 : Nat → Nat → Int) (EFL9 : Nat → Nat → Int → Int) (cv : Nat) (sv : Nat), ((xR [0] [0] [] [] N z F En Ez EF nL9 zL9 FL9 EnL9 EzL9 EFL9) ∧ (cv + xg nL9 ≤ xg n + (0) ∧ sv + xp nL9 ≤ xp n + (0)) ∧ (zL9 12 = z 12) ∧ (0 ≤ k ∧ k ≤ 79)) → (z 12 - k).toNat < n0 → ∀ (H : Heap) (locs : List Loc), va_P (dC, dI) kxCl ((xU cI cB cE o rL9 nL9 zL9 FL9 G (Eo 0 0)) ++ (eP cI N Eo ErL9 EnL9 EzL9 EFL9)) H → va_D A ((xU cI cB cE o rL9 nL9 zL9 FL9 G (Eo 0 0)) ++ (eP cI N Eo ErL9 EnL9 EzL9 EFL9)) → va_S A s.heap H locs → ∀ ls : Array Slot, lv_has ls 3 [(1, .int (iz k)), (0, .ref (o 15))] → W p l e (headSpec [.code yX5_sortFirsts cX5_sortFirsts 3 none] ({ frames := 3, cells := 100, slots := 45000, locals := 103 })).room s m ([.ref (o 15)] : List Value).toArray below meth c H locs cv sv QQ (F0 m 9 ls []) := by
    intro n0
    induction n0 with
    | zero => intro k rL9 nL9 zL9 FL9 ErL9 EnL9 EzL9 EFL9 cv sv hinv hm0; exact absurd hm0 (Nat.not_lt_zero _)
    | succ n0 ih9 =>
      intro k rL9 nL9 zL9 FL9 ErL9 EnL9 EzL9 EFL9 cv sv hinv hm0 H locs hP hD hS ls hl
      obtain ⟨hRLL9, hCLL9, hZLL9, hk⟩ := hinv
      refine lv_iload_n hx hb dX5_sortFirsts_9 rfl (lv_at hl 0 rfl) ?_
      refine lv_aload_n hx hb dX5_sortFirsts_10 rfl (lv_at hl 1 rfl) ?_
      have hxz_8 : -2147483648 ≤ zL9 12 ∧ zL9 12 < 2147483648 := hRLL9.1.2.2.2.1 12
      refine va_get (D := (dC, dI)) (ci := 5) (v := .int (iz (zL9 12))) (C := RX5) (T := TX5) (N := 16) hx hb hts kt_X5 hown hK hP 0 rfl rfl 2 (by decide) (kx_word hG kq_18_xrows_0 rfl) (fun _ h9 => h9) rfl dX5_sortFirsts_11 ?_
      refine ki_icmp_ge (tgt := 99) hx hb dX5_sortFirsts_14 (by decide) (by omega) (by omega) (by omega) (by omega) (fun c_9 => ?_) (fun c_9 => ?_)
      · skip
        rw [← hQe]
        exact xk_vret (ov := (fun _ : (Nat → Nat) × (Nat → Nat) × (Nat → Int) × (Nat → Int → Int) × (Nat → Nat → Nat) × (Nat → Nat → Nat) × (Nat → Nat → Int) × (Nat → Nat → Int → Int) => none)) (post := (fun (u : (Nat → Nat) × (Nat → Nat) × (Nat → Int) × (Nat → Int → Int) × (Nat → Nat → Nat) × (Nat → Nat → Nat) × (Nat → Nat → Int) × (Nat → Nat → Int → Int)) (dn dm : Nat) => match u with | (r', n', z', F', Er', En', Ez', EF') => xR [0] [0] [] [] N z F En Ez EF n' z' F' En' Ez' EF' ∧ (dn + xg n' ≤ xg n + 0 ∧ dm + xp n' ≤ xp n + 0) ∧ (True))) (ws := (fun u : (Nat → Nat) × (Nat → Nat) × (Nat → Int) × (Nat → Int → Int) × (Nat → Nat → Nat) × (Nat → Nat → Nat) × (Nat → Nat → Int) × (Nat → Nat → Int → Int) => match u with | (r', n', z', F', Er', En', Ez', EF') => (xU cI cB cE o r' n' z' F' G (Eo 0 0) ++ eP cI N Eo Er' En' Ez' EF'))) (tys := xT cI cB cE) (rL9, nL9, zL9, FL9, ErL9, EnL9, EzL9, EFL9) hx hb hr hlocks rfl hP hD hK hS dX5_sortFirsts_99 (fun dn dm hdn hdm => ⟨⟨hRLL9.1, hRLL9.2.1, hRLL9.2.2.1, hRLL9.2.2.2⟩, ⟨by omega, by omega⟩, trivial⟩) (by omega) (by omega)
      · skip
        refine lv_aload_n hx hb dX5_sortFirsts_17 rfl (lv_at hl 1 rfl) ?_
        refine lv_iload_n hx hb dX5_sortFirsts_18 rfl (lv_at hl 0 rfl) ?_
        have hxG9 : xG N (zL9 12) G Eo := ⟨by omega, by omega, by omega, fun e9 h9 => hN4 e9 (by omega)⟩
        have hP : va_P (dC, dI) kxCl (xU cI cB cE o rL9 nL9 zL9 FL9 G (Eo 0 0) ++ eP cI N Eo ErL9 EnL9 EzL9 EFL9) H := hP
        refine xk_pure (va_runV (As := [.int (iz k)]) (rest := []) ⟨hx, hb, hml, hown, hts⟩ (y_firstOf l dC dI cI cB cE o rL9 nL9 zL9 FL9 G N Eo ErL9 EnL9 EzL9 EFL9 k H.size hRLL9.1 hxG9 hRLL9.2.2.1 (by omega) (by omega)) (cwV 1 hts (kx_gV kq_18_xrows_15 kq_18_xrows_16 kq_18_xrows_17 kq_18_xrows_4 kq_18_xrows_18 rfl) rfl rfl rfl (by decide +kernel) ⟨Nat.le_of_ble_eq_true rfl, Nat.le_of_ble_eq_true rfl⟩) ⟨pPre_blind, va_recv hK hP (ci := 5) (q0 := 0) rfl rfl, pPre_give hP hK hG⟩ rfl rfl hl.1 rfl (lv_room (Nat.le_of_ble_eq_true rfl)) dX5_sortFirsts_19 ⟨show cv + 0 ≤ 100 from (by omega), show sv + 0 ≤ 45000 from (by omega)⟩) hS (fun z_11 locs hq_10 hS => ?_)
        refine W.eq (g2 := F0 m 22 ls [.int (iz z_11)]) rfl ?_
        try dsimp only at hq_10
        refine lv_iload_n hx hb dX5_sortFirsts_22 rfl (lv_at hl 0 rfl) ?_
        refine ki_icmp_eq (tgt := 29) hx hb dX5_sortFirsts_23 (by decide) (by omega) (by omega) (by omega) (by omega) (fun c_12 => ?_) (fun c_12 => ?_)
        · skip
          refine lv_aload_n hx hb dX5_sortFirsts_29 rfl (lv_at hl 1 rfl) ?_
          refine va_get (D := (dC, dI)) (ci := 5) (v := .ref (o 0)) (C := RX5) (T := TX5) (N := 16) hx hb hts kt_X5 hown hK hP 0 rfl rfl 5 (by decide) (kx_word hG kq_18_xrows_37 rfl) (fun _ h9 => h9) rfl dX5_sortFirsts_30 ?_
          refine lv_iload_n hx hb dX5_sortFirsts_33 rfl (lv_at hl 0 rfl) ?_
          have hxi_13 : 0 ≤ zL9 0 ∧ zL9 0 ≤ ((nL9 0 : Nat) : Int) ∧ ((nL9 0 : Nat) : Int) ≤ 80 := hRLL9.1.1 0 (by decide)
          have hPc := hP.sub (ws' := (iU cI 80 (o 0) (rL9 0) (nL9 0) (zL9 0) (FL9 0))) [2, 3] rfl
          have hDc := hD.sub (ws' := (iU cI 80 (o 0) (rL9 0) (nL9 0) (zL9 0) (FL9 0))) [2, 3] (by decide) rfl
          have hFc := va_free (wc := (iU cI 80 (o 0) (rL9 0) (nL9 0) (zL9 0) (FL9 0))) hD hS hA [2, 3] rfl
          refine xk_call (va_runV (As := [.int (iz k)]) (rest := []) ⟨hx, hb, hml, hown, hts⟩ (x_add l dC dI cI cB cE 80 (o 0) (rL9 0) (nL9 0) (zL9 0) (FL9 0) k H.size (by omega) (hRLL9.1.2.2.1 0) (by omega) (by omega)) (cwV 1 hts (kx_gV kq_18_xrows_39 kq_15_xspan_46 kq_15_xspan_47 kq_13_xints_6 kq_15_xspan_48 rfl) rfl rfl rfl (by decide +kernel) ⟨Nat.le_of_ble_eq_true rfl, Nat.le_of_ble_eq_true rfl⟩) ⟨kx_blind, va_recv hK hPc (ci := 1) (q0 := 0) rfl rfl, kx_give (ws := []) (tys := []) hPc hDc hK hG hZ hS hFc⟩ rfl rfl hl.1 rfl (lv_room (Nat.le_of_ble_eq_true rfl)) dX5_sortFirsts_34 ⟨show cv + 1 ≤ 100 from (by omega), show sv + 1600 ≤ 45000 from (by omega)⟩) hS (fun q _ h => hFc q h) hFc (fun u dn_15 dm_16 t H locs ht hvm hq_14 hB hk1 hS => ?_)
          obtain ⟨r_17, n_18, z_19, F_20⟩ := u
          obtain ⟨hP1, hK1, hD1⟩ := hB
          rw [ht] at hP1
          obtain ⟨hP, hD⟩ := xj_pool (wr := [(o 15, .inr (5, [.ref (o 16), .ref (Eo 0 0), .int (iz (zL9 12)), .int (iz (zL9 13)), .int (iz (zL9 14)), .ref (o 0), .ref (o 1), .int (iz (zL9 15)), .ref (o 13), .ref (o 14), .int (iz (zL9 16)), .ref (o 2), .ref (o 12), .ref (o 3), .ref (o 10), .ref (o 11)])), (o 16, .inl (cE, 80, .inr (.inr (.inr (.inr G))))), (o 1, .inr (1, [.int (iz 80), .ref (rL9 1), .int (iz (zL9 1))])), (rL9 1, .inl (cI, nL9 1, .inl (iA (FL9 1)))), (o 2, .inr (1, [.int (iz 80), .ref (rL9 2), .int (iz (zL9 2))])), (rL9 2, .inl (cI, nL9 2, .inl (iA (FL9 2)))), (o 3, .inr (1, [.int (iz 80), .ref (rL9 3), .int (iz (zL9 3))])), (rL9 3, .inl (cI, nL9 3, .inl (iA (FL9 3)))), (o 13, .inr (3, [.ref (o 4), .ref (o 5), .ref (o 6)])), (o 4, .inr (1, [.int (iz 1600), .ref (rL9 4), .int (iz (zL9 4))])), (rL9 4, .inl (cI, nL9 4, .inl (iA (FL9 4)))), (o 5, .inr (1, [.int (iz 1600), .ref (rL9 5), .int (iz (zL9 5))])), (rL9 5, .inl (cI, nL9 5, .inl (iA (FL9 5)))), (o 6, .inr (1, [.int (iz 1600), .ref (rL9 6), .int (iz (zL9 6))])), (rL9 6, .inl (cI, nL9 6, .inl (iA (FL9 6)))), (o 14, .inr (3, [.ref (o 7), .ref (o 8), .ref (o 9)])), (o 7, .inr (1, [.int (iz 1600), .ref (rL9 7), .int (iz (zL9 7))])), (rL9 7, .inl (cI, nL9 7, .inl (iA (FL9 7)))), (o 8, .inr (1, [.int (iz 1600), .ref (rL9 8), .int (iz (zL9 8))])), (rL9 8, .inl (cI, nL9 8, .inl (iA (FL9 8)))), (o 9, .inr (1, [.int (iz 1600), .ref (rL9 9), .int (iz (zL9 9))])), (rL9 9, .inl (cI, nL9 9, .inl (iA (FL9 9)))), (o 12, .inr (4, [.int (iz (zL9 17)), .int (iz (zL9 18)), .int (iz (zL9 19)), .int (iz (zL9 20)), .int (iz (zL9 21))])), (o 10, .inr (2, [.ref (rL9 10), .int (iz (zL9 10)), .int (iz (zL9 22))])), (rL9 10, .inl (cB, nL9 10, .inl (iA (FL9 10)))), (o 11, .inr (2, [.ref (rL9 11), .int (iz (zL9 11)), .int (iz (zL9 23))])), (rL9 11, .inl (cB, nL9 11, .inl (iA (FL9 11))))]) (w1 := (iU cI 80 (o 0) r_17 n_18 z_19 F_20)) (ws' := (xU cI cB cE o (va_up rL9 0 r_17) (va_up nL9 0 n_18) (va_up zL9 0 z_19) (va_up FL9 0 F_20) G (Eo 0 0))) hP hD [2, 3] [0, 1, 4, 5, 6, 7, 8, 9, 10, 11, 12, 13, 14, 15, 16, 17, 18, 19, 20, 21, 22, 23, 24, 25, 26, 27, 28] [0, 1, 27, 28, 2, 3, 4, 5, 6, 7, 8, 9, 10, 11, 12, 13, 14, 15, 16, 17, 18, 19, 20, 21, 22, 23, 24, 25, 26] rfl rfl (by decide) (by decide) hk1 hFc hP1 hD1 rfl (by decide)
          refine W.eq (g2 := F0 m 37 ls []) rfl ?_
          try dsimp only at hq_14
          obtain ⟨ha21, hb21, hc21, hd21⟩ := hq_14
          have hax21 := hd21.1
          refine lv_aload_n hx hb dX5_sortFirsts_37 rfl (lv_at hl 1 rfl) ?_
          refine va_get (D := (dC, dI)) (ci := 5) (v := .ref (o 0)) (C := RX5) (T := TX5) (N := 16) hx hb hts kt_X5 hown hK hP 0 rfl rfl 5 (by decide) (kx_word hG kq_18_xrows_37 rfl) (fun _ h9 => h9) rfl dX5_sortFirsts_38 ?_
          have hPc := hP.sub (ws' := (iU cI 80 (o 0) r_17 n_18 z_19 F_20)) [2, 3] rfl
          refine xk_pure (va_runV (As := []) (rest := []) ⟨hx, hb, hml, hown, hts⟩ (x_size l dC dI cI cB cE 80 (o 0) r_17 n_18 z_19 F_20  H.size ) (cwV 0 hts (kx_gV kq_18_xrows_40 kq_15_xspan_10 kq_15_xspan_11 kq_13_xints_6 kq_15_xspan_12 rfl) rfl rfl rfl (by decide +kernel) ⟨Nat.le_of_ble_eq_true rfl, Nat.le_of_ble_eq_true rfl⟩) ⟨pPre_blind, va_recv hK hPc (ci := 1) (q0 := 0) rfl rfl, pPre_give hPc hK hG⟩ rfl rfl hl.1 rfl (lv_room (Nat.le_of_ble_eq_true rfl)) dX5_sortFirsts_41 ⟨show (cv + dn_15) + 0 ≤ 100 from (by omega), show (sv + dm_16) + 0 ≤ 45000 from (by omega)⟩) hS (fun z_23 locs hq_22 hS => ?_)
          refine W.eq (g2 := F0 m 44 ls [.int (iz z_23)]) rfl ?_
          try dsimp only at hq_22
          have hq_22 := hq_22.symm
          subst hq_22
          refine lv_iconst (v := iz 1) hx hb dX5_sortFirsts_44 (by decide) ?_
          refine ki_isub hx hb dX5_sortFirsts_45 ?_
          refine lv_istore_n (lv' := [(2, .int (iz (z_19 - 1))), (1, .int (iz k)), (0, .ref (o 15))]) hx hb dX5_sortFirsts_46 rfl hl (by decide) rfl (fun ls hl => ?_)
          have hok24 : xOk (va_up nL9 0 n_18) (va_up zL9 0 z_19) (va_up FL9 0 F_20) := (hRLL9.1.i 0 (by decide) (show 0 ≤ z_19 ∧ z_19 ≤ ((n_18 : Nat) : Int) ∧ ((n_18 : Nat) : Int) ≤ 80 by omega) hb21)
          have hfr24 : xFr [0] [0] z F (va_up zL9 0 z_19) (va_up FL9 0 F_20) := ((hRLL9.2.1.uz 0 (by decide) _).uf 0 (by decide) _)
          have hcg24 : (dn_15) + xg (va_up nL9 0 n_18) ≤ xg nL9 := by unfold xg; simp (decide := true) only [va_ev, ↓reduceIte]; omega
          have hcp24 : (dm_16) + xp (va_up nL9 0 n_18) ≤ xp nL9 := by unfold xp; simp (decide := true) only [va_ev, ↓reduceIte]; omega
          have lp47 : ∀ (n0 : Nat) (i : Int) (rL47 : Nat → Nat) (nL47 : Nat → Nat) (zL47 : Nat → Int) (FL47 : Nat → Int → Int) (ErL47 : Nat → Nat → Nat) (EnL47 : Nat → Nat → Nat) (EzL47 : Nat → Nat → Int) (EFL47 : Nat → Nat → Int → Int) (cv : Nat) (sv : Nat), ((xR [0] [0] [] [] N z F En Ez EF nL47 zL47 FL47 EnL47 EzL47 EFL47) ∧ (cv + xg nL47 ≤ xg n + (0) ∧ sv + xp nL47 ≤ xp n + (0)) ∧ (zL47 12 = z 12) ∧ (-1 ≤ i ∧ i ≤ 100)) → (i).toNat < n0 → ∀ (H : Heap) (locs : List Loc), va_P (dC, dI) kxCl ((xU cI cB cE o rL47 nL47 zL47 FL47 G (Eo 0 0)) ++ (eP cI N Eo ErL47 EnL47 EzL47 EFL47)) H → va_D A ((xU cI cB cE o rL47 nL47 zL47 FL47 G (Eo 0 0)) ++ (eP cI N Eo ErL47 EnL47 EzL47 EFL47)) → va_S A s.heap H locs → ∀ ls : Array Slot, lv_has ls 3 [(2, .int (iz i)), (1, .int (iz k)), (0, .ref (o 15))] → W p l e (headSpec [.code yX5_sortFirsts cX5_sortFirsts 3 none] ({ frames := 3, cells := 100, slots := 45000, locals := 103 })).room s m ([.ref (o 15)] : List Value).toArray below meth c H locs cv sv QQ (F0 m 47 ls []) := by
            intro n0
            induction n0 with
            | zero => intro i rL47 nL47 zL47 FL47 ErL47 EnL47 EzL47 EFL47 cv sv hinv hm0; exact absurd hm0 (Nat.not_lt_zero _)
            | succ n0 ih47 =>
              intro i rL47 nL47 zL47 FL47 ErL47 EnL47 EzL47 EFL47 cv sv hinv hm0 H locs hP hD hS ls hl
              obtain ⟨hRLL47, hCLL47, hZLL47, hi⟩ := hinv
              refine lv_iload_n hx hb dX5_sortFirsts_47 rfl (lv_at hl 0 rfl) ?_
              refine ki_if_le (tgt := 93) hx hb dX5_sortFirsts_48 (by decide) (by omega) (by omega) (fun c_25 => ?_) (fun c_25 => ?_)
              · skip
                refine lv_iinc (v := iz (k + 1)) (lv' := [(1, .int (iz (k + 1))), (2, .int (iz i)), (0, .ref (o 15))]) hx hb dX5_sortFirsts_93 hl (k := 1) rfl (iz_add k 1) (by decide) rfl (fun ls hl => ?_)
                refine lv_goto (tgt := 9) hx hb dX5_sortFirsts_96 (by decide) ?_
                exact ih9 (k + 1) rL47 nL47 zL47 FL47 ErL47 EnL47 EzL47 EFL47 cv sv ⟨⟨hRLL47.1, hRLL47.2.1, hRLL47.2.2.1, hRLL47.2.2.2⟩, ⟨by omega, by omega⟩, (show zL47 12 = z 12 by omega), by omega⟩ (by omega) _ _ hP hD hS ls (lv_sub hl [0, 2] rfl)
              · skip
                refine lv_aload_n hx hb dX5_sortFirsts_51 rfl (lv_at hl 2 rfl) ?_
                refine lv_iload_n hx hb dX5_sortFirsts_52 rfl (lv_at hl 1 rfl) ?_
                have hxz_26 : -2147483648 ≤ zL47 12 ∧ zL47 12 < 2147483648 := hRLL47.1.2.2.2.1 12
                have hxG9 : xG N (zL47 12) G Eo := ⟨by omega, by omega, by omega, fun e9 h9 => hN4 e9 (by omega)⟩
                have hP : va_P (dC, dI) kxCl (xU cI cB cE o rL47 nL47 zL47 FL47 G (Eo 0 0) ++ eP cI N Eo ErL47 EnL47 EzL47 EFL47) H := hP
                refine xk_pure (va_runV (As := [.int (iz k)]) (rest := []) ⟨hx, hb, hml, hown, hts⟩ (y_known l dC dI cI cB cE o rL47 nL47 zL47 FL47 G N Eo ErL47 EnL47 EzL47 EFL47 k H.size hRLL47.1 hxG9 hRLL47.2.2.1 (by omega) (by omega)) (cwV 1 hts (kx_gV kq_18_xrows_8 kq_18_xrows_9 kq_18_xrows_10 kq_18_xrows_4 kq_18_xrows_11 rfl) rfl rfl rfl (by decide +kernel) ⟨Nat.le_of_ble_eq_true rfl, Nat.le_of_ble_eq_true rfl⟩) ⟨pPre_blind, va_recv hK hP (ci := 5) (q0 := 0) rfl rfl, pPre_give hP hK hG⟩ rfl rfl hl.1 rfl (lv_room (Nat.le_of_ble_eq_true rfl)) dX5_sortFirsts_53 ⟨show cv + 0 ≤ 100 from (by omega), show sv + 0 ≤ 45000 from (by omega)⟩) hS (fun z_28 locs hq_27 hS => ?_)
                refine W.eq (g2 := F0 m 56 ls [.ref z_28.toNat]) rfl ?_
                try dsimp only at hq_27
                obtain ⟨j29, hj29, ez29, hje29⟩ := hq_27
                subst ez29
                refine W.eq (g2 := F0 m 56 ls [.ref (Eo j29 0)]) rfl ?_
                refine lv_aload_n hx hb dX5_sortFirsts_56 rfl (lv_at hl 2 rfl) ?_
                refine lv_aload_n hx hb dX5_sortFirsts_57 rfl (lv_at hl 2 rfl) ?_
                refine va_get (D := (dC, dI)) (ci := 5) (v := .ref (o 0)) (C := RX5) (T := TX5) (N := 16) hx hb hts kt_X5 hown hK hP 0 rfl rfl 5 (by decide) (kx_word hG kq_18_xrows_37 rfl) (fun _ h9 => h9) rfl dX5_sortFirsts_58 ?_
                refine lv_iload_n hx hb dX5_sortFirsts_61 rfl (lv_at hl 0 rfl) ?_
                refine lv_iconst (v := iz 1) hx hb dX5_sortFirsts_62 (by decide) ?_
                refine ki_isub hx hb dX5_sortFirsts_63 ?_
                have hxi_30 : 0 ≤ zL47 0 ∧ zL47 0 ≤ ((nL47 0 : Nat) : Int) ∧ ((nL47 0 : Nat) : Int) ≤ 80 := hRLL47.1.1 0 (by decide)
                have hPc := hP.sub (ws' := (iU cI 80 (o 0) (rL47 0) (nL47 0) (zL47 0) (FL47 0))) [2, 3] rfl
                refine xk_pure (va_runV (As := [.int (iz (i - 1))]) (rest := [.ref (o 15), .ref (Eo j29 0)]) ⟨hx, hb, hml, hown, hts⟩ (x_get l dC dI cI cB cE 80 (o 0) (rL47 0) (nL47 0) (zL47 0) (FL47 0) (i - 1) H.size (by omega) (hRLL47.1.2.2.1 0) (by omega) (by omega)) (cwV 1 hts (kx_gV kq_18_xrows_41 kq_13_xints_4 kq_13_xints_5 kq_13_xints_6 kq_13_xints_7 rfl) rfl rfl rfl (by decide +kernel) ⟨Nat.le_of_ble_eq_true rfl, Nat.le_of_ble_eq_true rfl⟩) ⟨pPre_blind, va_recv hK hPc (ci := 1) (q0 := 0) rfl rfl, pPre_give hPc hK hG⟩ rfl rfl hl.1 rfl (lv_room (Nat.le_of_ble_eq_true rfl)) dX5_sortFirsts_64 ⟨show cv + 0 ≤ 100 from (by omega), show sv + 0 ≤ 45000 from (by omega)⟩) hS (fun z_32 locs hq_31 hS => ?_)
                refine W.eq (g2 := F0 m 67 ls [.int (iz z_32), .ref (o 15), .ref (Eo j29 0)]) rfl ?_
                try dsimp only at hq_31
                have hxG9 : xG N (zL47 12) G Eo := ⟨by omega, by omega, by omega, fun e9 h9 => hN4 e9 (by omega)⟩
                have hP : va_P (dC, dI) kxCl (xU cI cB cE o rL47 nL47 zL47 FL47 G (Eo 0 0) ++ eP cI N Eo ErL47 EnL47 EzL47 EFL47) H := hP
                refine xk_pure (va_runV (As := [.int (iz z_32)]) (rest := [.ref (Eo j29 0)]) ⟨hx, hb, hml, hown, hts⟩ (y_known l dC dI cI cB cE o rL47 nL47 zL47 FL47 G N Eo ErL47 EnL47 EzL47 EFL47 z_32 H.size hRLL47.1 hxG9 hRLL47.2.2.1 (by omega) (by omega)) (cwV 1 hts (kx_gV kq_18_xrows_8 kq_18_xrows_9 kq_18_xrows_10 kq_18_xrows_4 kq_18_xrows_11 rfl) rfl rfl rfl (by decide +kernel) ⟨Nat.le_of_ble_eq_true rfl, Nat.le_of_ble_eq_true rfl⟩) ⟨pPre_blind, va_recv hK hP (ci := 5) (q0 := 0) rfl rfl, pPre_give hP hK hG⟩ rfl rfl hl.1 rfl (lv_room (Nat.le_of_ble_eq_true rfl)) dX5_sortFirsts_67 ⟨show cv + 0 ≤ 100 from (by omega), show sv + 0 ≤ 45000 from (by omega)⟩) hS (fun z_34 locs hq_33 hS => ?_)
                refine W.eq (g2 := F0 m 70 ls [.ref z_34.toNat, .ref (Eo j29 0)]) rfl ?_
                try dsimp only at hq_33
                obtain ⟨j35, hj35, ez35, hje35⟩ := hq_33
                subst ez35
                refine W.eq (g2 := F0 m 70 ls [.ref (Eo j35 0), .ref (Eo j29 0)]) rfl ?_
                have hPk := hP
                have hP : va_P (dC, dI) kxCl ((xU cI cB cE o rL47 nL47 zL47 FL47 G (Eo 0 0)) ++ (eU cI (Eo j35) (ErL47 j35) (EnL47 j35) (EzL47 j35) (EFL47 j35)) ++ (eU cI (Eo j29) (ErL47 j29) (EnL47 j29) (EzL47 j29) (EFL47 j29))) H := (((eP_hd hP).app (eP_get hj35 hP)).app (eP_get hj29 hP))
                have hPc := hP.sub (ws' := ((eU cI (Eo j29) (ErL47 j29) (EnL47 j29) (EzL47 j29) (EFL47 j29)) ++ (eU cI (Eo j35) (ErL47 j35) (EnL47 j35) (EzL47 j35) (EFL47 j35)))) [45, 46, 47, 48, 49, 50, 51, 52, 53, 54, 55, 56, 57, 58, 59, 60, 29, 30, 31, 32, 33, 34, 35, 36, 37, 38, 39, 40, 41, 42, 43, 44] rfl
                refine xk_pure (va_runV (As := [.ref (Eo j35 0)]) (rest := []) ⟨hx, hb, hml, hown, hts⟩ (x_eorderTo l dC dI cI cB cE (Eo j29) (ErL47 j29) (EnL47 j29) (EzL47 j29) (EFL47 j29) (Eo j35) (ErL47 j35) (EnL47 j35) (EzL47 j35) (EFL47 j35)  H.size (hRLL47.2.2.1 j29 hj29) (hRLL47.2.2.1 j35 hj35)) (cwV 1 hts (kx_gV kq_18_xrows_42 kq_18_xrows_43 kq_18_xrows_44 kq_16_xentry_2 kq_18_xrows_45 rfl) rfl rfl rfl (by decide +kernel) ⟨Nat.le_of_ble_eq_true rfl, Nat.le_of_ble_eq_true rfl⟩) ⟨pPre_blind, va_recv hK hPc (ci := 0) (q0 := 0) rfl rfl, pPre_give hPc hK hG⟩ rfl rfl hl.1 rfl (lv_room (Nat.le_of_ble_eq_true rfl)) dX5_sortFirsts_70 ⟨show cv + 0 ≤ 100 from (by omega), show sv + 0 ≤ 45000 from (by omega)⟩) hS (fun z_37 locs hq_36 hS => ?_)
                refine W.eq (g2 := F0 m 73 ls [.int (iz z_37)]) rfl ?_
                try dsimp only at hq_36
                have hP := hPk
                refine ki_if_ge (tgt := 93) hx hb dX5_sortFirsts_73 (by decide) (by omega) (by omega) (fun c_38 => ?_) (fun c_38 => ?_)
                · skip
                  refine lv_iinc (v := iz (k + 1)) (lv' := [(1, .int (iz (k + 1))), (2, .int (iz i)), (0, .ref (o 15))]) hx hb dX5_sortFirsts_93 hl (k := 1) rfl (iz_add k 1) (by decide) rfl (fun ls hl => ?_)
                  refine lv_goto (tgt := 9) hx hb dX5_sortFirsts_96 (by decide) ?_
                  exact ih9 (k + 1) rL47 nL47 zL47 FL47 ErL47 EnL47 EzL47 EFL47 cv sv ⟨⟨hRLL47.1, hRLL47.2.1, hRLL47.2.2.1, hRLL47.2.2.2⟩, ⟨by omega, by omega⟩, (show zL47 12 = z 12 by omega), by omega⟩ (by omega) _ _ hP hD hS ls (lv_sub hl [0, 2] rfl)
                · skip
                  refine lv_aload_n hx hb dX5_sortFirsts_76 rfl (lv_at hl 2 rfl) ?_
                  refine va_get (D := (dC, dI)) (ci := 5) (v := .ref (o 0)) (C := RX5) (T := TX5) (N := 16) hx hb hts kt_X5 hown hK hP 0 rfl rfl 5 (by decide) (kx_word hG kq_18_xrows_37 rfl) (fun _ h9 => h9) rfl dX5_sortFirsts_77 ?_
                  refine lv_iload_n hx hb dX5_sortFirsts_80 rfl (lv_at hl 0 rfl) ?_
                  refine lv_iload_n hx hb dX5_sortFirsts_81 rfl (lv_at hl 0 rfl) ?_
                  refine lv_iconst (v := iz 1) hx hb dX5_sortFirsts_82 (by decide) ?_
                  refine ki_isub hx hb dX5_sortFirsts_83 ?_
                  have hPc := hP.sub (ws' := (iU cI 80 (o 0) (rL47 0) (nL47 0) (zL47 0) (FL47 0))) [2, 3] rfl
                  have hDc := hD.sub (ws' := (iU cI 80 (o 0) (rL47 0) (nL47 0) (zL47 0) (FL47 0))) [2, 3] (by decide) rfl
                  have hFc := va_free (wc := (iU cI 80 (o 0) (rL47 0) (nL47 0) (zL47 0) (FL47 0))) hD hS hA [2, 3] rfl
                  refine xk_call (va_runV (As := [.int (iz i), .int (iz (i - 1))]) (rest := []) ⟨hx, hb, hml, hown, hts⟩ (x_swap l dC dI cI cB cE 80 (o 0) (rL47 0) (nL47 0) (zL47 0) (FL47 0) i (i - 1) H.size (by omega) (hRLL47.1.2.2.1 0) (by omega) (by omega) (by omega) (by omega)) (cwV 2 hts (kx_gV kq_18_xrows_46 kq_15_xspan_60 kq_15_xspan_61 kq_13_xints_6 kq_15_xspan_62 rfl) rfl rfl rfl (by decide +kernel) ⟨Nat.le_of_ble_eq_true rfl, Nat.le_of_ble_eq_true rfl⟩) ⟨kx_blind, va_recv hK hPc (ci := 1) (q0 := 0) rfl rfl, kx_give (ws := []) (tys := []) hPc hDc hK hG hZ hS hFc⟩ rfl rfl hl.1 rfl (lv_room (Nat.le_of_ble_eq_true rfl)) dX5_sortFirsts_84 ⟨show cv + 0 ≤ 100 from (by omega), show sv + 0 ≤ 45000 from (by omega)⟩) hS (fun q _ h => hFc q h) hFc (fun u dn_40 dm_41 t H locs ht hvm hq_39 hB hk1 hS => ?_)
                  obtain ⟨F_42, rfl⟩ : ∃ z, z = u := ⟨_, rfl⟩
                  obtain ⟨hP1, hK1, hD1⟩ := hB
                  rw [ht] at hP1
                  obtain ⟨hP, hD⟩ := xj_pool (wr := [(o 15, .inr (5, [.ref (o 16), .ref (Eo 0 0), .int (iz (zL47 12)), .int (iz (zL47 13)), .int (iz (zL47 14)), .ref (o 0), .ref (o 1), .int (iz (zL47 15)), .ref (o 13), .ref (o 14), .int (iz (zL47 16)), .ref (o 2), .ref (o 12), .ref (o 3), .ref (o 10), .ref (o 11)])), (o 16, .inl (cE, 80, .inr (.inr (.inr (.inr G))))), (o 1, .inr (1, [.int (iz 80), .ref (rL47 1), .int (iz (zL47 1))])), (rL47 1, .inl (cI, nL47 1, .inl (iA (FL47 1)))), (o 2, .inr (1, [.int (iz 80), .ref (rL47 2), .int (iz (zL47 2))])), (rL47 2, .inl (cI, nL47 2, .inl (iA (FL47 2)))), (o 3, .inr (1, [.int (iz 80), .ref (rL47 3), .int (iz (zL47 3))])), (rL47 3, .inl (cI, nL47 3, .inl (iA (FL47 3)))), (o 13, .inr (3, [.ref (o 4), .ref (o 5), .ref (o 6)])), (o 4, .inr (1, [.int (iz 1600), .ref (rL47 4), .int (iz (zL47 4))])), (rL47 4, .inl (cI, nL47 4, .inl (iA (FL47 4)))), (o 5, .inr (1, [.int (iz 1600), .ref (rL47 5), .int (iz (zL47 5))])), (rL47 5, .inl (cI, nL47 5, .inl (iA (FL47 5)))), (o 6, .inr (1, [.int (iz 1600), .ref (rL47 6), .int (iz (zL47 6))])), (rL47 6, .inl (cI, nL47 6, .inl (iA (FL47 6)))), (o 14, .inr (3, [.ref (o 7), .ref (o 8), .ref (o 9)])), (o 7, .inr (1, [.int (iz 1600), .ref (rL47 7), .int (iz (zL47 7))])), (rL47 7, .inl (cI, nL47 7, .inl (iA (FL47 7)))), (o 8, .inr (1, [.int (iz 1600), .ref (rL47 8), .int (iz (zL47 8))])), (rL47 8, .inl (cI, nL47 8, .inl (iA (FL47 8)))), (o 9, .inr (1, [.int (iz 1600), .ref (rL47 9), .int (iz (zL47 9))])), (rL47 9, .inl (cI, nL47 9, .inl (iA (FL47 9)))), (o 12, .inr (4, [.int (iz (zL47 17)), .int (iz (zL47 18)), .int (iz (zL47 19)), .int (iz (zL47 20)), .int (iz (zL47 21))])), (o 10, .inr (2, [.ref (rL47 10), .int (iz (zL47 10)), .int (iz (zL47 22))])), (rL47 10, .inl (cB, nL47 10, .inl (iA (FL47 10)))), (o 11, .inr (2, [.ref (rL47 11), .int (iz (zL47 11)), .int (iz (zL47 23))])), (rL47 11, .inl (cB, nL47 11, .inl (iA (FL47 11))))]) (w1 := (iU cI 80 (o 0) (rL47 0) (nL47 0) (zL47 0) F_42)) (ws' := (xU cI cB cE o rL47 nL47 zL47 (va_up FL47 0 F_42) G (Eo 0 0))) hP hD [2, 3] [0, 1, 4, 5, 6, 7, 8, 9, 10, 11, 12, 13, 14, 15, 16, 17, 18, 19, 20, 21, 22, 23, 24, 25, 26, 27, 28] [0, 1, 27, 28, 2, 3, 4, 5, 6, 7, 8, 9, 10, 11, 12, 13, 14, 15, 16, 17, 18, 19, 20, 21, 22, 23, 24, 25, 26] rfl rfl (by decide) (by decide) hk1 hFc hP1 hD1 rfl (by decide)
                  refine W.eq (g2 := F0 m 87 ls []) rfl ?_
                  try dsimp only at hq_39
                  obtain ⟨hd43, hm43, hF43⟩ := hq_39
                  subst hd43
                  subst hm43
                  refine lv_iinc (v := iz (i + (-1))) (lv' := [(2, .int (iz (i + (-1)))), (1, .int (iz k)), (0, .ref (o 15))]) hx hb dX5_sortFirsts_87 hl (k := 0) rfl (iz_add i (-1)) (by decide) rfl (fun ls hl => ?_)
                  refine lv_goto (tgt := 47) hx hb dX5_sortFirsts_90 (by decide) ?_
                  have hok44 : xOk (va_up nL47 0 (nL47 0)) (va_up zL47 0 (zL47 0)) (va_up FL47 0 F_42) := (hRLL47.1.i 0 (by decide) (show 0 ≤ zL47 0 ∧ zL47 0 ≤ ((nL47 0 : Nat) : Int) ∧ ((nL47 0 : Nat) : Int) ≤ 80 by omega) hF43)
                  have hfr44 : xFr [0] [0] z F (va_up zL47 0 (zL47 0)) (va_up FL47 0 F_42) := ((hRLL47.2.1.uz 0 (by decide) _).uf 0 (by decide) _)
                  have hcg44 : (0) + xg (va_up nL47 0 (nL47 0)) ≤ xg nL47 := by unfold xg; simp (decide := true) only [va_ev, ↓reduceIte]; omega
                  have hcp44 : (0) + xp (va_up nL47 0 (nL47 0)) ≤ xp nL47 := by unfold xp; simp (decide := true) only [va_ev, ↓reduceIte]; omega
                  exact ih47 (i + (-1)) rL47 (va_up nL47 0 (nL47 0)) (va_up zL47 0 (zL47 0)) (va_up FL47 0 F_42) ErL47 EnL47 EzL47 EFL47 (cv + 0) (sv + 0) ⟨⟨hok44, hfr44, hRLL47.2.2.1, hRLL47.2.2.2⟩, ⟨by omega, by omega⟩, (show zL47 12 = z 12 by omega), by omega⟩ (by omega) _ _ hP hD hS ls (lv_sub hl [0, 1, 2] rfl)
          exact lp47 _ (z_19 - 1) (va_up rL9 0 r_17) (va_up nL9 0 n_18) (va_up zL9 0 z_19) (va_up FL9 0 F_20) ErL9 EnL9 EzL9 EFL9 (cv + dn_15) (sv + dm_16) ⟨⟨hok24, hfr24, hRLL9.2.2.1, hRLL9.2.2.2⟩, ⟨by omega, by omega⟩, (show zL9 12 = z 12 by omega), by omega⟩ (Nat.lt_succ_self _) _ _ hP hD hS ls (lv_sub hl [0, 1, 2] rfl)
        · skip
          refine lv_goto (tgt := 93) hx hb dX5_sortFirsts_26 (by decide) ?_
          refine lv_iinc (v := iz (k + 1)) (lv' := [(1, .int (iz (k + 1))), (0, .ref (o 15))]) hx hb dX5_sortFirsts_93 hl (k := 0) rfl (iz_add k 1) (by decide) rfl (fun ls hl => ?_)
          refine lv_goto (tgt := 9) hx hb dX5_sortFirsts_96 (by decide) ?_
          exact ih9 (k + 1) rL9 nL9 zL9 FL9 ErL9 EnL9 EzL9 EFL9 cv sv ⟨⟨hRLL9.1, hRLL9.2.1, hRLL9.2.2.1, hRLL9.2.2.2⟩, ⟨by omega, by omega⟩, (show zL9 12 = z 12 by omega), by omega⟩ (by omega) _ _ hP hD hS ls (lv_sub hl [0, 1] rfl)
  exact lp9 _ 0 r (va_up n 0 (n 0)) (va_up z 0 z_5) (va_up F 0 (F 0)) Er En Ez EF (0 + 0) (0 + 0) ⟨⟨hok7, hfr7, hPE, hef⟩, ⟨by omega, by omega⟩, (show z 12 = z 12 by omega), by omega⟩ (Nat.lt_succ_self _) _ _ hP hD hS ls (lv_sub hl [0, 1] rfl)
set_option maxHeartbeats 4000000 in
set_option maxRecDepth 100000 in
theorem y_addRows3 (l : Launch) (dC : Nat → ClassId) (dI : Nat → Nat → Nat) (cI cB cE : ClassId) (o r n : Nat → Nat) (z : Nat → Int) (F : Nat → Int → Int) (G : Nat → Option Nat) (N : Nat) (Eo Er En : Nat → Nat → Nat) (Ez : Nat → Nat → Int) (EF : Nat → Nat → Int → Int) (p0 : Int) (sz : Nat) (hok : xOk n z F) (hxG : xG N (z 12) G Eo) (hPE : eA N En Ez EF) (hp01 : -2147483648 ≤ p0) (hp02 : p0 < 2147483648) : Met l yX5_addRowsUnder [.code yX5_addRowsUnder cX5_addRowsUnder 5 none] ({ frames := 0, cells := 100, slots := 45000, locals := 0 }) (va_Pc [.ref (o 15), .int (iz p0), .int (iz 3)] (kx_Pre dC dI (xU cI cB cE o r n z F G (Eo 0 0) ++ eP cI N Eo Er En Ez EF) (xT cI cB cE) sz)) (xQ (fun _ : (Nat → Nat) × (Nat → Nat) × (Nat → Int) × (Nat → Int → Int) × (Nat → Nat → Nat) × (Nat → Nat → Nat) × (Nat → Nat → Int) × (Nat → Nat → Int → Int) => none) (fun (u : (Nat → Nat) × (Nat → Nat) × (Nat → Int) × (Nat → Int → Int) × (Nat → Nat → Nat) × (Nat → Nat → Nat) × (Nat → Nat → Int) × (Nat → Nat → Int → Int)) (dn dm : Nat) => match u with | (r', n', z', F', Er', En', Ez', EF') => xR [1] [1] [] [] N z F En Ez EF n' z' F' En' Ez' EF' ∧ (dn + xg n' ≤ xg n + 0 ∧ dm + xp n' ≤ xp n + 0) ∧ (True)) (fun u t => kx_At dC dI (va_A (xU cI cB cE o r n z F G (Eo 0 0) ++ eP cI N Eo Er En Ez EF) sz) ((fun u : (Nat → Nat) × (Nat → Nat) × (Nat → Int) × (Nat → Int → Int) × (Nat → Nat → Nat) × (Nat → Nat → Nat) × (Nat → Nat → Int) × (Nat → Nat → Int → Int) => match u with | (r', n', z', F', Er', En', Ez', EF') => (xU cI cB cE o r' n' z' F' G (Eo 0 0) ++ eP cI N Eo Er' En' Ez' EF')) u) (xT cI cB cE) t) (va_A (xU cI cB cE o r n z F G (Eo 0 0) ++ eP cI N Eo Er En Ez EF) sz)) 100 45000 (va_A (xU cI cB cE o r n z F G (Eo 0 0) ++ eP cI N Eo Er En Ez EF) sz) := by
  refine Met.ofW (cc := cX5_addRowsUnder) (maxL := 5) (ret := none) (by decide) rfl ?_
  intro p e s m args below meth c s₁ B hml hv
  obtain ⟨rfl, hsz, hP, hK, hD0, hG, hZ⟩ := hv
  have hx := B.exec
  have hb := B.bytes
  have hr := B.returns
  have hts := kx_hts (a := ([.ref (o 15), .int (iz p0), .int (iz 3)] : List Value).toArray) hG
  have hown : s.vm.findClass RX5 = some m.cls := findClass_of_methodNamed B.named
  have hlocks := B.notSynchronized
  subst hsz
  have hD := hD0.self (sz := s.heap.size)
  generalize hAe : va_A (xU cI cB cE o r n z F G (Eo 0 0) ++ eP cI N Eo Er En Ez EF) s.heap.size = A at hD hZ ⊢
  have hA : ∀ q : Nat, s.heap.size ≤ q → A q := fun q h => by rw [← hAe]; exact Or.inr h
  have hS : va_S A s.heap s.heap [] := va_S.rf
  have hl := lv_entry ([.ref (o 15), .int (iz p0), .int (iz 3)]) (n := 5) (Nat.le_of_ble_eq_true rfl)
  rw [lg_entry_eq]
  generalize (lg_sl ([.ref (o 15), .int (iz p0), .int (iz 3)]) ++ List.replicate (5 - (lg_sl ([.ref (o 15), .int (iz p0), .int (iz 3)])).length) Slot.unset).toArray = ls at hl ⊢
  obtain ⟨hN1, hN2, hN3, hN4⟩ := hxG
  have hef : eFr [] [] En Ez EF En Ez EF := eFr.rf
  have hfr : xFr [1] [1] z F z F := xFr.rf
  have hxgl := xg_le n
  have hxpl := xp_le n
  have hl : lv_has ls 5 [(0, .ref (o 15)), (1, .int (iz p0)), (2, .int (iz 3))] := hl
  have hz0 : 0 ≤ z 0 ∧ z 0 ≤ (n 0 : Int) ∧ (n 0 : Int) ≤ 80 := hok.1 0 (by decide)
  refine lv_iload_n hx hb dX5_addRowsUnder_0 rfl (lv_at hl 2 rfl) ?_
  refine lv_iconst (v := iz 3) hx hb dX5_addRowsUnder_1 (by decide) ?_
  refine ki_icmp_lt (tgt := 6) hx hb dX5_addRowsUnder_2 (by decide) (by omega) (by omega) (by omega) (by omega) (fun c_1 => ?_) (fun c_1 => ?_)
  · omega
  · skip
    exact xk_vret (ov := (fun _ : (Nat → Nat) × (Nat → Nat) × (Nat → Int) × (Nat → Int → Int) × (Nat → Nat → Nat) × (Nat → Nat → Nat) × (Nat → Nat → Int) × (Nat → Nat → Int → Int) => none)) (post := (fun (u : (Nat → Nat) × (Nat → Nat) × (Nat → Int) × (Nat → Int → Int) × (Nat → Nat → Nat) × (Nat → Nat → Nat) × (Nat → Nat → Int) × (Nat → Nat → Int → Int)) (dn dm : Nat) => match u with | (r', n', z', F', Er', En', Ez', EF') => xR [1] [1] [] [] N z F En Ez EF n' z' F' En' Ez' EF' ∧ (dn + xg n' ≤ xg n + 0 ∧ dm + xp n' ≤ xp n + 0) ∧ (True))) (ws := (fun u : (Nat → Nat) × (Nat → Nat) × (Nat → Int) × (Nat → Int → Int) × (Nat → Nat → Nat) × (Nat → Nat → Nat) × (Nat → Nat → Int) × (Nat → Nat → Int → Int) => match u with | (r', n', z', F', Er', En', Ez', EF') => (xU cI cB cE o r' n' z' F' G (Eo 0 0) ++ eP cI N Eo Er' En' Ez' EF'))) (tys := xT cI cB cE) (r, n, z, F, Er, En, Ez, EF) hx hb hr hlocks rfl hP hD hK hS dX5_addRowsUnder_5 (fun dn dm hdn hdm => ⟨⟨hok, hfr, hPE, hef⟩, ⟨by omega, by omega⟩, trivial⟩) (by omega) (by omega)
set_option maxHeartbeats 4000000 in
set_option maxRecDepth 100000 in
theorem y_addRows2 (l : Launch) (dC : Nat → ClassId) (dI : Nat → Nat → Nat) (cI cB cE : ClassId) (o r n : Nat → Nat) (z : Nat → Int) (F : Nat → Int → Int) (G : Nat → Option Nat) (N : Nat) (Eo Er En : Nat → Nat → Nat) (Ez : Nat → Nat → Int) (EF : Nat → Nat → Int → Int) (p0 : Int) (sz : Nat) (hok : xOk n z F) (hxG : xG N (z 12) G Eo) (hPE : eA N En Ez EF) (hp01 : -2147483648 ≤ p0) (hp02 : p0 < 2147483648) : Met l yX5_addRowsUnder [.code yX5_addRowsUnder cX5_addRowsUnder 5 none] ({ frames := 3, cells := 200, slots := 90000, locals := 103 }) (va_Pc [.ref (o 15), .int (iz p0), .int (iz 2)] (kx_Pre dC dI (xU cI cB cE o r n z F G (Eo 0 0) ++ eP cI N Eo Er En Ez EF) (xT cI cB cE) sz)) (xQ (fun _ : (Nat → Nat) × (Nat → Nat) × (Nat → Int) × (Nat → Int → Int) × (Nat → Nat → Nat) × (Nat → Nat → Nat) × (Nat → Nat → Int) × (Nat → Nat → Int → Int) => none) (fun (u : (Nat → Nat) × (Nat → Nat) × (Nat → Int) × (Nat → Int → Int) × (Nat → Nat → Nat) × (Nat → Nat → Nat) × (Nat → Nat → Int) × (Nat → Nat → Int → Int)) (dn dm : Nat) => match u with | (r', n', z', F', Er', En', Ez', EF') => xR [1] [1] [] [] N z F En Ez EF n' z' F' En' Ez' EF' ∧ (dn + xg n' ≤ xg n + 0 ∧ dm + xp n' ≤ xp n + 0) ∧ (True)) (fun u t => kx_At dC dI (va_A (xU cI cB cE o r n z F G (Eo 0 0) ++ eP cI N Eo Er En Ez EF) sz) ((fun u : (Nat → Nat) × (Nat → Nat) × (Nat → Int) × (Nat → Int → Int) × (Nat → Nat → Nat) × (Nat → Nat → Nat) × (Nat → Nat → Int) × (Nat → Nat → Int → Int) => match u with | (r', n', z', F', Er', En', Ez', EF') => (xU cI cB cE o r' n' z' F' G (Eo 0 0) ++ eP cI N Eo Er' En' Ez' EF')) u) (xT cI cB cE) t) (va_A (xU cI cB cE o r n z F G (Eo 0 0) ++ eP cI N Eo Er En Ez EF) sz)) 200 90000 (va_A (xU cI cB cE o r n z F G (Eo 0 0) ++ eP cI N Eo Er En Ez EF) sz) := by
  refine Met.ofW (cc := cX5_addRowsUnder) (maxL := 5) (ret := none) (by decide) rfl ?_
  intro p e s m args below meth c s₁ B hml hv
  obtain ⟨rfl, hsz, hP, hK, hD0, hG, hZ⟩ := hv
  have hx := B.exec
  have hb := B.bytes
  have hr := B.returns
  have hts := kx_hts (a := ([.ref (o 15), .int (iz p0), .int (iz 2)] : List Value).toArray) hG
  have hown : s.vm.findClass RX5 = some m.cls := findClass_of_methodNamed B.named
  have hlocks := B.notSynchronized
  subst hsz
  have hD := hD0.self (sz := s.heap.size)
  generalize hAe : va_A (xU cI cB cE o r n z F G (Eo 0 0) ++ eP cI N Eo Er En Ez EF) s.heap.size = A at hD hZ ⊢
  have hA : ∀ q : Nat, s.heap.size ≤ q → A q := fun q h => by rw [← hAe]; exact Or.inr h
  have hS : va_S A s.heap s.heap [] := va_S.rf
  have hl := lv_entry ([.ref (o 15), .int (iz p0), .int (iz 2)]) (n := 5) (Nat.le_of_ble_eq_true rfl)
  rw [lg_entry_eq]
  generalize (lg_sl ([.ref (o 15), .int (iz p0), .int (iz 2)]) ++ List.replicate (5 - (lg_sl ([.ref (o 15), .int (iz p0), .int (iz 2)])).length) Slot.unset).toArray = ls at hl ⊢
  obtain ⟨hN1, hN2, hN3, hN4⟩ := hxG
  have hef : eFr [] [] En Ez EF En Ez EF := eFr.rf
  have hfr : xFr [1] [1] z F z F := xFr.rf
  have hxgl := xg_le n
  have hxpl := xp_le n
  have hl : lv_has ls 5 [(0, .ref (o 15)), (1, .int (iz p0)), (2, .int (iz 2))] := hl
  generalize hQe : MQ below (xQ (fun _ : (Nat → Nat) × (Nat → Nat) × (Nat → Int) × (Nat → Int → Int) × (Nat → Nat → Nat) × (Nat → Nat → Nat) × (Nat → Nat → Int) × (Nat → Nat → Int → Int) => none) (fun (u : (Nat → Nat) × (Nat → Nat) × (Nat → Int) × (Nat → Int → Int) × (Nat → Nat → Nat) × (Nat → Nat → Nat) × (Nat → Nat → Int) × (Nat → Nat → Int → Int)) (dn dm : Nat) => match u with | (r', n', z', F', Er', En', Ez', EF') => xR [1] [1] [] [] N z F En Ez EF n' z' F' En' Ez' EF' ∧ (dn + xg n' ≤ xg n + 0 ∧ dm + xp n' ≤ xp n + 0) ∧ (True)) (fun u t => kx_At dC dI A ((fun u : (Nat → Nat) × (Nat → Nat) × (Nat → Int) × (Nat → Int → Int) × (Nat → Nat → Nat) × (Nat → Nat → Nat) × (Nat → Nat → Int) × (Nat → Nat → Int → Int) => match u with | (r', n', z', F', Er', En', Ez', EF') => (xU cI cB cE o r' n' z' F' G (Eo 0 0) ++ eP cI N Eo Er' En' Ez' EF')) u) (xT cI cB cE) t) A) ([.ref (o 15), .int (iz p0), .int (iz 2)] : List Value).toArray s 200 90000 A = QQ
  have hz0 : 0 ≤ z 0 ∧ z 0 ≤ (n 0 : Int) ∧ (n 0 : Int) ≤ 80 := hok.1 0 (by decide)
  refine lv_iload_n hx hb dX5_addRowsUnder_0 rfl (lv_at hl 2 rfl) ?_
  refine lv_iconst (v := iz 3) hx hb dX5_addRowsUnder_1 (by decide) ?_
  refine ki_icmp_lt (tgt := 6) hx hb dX5_addRowsUnder_2 (by decide) (by omega) (by omega) (by omega) (by omega) (fun c_1 => ?_) (fun c_1 => ?_)
  · skip
    refine lv_iconst (v := iz 0) hx hb dX5_addRowsUnder_6 (by decide) ?_
    refine lv_istore_n (lv' := [(3, .int (iz 0)), (0, .ref (o 15)), (1, .int (iz p0)), (2, .int (iz 2))]) hx hb dX5_addRowsUnder_7 rfl hl (by decide) rfl (fun ls hl => ?_)
    have lp8 : ∀ (n0 : Nat) (k : Int) (rL8 : Nat → Nat) (nL8 : Nat → Nat) (zL8 : Nat → Int) (FL8 : Nat → Int → Int) (ErL8 : Nat → Nat → Nat) (EnL8 : Nat → Nat → Nat) (EzL8 : Nat → Nat → Int) (EFL8 : Nat → Nat → Int → Int) (cv : Nat) (sv : Nat), ((xR [1] [1] [] [] N z F En Ez EF nL8 zL8 FL8 EnL8 EzL8 EFL8) ∧ (cv + xg nL8 ≤ xg n + (0) ∧ sv + xp nL8 ≤ xp n + (0)) ∧ (zL8 12 = z 12) ∧ (0 ≤ k ∧ k ≤ 100)) → (z 0 - k).toNat < n0 → ∀ (H : Heap) (locs : List Loc), va_P (dC, dI) kxCl ((xU cI cB cE o rL8 nL8 zL8 FL8 G (Eo 0 0)) ++ (eP cI N Eo ErL8 EnL8 EzL8 EFL8)) H → va_D A ((xU cI cB cE o rL8 nL8 zL8 FL8 G (Eo 0 0)) ++ (eP cI N Eo ErL8 EnL8 EzL8 EFL8)) → va_S A s.heap H locs → ∀ ls : Array Slot, lv_has ls 5 [(3, .int (iz k)), (0, .ref (o 15)), (1, .int (iz p0)), (2, .int (iz 2))] → W p l e (headSpec [.code yX5_addRowsUnder cX5_addRowsUnder 5 none] ({ frames := 3, cells := 200, slots := 90000, locals := 103 })).room s m ([.ref (o 15), .int (iz p0), .int (iz 2)] : List Value).toArray below meth c H locs cv sv QQ (F0 m 8 ls []) := by
      intro n0
      induction n0 with
      | zero => intro k rL8 nL8 zL8 FL8 ErL8 EnL8 EzL8 EFL8 cv sv hinv hm0; exact absurd hm0 (Nat.not_lt_zero _)
      | succ n0 ih8 =>
        intro k rL8 nL8 zL8 FL8 ErL8 EnL8 EzL8 EFL8 cv sv hinv hm0 H locs hP hD hS ls hl
        obtain ⟨hRLL8, hCLL8, hZLL8, hk⟩ := hinv
        have hkzL8_0 : zL8 0 = z 0 := hRLL8.2.1.1 0 (by decide)
        refine lv_iload_n hx hb dX5_addRowsUnder_8 rfl (lv_at hl 0 rfl) ?_
        refine lv_aload_n hx hb dX5_addRowsUnder_9 rfl (lv_at hl 1 rfl) ?_
        refine va_get (D := (dC, dI)) (ci := 5) (v := .ref (o 0)) (C := RX5) (T := TX5) (N := 16) hx hb hts kt_X5 hown hK hP 0 rfl rfl 5 (by decide) (kx_word hG kq_18_xrows_37 rfl) (fun _ h9 => h9) rfl dX5_addRowsUnder_10 ?_
        have hxi_2 : 0 ≤ zL8 0 ∧ zL8 0 ≤ ((nL8 0 : Nat) : Int) ∧ ((nL8 0 : Nat) : Int) ≤ 80 := hRLL8.1.1 0 (by decide)
        have hPc := hP.sub (ws' := (iU cI 80 (o 0) (rL8 0) (nL8 0) (zL8 0) (FL8 0))) [2, 3] rfl
        refine xk_pure (va_runV (As := []) (rest := [.int (iz k)]) ⟨hx, hb, hml, hown, hts⟩ (x_size l dC dI cI cB cE 80 (o 0) (rL8 0) (nL8 0) (zL8 0) (FL8 0)  H.size ) (cwV 0 hts (kx_gV kq_18_xrows_40 kq_15_xspan_10 kq_15_xspan_11 kq_13_xints_6 kq_15_xspan_12 rfl) rfl rfl rfl (by decide +kernel) ⟨Nat.le_of_ble_eq_true rfl, Nat.le_of_ble_eq_true rfl⟩) ⟨pPre_blind, va_recv hK hPc (ci := 1) (q0 := 0) rfl rfl, pPre_give hPc hK hG⟩ rfl rfl hl.1 rfl (lv_room (Nat.le_of_ble_eq_true rfl)) dX5_addRowsUnder_13 ⟨show cv + 0 ≤ 200 from (by omega), show sv + 0 ≤ 90000 from (by omega)⟩) hS (fun z_4 locs hq_3 hS => ?_)
        refine W.eq (g2 := F0 m 16 ls [.int (iz z_4), .int (iz k)]) rfl ?_
        try dsimp only at hq_3
        have hq_3 := hq_3.symm
        subst hq_3
        refine ki_icmp_ge (tgt := 83) hx hb dX5_addRowsUnder_16 (by decide) (by omega) (by omega) (by omega) (by omega) (fun c_5 => ?_) (fun c_5 => ?_)
        · skip
          rw [← hQe]
          exact xk_vret (ov := (fun _ : (Nat → Nat) × (Nat → Nat) × (Nat → Int) × (Nat → Int → Int) × (Nat → Nat → Nat) × (Nat → Nat → Nat) × (Nat → Nat → Int) × (Nat → Nat → Int → Int) => none)) (post := (fun (u : (Nat → Nat) × (Nat → Nat) × (Nat → Int) × (Nat → Int → Int) × (Nat → Nat → Nat) × (Nat → Nat → Nat) × (Nat → Nat → Int) × (Nat → Nat → Int → Int)) (dn dm : Nat) => match u with | (r', n', z', F', Er', En', Ez', EF') => xR [1] [1] [] [] N z F En Ez EF n' z' F' En' Ez' EF' ∧ (dn + xg n' ≤ xg n + 0 ∧ dm + xp n' ≤ xp n + 0) ∧ (True))) (ws := (fun u : (Nat → Nat) × (Nat → Nat) × (Nat → Int) × (Nat → Int → Int) × (Nat → Nat → Nat) × (Nat → Nat → Nat) × (Nat → Nat → Int) × (Nat → Nat → Int → Int) => match u with | (r', n', z', F', Er', En', Ez', EF') => (xU cI cB cE o r' n' z' F' G (Eo 0 0) ++ eP cI N Eo Er' En' Ez' EF'))) (tys := xT cI cB cE) (rL8, nL8, zL8, FL8, ErL8, EnL8, EzL8, EFL8) hx hb hr hlocks rfl hP hD hK hS dX5_addRowsUnder_83 (fun dn dm hdn hdm => ⟨⟨hRLL8.1, hRLL8.2.1, hRLL8.2.2.1, hRLL8.2.2.2⟩, ⟨by omega, by omega⟩, trivial⟩) (by omega) (by omega)
        · skip
          refine lv_aload_n hx hb dX5_addRowsUnder_19 rfl (lv_at hl 1 rfl) ?_
          refine va_get (D := (dC, dI)) (ci := 5) (v := .ref (o 0)) (C := RX5) (T := TX5) (N := 16) hx hb hts kt_X5 hown hK hP 0 rfl rfl 5 (by decide) (kx_word hG kq_18_xrows_37 rfl) (fun _ h9 => h9) rfl dX5_addRowsUnder_20 ?_
          refine lv_iload_n hx hb dX5_addRowsUnder_23 rfl (lv_at hl 0 rfl) ?_
          have hPc := hP.sub (ws' := (iU cI 80 (o 0) (rL8 0) (nL8 0) (zL8 0) (FL8 0))) [2, 3] rfl
          refine xk_pure (va_runV (As := [.int (iz k)]) (rest := []) ⟨hx, hb, hml, hown, hts⟩ (x_get l dC dI cI cB cE 80 (o 0) (rL8 0) (nL8 0) (zL8 0) (FL8 0) k H.size (by omega) (hRLL8.1.2.2.1 0) (by omega) (by omega)) (cwV 1 hts (kx_gV kq_18_xrows_41 kq_13_xints_4 kq_13_xints_5 kq_13_xints_6 kq_13_xints_7 rfl) rfl rfl rfl (by decide +kernel) ⟨Nat.le_of_ble_eq_true rfl, Nat.le_of_ble_eq_true rfl⟩) ⟨pPre_blind, va_recv hK hPc (ci := 1) (q0 := 0) rfl rfl, pPre_give hPc hK hG⟩ rfl rfl hl.1 rfl (lv_room (Nat.le_of_ble_eq_true rfl)) dX5_addRowsUnder_24 ⟨show cv + 0 ≤ 200 from (by omega), show sv + 0 ≤ 90000 from (by omega)⟩) hS (fun z_7 locs hq_6 hS => ?_)
          refine W.eq (g2 := F0 m 27 ls [.int (iz z_7)]) rfl ?_
          try dsimp only at hq_6
          refine lv_istore (lv' := [(4, .int (iz z_7)), (3, .int (iz k)), (0, .ref (o 15)), (1, .int (iz p0)), (2, .int (iz 2))]) hx hb dX5_addRowsUnder_27 hl (by decide) rfl (fun ls hl => ?_)
          refine lv_aload_n hx hb dX5_addRowsUnder_29 rfl (lv_at hl 2 rfl) ?_
          refine lv_iload hx hb dX5_addRowsUnder_30 (lv_at hl 0 rfl) ?_
          have hxz_8 : -2147483648 ≤ zL8 12 ∧ zL8 12 < 2147483648 := hRLL8.1.2.2.2.1 12
          have hxG9 : xG N (zL8 12) G Eo := ⟨by omega, by omega, by omega, fun e9 h9 => hN4 e9 (by omega)⟩
          have hP : va_P (dC, dI) kxCl (xU cI cB cE o rL8 nL8 zL8 FL8 G (Eo 0 0) ++ eP cI N Eo ErL8 EnL8 EzL8 EFL8) H := hP
          refine xk_pure (va_runV (As := [.int (iz z_7)]) (rest := []) ⟨hx, hb, hml, hown, hts⟩ (y_known l dC dI cI cB cE o rL8 nL8 zL8 FL8 G N Eo ErL8 EnL8 EzL8 EFL8 z_7 H.size hRLL8.1 hxG9 hRLL8.2.2.1 (by omega) (by omega)) (cwV 1 hts (kx_gV kq_18_xrows_8 kq_18_xrows_9 kq_18_xrows_10 kq_18_xrows_4 kq_18_xrows_11 rfl) rfl rfl rfl (by decide +kernel) ⟨Nat.le_of_ble_eq_true rfl, Nat.le_of_ble_eq_true rfl⟩) ⟨pPre_blind, va_recv hK hP (ci := 5) (q0 := 0) rfl rfl, pPre_give hP hK hG⟩ rfl rfl hl.1 rfl (lv_room (Nat.le_of_ble_eq_true rfl)) dX5_addRowsUnder_32 ⟨show cv + 0 ≤ 200 from (by omega), show sv + 0 ≤ 90000 from (by omega)⟩) hS (fun z_10 locs hq_9 hS => ?_)
          refine W.eq (g2 := F0 m 35 ls [.ref z_10.toNat]) rfl ?_
          try dsimp only at hq_9
          obtain ⟨j11, hj11, ez11, hje11⟩ := hq_9
          subst ez11
          refine W.eq (g2 := F0 m 35 ls [.ref (Eo j11 0)]) rfl ?_
          have hP := eP_foc hj11 hP
          have hD := eD_foc hj11 hD
          have hez_12 : -2147483648 ≤ EzL8 j11 7 ∧ EzL8 j11 7 < 2147483648 := (hRLL8.2.2.1 j11 hj11).2.2 7
          refine va_getN (D := (dC, dI)) (ci := 0) (v := .int (iz (EzL8 j11 7))) (C := RX0) (T := TX0) (N := 12) hx hb hts kt_X0 hown hK hP 29 rfl rfl 0 (by decide) (va_Nw.use rfl (kx_nf hG kq_18_xrows_12)) (fun _ h9 => h9) rfl dX5_addRowsUnder_35 ?_
          refine lv_iload_n hx hb dX5_addRowsUnder_38 rfl (lv_at hl 4 rfl) ?_
          refine ki_icmp_ne (tgt := 77) hx hb dX5_addRowsUnder_39 (by decide) (by omega) (by omega) (by omega) (by omega) (fun c_13 => ?_) (fun c_13 => ?_)
          · skip
            refine lv_iinc (v := iz (k + 1)) (lv' := [(3, .int (iz (k + 1))), (4, .int (iz z_7)), (0, .ref (o 15)), (1, .int (iz p0)), (2, .int (iz 2))]) hx hb dX5_addRowsUnder_77 hl (k := 1) rfl (iz_add k 1) (by decide) rfl (fun ls hl => ?_)
            refine lv_goto (tgt := 8) hx hb dX5_addRowsUnder_80 (by decide) ?_
            have hP := eP_un0 hj11 hP
            have hD := eD_un0 hj11 hD
            exact ih8 (k + 1) rL8 nL8 zL8 FL8 ErL8 EnL8 EzL8 EFL8 cv sv ⟨⟨hRLL8.1, hRLL8.2.1, hRLL8.2.2.1, hRLL8.2.2.2⟩, ⟨by omega, by omega⟩, (show zL8 12 = z 12 by omega), by omega⟩ (by omega) _ _ hP hD hS ls (lv_sub hl [0, 2, 3, 4] rfl)
          · skip
            refine lv_aload_n hx hb dX5_addRowsUnder_42 rfl (lv_at hl 2 rfl) ?_
            refine lv_aload_n hx hb dX5_addRowsUnder_43 rfl (lv_at hl 2 rfl) ?_
            refine lv_iload hx hb dX5_addRowsUnder_44 (lv_at hl 0 rfl) ?_
            have hP := eP_un0 hj11 hP
            have hD := eD_un0 hj11 hD
            have hxG9 : xG N (zL8 12) G Eo := ⟨by omega, by omega, by omega, fun e9 h9 => hN4 e9 (by omega)⟩
            have hP : va_P (dC, dI) kxCl (xU cI cB cE o rL8 nL8 zL8 FL8 G (Eo 0 0) ++ eP cI N Eo ErL8 EnL8 EzL8 EFL8) H := hP
            refine xk_pure (va_runV (As := [.int (iz z_7)]) (rest := [.ref (o 15)]) ⟨hx, hb, hml, hown, hts⟩ (y_known l dC dI cI cB cE o rL8 nL8 zL8 FL8 G N Eo ErL8 EnL8 EzL8 EFL8 z_7 H.size hRLL8.1 hxG9 hRLL8.2.2.1 (by omega) (by omega)) (cwV 1 hts (kx_gV kq_18_xrows_8 kq_18_xrows_9 kq_18_xrows_10 kq_18_xrows_4 kq_18_xrows_11 rfl) rfl rfl rfl (by decide +kernel) ⟨Nat.le_of_ble_eq_true rfl, Nat.le_of_ble_eq_true rfl⟩) ⟨pPre_blind, va_recv hK hP (ci := 5) (q0 := 0) rfl rfl, pPre_give hP hK hG⟩ rfl rfl hl.1 rfl (lv_room (Nat.le_of_ble_eq_true rfl)) dX5_addRowsUnder_46 ⟨show cv + 0 ≤ 200 from (by omega), show sv + 0 ≤ 90000 from (by omega)⟩) hS (fun z_15 locs hq_14 hS => ?_)
            refine W.eq (g2 := F0 m 49 ls [.ref z_15.toNat, .ref (o 15)]) rfl ?_
            try dsimp only at hq_14
            obtain ⟨j16, hj16, ez16, hje16⟩ := hq_14
            subst ez16
            refine W.eq (g2 := F0 m 49 ls [.ref (Eo j16 0), .ref (o 15)]) rfl ?_
            have hP := eP_foc hj16 hP
            have hD := eD_foc hj16 hD
            have hez_17 : -2147483648 ≤ EzL8 j16 8 ∧ EzL8 j16 8 < 2147483648 := (hRLL8.2.2.1 j16 hj16).2.2 8
            refine va_getN (D := (dC, dI)) (ci := 0) (v := .int (iz (EzL8 j16 8))) (C := RX0) (T := TX0) (N := 12) hx hb hts kt_X0 hown hK hP 29 rfl rfl 1 (by decide) (va_Nw.use rfl (kx_nf hG kq_18_xrows_14)) (fun _ h9 => h9) rfl dX5_addRowsUnder_49 ?_
            have hP := eP_un0 hj16 hP
            have hD := eD_un0 hj16 hD
            have hxG9 : xG N (zL8 12) G Eo := ⟨by omega, by omega, by omega, fun e9 h9 => hN4 e9 (by omega)⟩
            have hP : va_P (dC, dI) kxCl (xU cI cB cE o rL8 nL8 zL8 FL8 G (Eo 0 0) ++ eP cI N Eo ErL8 EnL8 EzL8 EFL8) H := hP
            refine xk_pure (va_runV (As := [.int (iz (EzL8 j16 8))]) (rest := []) ⟨hx, hb, hml, hown, hts⟩ (y_firstOf l dC dI cI cB cE o rL8 nL8 zL8 FL8 G N Eo ErL8 EnL8 EzL8 EFL8 (EzL8 j16 8) H.size hRLL8.1 hxG9 hRLL8.2.2.1 (by omega) (by omega)) (cwV 1 hts (kx_gV kq_18_xrows_15 kq_18_xrows_16 kq_18_xrows_17 kq_18_xrows_4 kq_18_xrows_18 rfl) rfl rfl rfl (by decide +kernel) ⟨Nat.le_of_ble_eq_true rfl, Nat.le_of_ble_eq_true rfl⟩) ⟨pPre_blind, va_recv hK hP (ci := 5) (q0 := 0) rfl rfl, pPre_give hP hK hG⟩ rfl rfl hl.1 rfl (lv_room (Nat.le_of_ble_eq_true rfl)) dX5_addRowsUnder_52 ⟨show cv + 0 ≤ 200 from (by omega), show sv + 0 ≤ 90000 from (by omega)⟩) hS (fun z_19 locs hq_18 hS => ?_)
            refine W.eq (g2 := F0 m 55 ls [.int (iz z_19)]) rfl ?_
            try dsimp only at hq_18
            refine lv_iload_n hx hb dX5_addRowsUnder_55 rfl (lv_at hl 3 rfl) ?_
            refine ki_icmp_ne (tgt := 77) hx hb dX5_addRowsUnder_56 (by decide) (by omega) (by omega) (by omega) (by omega) (fun c_20 => ?_) (fun c_20 => ?_)
            · skip
              refine lv_iinc (v := iz (k + 1)) (lv' := [(3, .int (iz (k + 1))), (4, .int (iz z_7)), (0, .ref (o 15)), (1, .int (iz p0)), (2, .int (iz 2))]) hx hb dX5_addRowsUnder_77 hl (k := 1) rfl (iz_add k 1) (by decide) rfl (fun ls hl => ?_)
              refine lv_goto (tgt := 8) hx hb dX5_addRowsUnder_80 (by decide) ?_
              exact ih8 (k + 1) rL8 nL8 zL8 FL8 ErL8 EnL8 EzL8 EFL8 cv sv ⟨⟨hRLL8.1, hRLL8.2.1, hRLL8.2.2.1, hRLL8.2.2.2⟩, ⟨by omega, by omega⟩, (show zL8 12 = z 12 by omega), by omega⟩ (by omega) _ _ hP hD hS ls (lv_sub hl [0, 2, 3, 4] rfl)
            · skip
              refine lv_aload_n hx hb dX5_addRowsUnder_59 rfl (lv_at hl 2 rfl) ?_
              refine va_get (D := (dC, dI)) (ci := 5) (v := .ref (o 1)) (C := RX5) (T := TX5) (N := 16) hx hb hts kt_X5 hown hK hP 0 rfl rfl 6 (by decide) (kx_word hG kq_18_xrows_47 rfl) (fun _ h9 => h9) rfl dX5_addRowsUnder_60 ?_
              refine lv_iload hx hb dX5_addRowsUnder_63 (lv_at hl 0 rfl) ?_
              have hxi_21 : 0 ≤ zL8 1 ∧ zL8 1 ≤ ((nL8 1 : Nat) : Int) ∧ ((nL8 1 : Nat) : Int) ≤ 80 := hRLL8.1.1 1 (by decide)
              have hPc := hP.sub (ws' := (iU cI 80 (o 1) (rL8 1) (nL8 1) (zL8 1) (FL8 1))) [4, 5] rfl
              have hDc := hD.sub (ws' := (iU cI 80 (o 1) (rL8 1) (nL8 1) (zL8 1) (FL8 1))) [4, 5] (by decide) rfl
              have hFc := va_free (wc := (iU cI 80 (o 1) (rL8 1) (nL8 1) (zL8 1) (FL8 1))) hD hS hA [4, 5] rfl
              refine xk_call (va_runV (As := [.int (iz z_7)]) (rest := []) ⟨hx, hb, hml, hown, hts⟩ (x_add l dC dI cI cB cE 80 (o 1) (rL8 1) (nL8 1) (zL8 1) (FL8 1) z_7 H.size (by omega) (hRLL8.1.2.2.1 1) (by omega) (by omega)) (cwV 1 hts (kx_gV kq_18_xrows_39 kq_15_xspan_46 kq_15_xspan_47 kq_13_xints_6 kq_15_xspan_48 rfl) rfl rfl rfl (by decide +kernel) ⟨Nat.le_of_ble_eq_true rfl, Nat.le_of_ble_eq_true rfl⟩) ⟨kx_blind, va_recv hK hPc (ci := 1) (q0 := 0) rfl rfl, kx_give (ws := []) (tys := []) hPc hDc hK hG hZ hS hFc⟩ rfl rfl hl.1 rfl (lv_room (Nat.le_of_ble_eq_true rfl)) dX5_addRowsUnder_65 ⟨show cv + 1 ≤ 200 from (by omega), show sv + 1600 ≤ 90000 from (by omega)⟩) hS (fun q _ h => hFc q h) hFc (fun u dn_23 dm_24 t H locs ht hvm hq_22 hB hk1 hS => ?_)
              obtain ⟨r_25, n_26, z_27, F_28⟩ := u
              obtain ⟨hP1, hK1, hD1⟩ := hB
              rw [ht] at hP1
              obtain ⟨hP, hD⟩ := xj_pool (wr := [(o 15, .inr (5, [.ref (o 16), .ref (Eo 0 0), .int (iz (zL8 12)), .int (iz (zL8 13)), .int (iz (zL8 14)), .ref (o 0), .ref (o 1), .int (iz (zL8 15)), .ref (o 13), .ref (o 14), .int (iz (zL8 16)), .ref (o 2), .ref (o 12), .ref (o 3), .ref (o 10), .ref (o 11)])), (o 16, .inl (cE, 80, .inr (.inr (.inr (.inr G))))), (o 0, .inr (1, [.int (iz 80), .ref (rL8 0), .int (iz (zL8 0))])), (rL8 0, .inl (cI, nL8 0, .inl (iA (FL8 0)))), (o 2, .inr (1, [.int (iz 80), .ref (rL8 2), .int (iz (zL8 2))])), (rL8 2, .inl (cI, nL8 2, .inl (iA (FL8 2)))), (o 3, .inr (1, [.int (iz 80), .ref (rL8 3), .int (iz (zL8 3))])), (rL8 3, .inl (cI, nL8 3, .inl (iA (FL8 3)))), (o 13, .inr (3, [.ref (o 4), .ref (o 5), .ref (o 6)])), (o 4, .inr (1, [.int (iz 1600), .ref (rL8 4), .int (iz (zL8 4))])), (rL8 4, .inl (cI, nL8 4, .inl (iA (FL8 4)))), (o 5, .inr (1, [.int (iz 1600), .ref (rL8 5), .int (iz (zL8 5))])), (rL8 5, .inl (cI, nL8 5, .inl (iA (FL8 5)))), (o 6, .inr (1, [.int (iz 1600), .ref (rL8 6), .int (iz (zL8 6))])), (rL8 6, .inl (cI, nL8 6, .inl (iA (FL8 6)))), (o 14, .inr (3, [.ref (o 7), .ref (o 8), .ref (o 9)])), (o 7, .inr (1, [.int (iz 1600), .ref (rL8 7), .int (iz (zL8 7))])), (rL8 7, .inl (cI, nL8 7, .inl (iA (FL8 7)))), (o 8, .inr (1, [.int (iz 1600), .ref (rL8 8), .int (iz (zL8 8))])), (rL8 8, .inl (cI, nL8 8, .inl (iA (FL8 8)))), (o 9, .inr (1, [.int (iz 1600), .ref (rL8 9), .int (iz (zL8 9))])), (rL8 9, .inl (cI, nL8 9, .inl (iA (FL8 9)))), (o 12, .inr (4, [.int (iz (zL8 17)), .int (iz (zL8 18)), .int (iz (zL8 19)), .int (iz (zL8 20)), .int (iz (zL8 21))])), (o 10, .inr (2, [.ref (rL8 10), .int (iz (zL8 10)), .int (iz (zL8 22))])), (rL8 10, .inl (cB, nL8 10, .inl (iA (FL8 10)))), (o 11, .inr (2, [.ref (rL8 11), .int (iz (zL8 11)), .int (iz (zL8 23))])), (rL8 11, .inl (cB, nL8 11, .inl (iA (FL8 11))))]) (w1 := (iU cI 80 (o 1) r_25 n_26 z_27 F_28)) (ws' := (xU cI cB cE o (va_up rL8 1 r_25) (va_up nL8 1 n_26) (va_up zL8 1 z_27) (va_up FL8 1 F_28) G (Eo 0 0))) hP hD [4, 5] [0, 1, 2, 3, 6, 7, 8, 9, 10, 11, 12, 13, 14, 15, 16, 17, 18, 19, 20, 21, 22, 23, 24, 25, 26, 27, 28] [0, 1, 2, 3, 27, 28, 4, 5, 6, 7, 8, 9, 10, 11, 12, 13, 14, 15, 16, 17, 18, 19, 20, 21, 22, 23, 24, 25, 26] rfl rfl (by decide) (by decide) hk1 hFc hP1 hD1 rfl (by decide)
              refine W.eq (g2 := F0 m 68 ls []) rfl ?_
              try dsimp only at hq_22
              obtain ⟨ha29, hb29, hc29, hd29⟩ := hq_22
              have hax29 := hd29.1
              refine lv_aload_n hx hb dX5_addRowsUnder_68 rfl (lv_at hl 2 rfl) ?_
              refine lv_iload hx hb dX5_addRowsUnder_69 (lv_at hl 0 rfl) ?_
              refine lv_iload_n hx hb dX5_addRowsUnder_71 rfl (lv_at hl 4 rfl) ?_
              refine lv_iconst (v := iz 1) hx hb dX5_addRowsUnder_72 (by decide) ?_
              refine ki_iadd hx hb dX5_addRowsUnder_73 ?_
              refine ki_is (show iz (2 + 1) = iz 3 from rfl) ?_
              have hok30 : xOk (va_up nL8 1 n_26) (va_up zL8 1 z_27) (va_up FL8 1 F_28) := (hRLL8.1.i 1 (by decide) (show 0 ≤ z_27 ∧ z_27 ≤ ((n_26 : Nat) : Int) ∧ ((n_26 : Nat) : Int) ≤ 80 by omega) hb29)
              have hfr30 : xFr [1] [1] z F (va_up zL8 1 z_27) (va_up FL8 1 F_28) := ((hRLL8.2.1.uz 1 (by decide) _).uf 1 (by decide) _)
              have hcg30 : (dn_23) + xg (va_up nL8 1 n_26) ≤ xg nL8 := by unfold xg; simp (decide := true) only [va_ev, ↓reduceIte]; omega
              have hcp30 : (dm_24) + xp (va_up nL8 1 n_26) ≤ xp nL8 := by unfold xp; simp (decide := true) only [va_ev, ↓reduceIte]; omega
              have hxG9 : xG N (zL8 12) G Eo := ⟨by omega, by omega, by omega, fun e9 h9 => hN4 e9 (by omega)⟩
              have hP : va_P (dC, dI) kxCl (xU cI cB cE o (va_up rL8 1 r_25) (va_up nL8 1 n_26) (va_up zL8 1 z_27) (va_up FL8 1 F_28) G (Eo 0 0) ++ eP cI N Eo ErL8 EnL8 EzL8 EFL8) H := hP
              have hD : va_D A (xU cI cB cE o (va_up rL8 1 r_25) (va_up nL8 1 n_26) (va_up zL8 1 z_27) (va_up FL8 1 F_28) G (Eo 0 0) ++ eP cI N Eo ErL8 EnL8 EzL8 EFL8) := hD
              have hFc := xw_free hD hS hA
              refine xk_call (va_runV (As := [.int (iz z_7), .int (iz 3)]) (rest := []) ⟨hx, hb, hml, hown, hts⟩ (y_addRows3 l dC dI cI cB cE o (va_up rL8 1 r_25) (va_up nL8 1 n_26) (va_up zL8 1 z_27) (va_up FL8 1 F_28) G N Eo ErL8 EnL8 EzL8 EFL8 z_7 H.size hok30 hxG9 hRLL8.2.2.1 (by omega) (by omega)) (cwV 2 hts (kx_gV kq_18_xrows_48 kq_18_xrows_49 kq_18_xrows_50 kq_18_xrows_4 kq_18_xrows_51 rfl) rfl rfl rfl (by decide +kernel) ⟨Nat.le_of_ble_eq_true rfl, Nat.le_of_ble_eq_true rfl⟩) ⟨kx_blind, va_recv hK hP (ci := 5) (q0 := 0) rfl rfl, kx_give (ws := []) (tys := []) hP hD hK hG hZ hS hFc⟩ rfl rfl hl.1 rfl (lv_room (Nat.le_of_ble_eq_true rfl)) dX5_addRowsUnder_74 ⟨show (cv + dn_23) + 100 ≤ 200 from (by omega), show (sv + dm_24) + 45000 ≤ 90000 from (by omega)⟩) hS (fun q _ h => hFc q h) hFc (fun u dn_33 dm_34 t H locs ht hvm hq_31 hB hk1 hS => ?_)
              obtain ⟨r_35, n_36, z_37, F_38, Er_39, En_40, Ez_41, EF_42⟩ := u
              obtain ⟨hP, hK1, hD1⟩ := hB
              rw [ht] at hP
              have hD := hD1.weaken (fun _ q _ h => hFc _ h)
              obtain ⟨hR43, hC43, hq_31⟩ := hq_31
              have hok43 := hR43.1
              have hfr43 := hfr30.tr (hR43.2.1.mono (S' := [1]) (T' := [1]) (by decide) (by decide))
              have hPE43 := hR43.2.2.1
              have hef43 := hRLL8.2.2.2.tr (hR43.2.2.2.mono (S' := []) (T' := []) (by decide) (by decide))
              have hz43 : z_37 12 = (zL8 12) := hR43.2.1.1 12 (by decide)
              have hkz43_0 : z_37 0 = z 0 := hfr43.1 0 (by decide)
              refine W.eq (g2 := F0 m 77 ls []) rfl ?_
              try dsimp only at hq_31
              try simp (decide := true) only [va_ev, ↓reduceIte] at hq_31
              refine lv_iinc (v := iz (k + 1)) (lv' := [(3, .int (iz (k + 1))), (4, .int (iz z_7)), (0, .ref (o 15)), (1, .int (iz p0)), (2, .int (iz 2))]) hx hb dX5_addRowsUnder_77 hl (k := 1) rfl (iz_add k 1) (by decide) rfl (fun ls hl => ?_)
              refine lv_goto (tgt := 8) hx hb dX5_addRowsUnder_80 (by decide) ?_
              exact ih8 (k + 1) r_35 n_36 z_37 F_38 Er_39 En_40 Ez_41 EF_42 ((cv + dn_23) + dn_33) ((sv + dm_24) + dm_34) ⟨⟨hok43, hfr43, hPE43, hef43⟩, ⟨by omega, by omega⟩, (show z_37 12 = z 12 by omega), by omega⟩ (by omega) _ _ hP hD hS ls (lv_sub hl [0, 2, 3, 4] rfl)
    exact lp8 _ 0 r n z F Er En Ez EF 0 0 ⟨⟨hok, hfr, hPE, hef⟩, ⟨by omega, by omega⟩, (show z 12 = z 12 by omega), by omega⟩ (Nat.lt_succ_self _) _ _ hP hD hS ls (lv_sub hl [0, 1, 2, 3] rfl)
  · omega
set_option maxHeartbeats 4000000 in
set_option maxRecDepth 100000 in
theorem y_addRows1 (l : Launch) (dC : Nat → ClassId) (dI : Nat → Nat → Nat) (cI cB cE : ClassId) (o r n : Nat → Nat) (z : Nat → Int) (F : Nat → Int → Int) (G : Nat → Option Nat) (N : Nat) (Eo Er En : Nat → Nat → Nat) (Ez : Nat → Nat → Int) (EF : Nat → Nat → Int → Int) (p0 : Int) (sz : Nat) (hok : xOk n z F) (hxG : xG N (z 12) G Eo) (hPE : eA N En Ez EF) (hp01 : -2147483648 ≤ p0) (hp02 : p0 < 2147483648) : Met l yX5_addRowsUnder [.code yX5_addRowsUnder cX5_addRowsUnder 5 none] ({ frames := 4, cells := 300, slots := 135000, locals := 127 }) (va_Pc [.ref (o 15), .int (iz p0), .int (iz 1)] (kx_Pre dC dI (xU cI cB cE o r n z F G (Eo 0 0) ++ eP cI N Eo Er En Ez EF) (xT cI cB cE) sz)) (xQ (fun _ : (Nat → Nat) × (Nat → Nat) × (Nat → Int) × (Nat → Int → Int) × (Nat → Nat → Nat) × (Nat → Nat → Nat) × (Nat → Nat → Int) × (Nat → Nat → Int → Int) => none) (fun (u : (Nat → Nat) × (Nat → Nat) × (Nat → Int) × (Nat → Int → Int) × (Nat → Nat → Nat) × (Nat → Nat → Nat) × (Nat → Nat → Int) × (Nat → Nat → Int → Int)) (dn dm : Nat) => match u with | (r', n', z', F', Er', En', Ez', EF') => xR [1] [1] [] [] N z F En Ez EF n' z' F' En' Ez' EF' ∧ (dn + xg n' ≤ xg n + 0 ∧ dm + xp n' ≤ xp n + 0) ∧ (True)) (fun u t => kx_At dC dI (va_A (xU cI cB cE o r n z F G (Eo 0 0) ++ eP cI N Eo Er En Ez EF) sz) ((fun u : (Nat → Nat) × (Nat → Nat) × (Nat → Int) × (Nat → Int → Int) × (Nat → Nat → Nat) × (Nat → Nat → Nat) × (Nat → Nat → Int) × (Nat → Nat → Int → Int) => match u with | (r', n', z', F', Er', En', Ez', EF') => (xU cI cB cE o r' n' z' F' G (Eo 0 0) ++ eP cI N Eo Er' En' Ez' EF')) u) (xT cI cB cE) t) (va_A (xU cI cB cE o r n z F G (Eo 0 0) ++ eP cI N Eo Er En Ez EF) sz)) 300 135000 (va_A (xU cI cB cE o r n z F G (Eo 0 0) ++ eP cI N Eo Er En Ez EF) sz) := by
  refine Met.ofW (cc := cX5_addRowsUnder) (maxL := 5) (ret := none) (by decide) rfl ?_
  intro p e s m args below meth c s₁ B hml hv
  obtain ⟨rfl, hsz, hP, hK, hD0, hG, hZ⟩ := hv
  have hx := B.exec
  have hb := B.bytes
  have hr := B.returns
  have hts := kx_hts (a := ([.ref (o 15), .int (iz p0), .int (iz 1)] : List Value).toArray) hG
  have hown : s.vm.findClass RX5 = some m.cls := findClass_of_methodNamed B.named
  have hlocks := B.notSynchronized
  subst hsz
  have hD := hD0.self (sz := s.heap.size)
  generalize hAe : va_A (xU cI cB cE o r n z F G (Eo 0 0) ++ eP cI N Eo Er En Ez EF) s.heap.size = A at hD hZ ⊢
  have hA : ∀ q : Nat, s.heap.size ≤ q → A q := fun q h => by rw [← hAe]; exact Or.inr h
  have hS : va_S A s.heap s.heap [] := va_S.rf
  have hl := lv_entry ([.ref (o 15), .int (iz p0), .int (iz 1)]) (n := 5) (Nat.le_of_ble_eq_true rfl)
  rw [lg_entry_eq]
  generalize (lg_sl ([.ref (o 15), .int (iz p0), .int (iz 1)]) ++ List.replicate (5 - (lg_sl ([.ref (o 15), .int (iz p0), .int (iz 1)])).length) Slot.unset).toArray = ls at hl ⊢
  obtain ⟨hN1, hN2, hN3, hN4⟩ := hxG
  have hef : eFr [] [] En Ez EF En Ez EF := eFr.rf
  have hfr : xFr [1] [1] z F z F := xFr.rf
  have hxgl := xg_le n
  have hxpl := xp_le n
  have hl : lv_has ls 5 [(0, .ref (o 15)), (1, .int (iz p0)), (2, .int (iz 1))] := hl
  generalize hQe : MQ below (xQ (fun _ : (Nat → Nat) × (Nat → Nat) × (Nat → Int) × (Nat → Int → Int) × (Nat → Nat → Nat) × (Nat → Nat → Nat) × (Nat → Nat → Int) × (Nat → Nat → Int → Int) => none) (fun (u : (Nat → Nat) × (Nat → Nat) × (Nat → Int) × (Nat → Int → Int) × (Nat → Nat → Nat) × (Nat → Nat → Nat) × (Nat → Nat → Int) × (Nat → Nat → Int → Int)) (dn dm : Nat) => match u with | (r', n', z', F', Er', En', Ez', EF') => xR [1] [1] [] [] N z F En Ez EF n' z' F' En' Ez' EF' ∧ (dn + xg n' ≤ xg n + 0 ∧ dm + xp n' ≤ xp n + 0) ∧ (True)) (fun u t => kx_At dC dI A ((fun u : (Nat → Nat) × (Nat → Nat) × (Nat → Int) × (Nat → Int → Int) × (Nat → Nat → Nat) × (Nat → Nat → Nat) × (Nat → Nat → Int) × (Nat → Nat → Int → Int) => match u with | (r', n', z', F', Er', En', Ez', EF') => (xU cI cB cE o r' n' z' F' G (Eo 0 0) ++ eP cI N Eo Er' En' Ez' EF')) u) (xT cI cB cE) t) A) ([.ref (o 15), .int (iz p0), .int (iz 1)] : List Value).toArray s 300 135000 A = QQ
  have hz0 : 0 ≤ z 0 ∧ z 0 ≤ (n 0 : Int) ∧ (n 0 : Int) ≤ 80 := hok.1 0 (by decide)
  refine lv_iload_n hx hb dX5_addRowsUnder_0 rfl (lv_at hl 2 rfl) ?_
  refine lv_iconst (v := iz 3) hx hb dX5_addRowsUnder_1 (by decide) ?_
  refine ki_icmp_lt (tgt := 6) hx hb dX5_addRowsUnder_2 (by decide) (by omega) (by omega) (by omega) (by omega) (fun c_1 => ?_) (fun c_1 => ?_)
  · skip
    refine lv_iconst (v := iz 0) hx hb dX5_addRowsUnder_6 (by decide) ?_
    refine lv_istore_n (lv' := [(3, .int (iz 0)), (0, .ref (o 15)), (1, .int (iz p0)), (2, .int (iz 1))]) hx hb dX5_addRowsUnder_7 rfl hl (by decide) rfl (fun ls hl => ?_)
    have lp8 : ∀ (n0 : Nat) (k : Int) (rL8 : Nat → Nat) (nL8 : Nat → Nat) (zL8 : Nat → Int) (FL8 : Nat → Int → Int) (ErL8 : Nat → Nat → Nat) (EnL8 : Nat → Nat → Nat) (EzL8 : Nat → Nat → Int) (EFL8 : Nat → Nat → Int → Int) (cv : Nat) (sv : Nat), ((xR [1] [1] [] [] N z F En Ez EF nL8 zL8 FL8 EnL8 EzL8 EFL8) ∧ (cv + xg nL8 ≤ xg n + (0) ∧ sv + xp nL8 ≤ xp n + (0)) ∧ (zL8 12 = z 12) ∧ (0 ≤ k ∧ k ≤ 100)) → (z 0 - k).toNat < n0 → ∀ (H : Heap) (locs : List Loc), va_P (dC, dI) kxCl ((xU cI cB cE o rL8 nL8 zL8 FL8 G (Eo 0 0)) ++ (eP cI N Eo ErL8 EnL8 EzL8 EFL8)) H → va_D A ((xU cI cB cE o rL8 nL8 zL8 FL8 G (Eo 0 0)) ++ (eP cI N Eo ErL8 EnL8 EzL8 EFL8)) → va_S A s.heap H locs → ∀ ls : Array Slot, lv_has ls 5 [(3, .int (iz k)), (0, .ref (o 15)), (1, .int (iz p0)), (2, .int (iz 1))] → W p l e (headSpec [.code yX5_addRowsUnder cX5_addRowsUnder 5 none] ({ frames := 4, cells := 300, slots := 135000, locals := 127 })).room s m ([.ref (o 15), .int (iz p0), .int (iz 1)] : List Value).toArray below meth c H locs cv sv QQ (F0 m 8 ls []) := by
      intro n0
      induction n0 with
      | zero => intro k rL8 nL8 zL8 FL8 ErL8 EnL8 EzL8 EFL8 cv sv hinv hm0; exact absurd hm0 (Nat.not_lt_zero _)
      | succ n0 ih8 =>
        intro k rL8 nL8 zL8 FL8 ErL8 EnL8 EzL8 EFL8 cv sv hinv hm0 H locs hP hD hS ls hl
        obtain ⟨hRLL8, hCLL8, hZLL8, hk⟩ := hinv
        have hkzL8_0 : zL8 0 = z 0 := hRLL8.2.1.1 0 (by decide)
        refine lv_iload_n hx hb dX5_addRowsUnder_8 rfl (lv_at hl 0 rfl) ?_
        refine lv_aload_n hx hb dX5_addRowsUnder_9 rfl (lv_at hl 1 rfl) ?_
        refine va_get (D := (dC, dI)) (ci := 5) (v := .ref (o 0)) (C := RX5) (T := TX5) (N := 16) hx hb hts kt_X5 hown hK hP 0 rfl rfl 5 (by decide) (kx_word hG kq_18_xrows_37 rfl) (fun _ h9 => h9) rfl dX5_addRowsUnder_10 ?_
        have hxi_2 : 0 ≤ zL8 0 ∧ zL8 0 ≤ ((nL8 0 : Nat) : Int) ∧ ((nL8 0 : Nat) : Int) ≤ 80 := hRLL8.1.1 0 (by decide)
        have hPc := hP.sub (ws' := (iU cI 80 (o 0) (rL8 0) (nL8 0) (zL8 0) (FL8 0))) [2, 3] rfl
        refine xk_pure (va_runV (As := []) (rest := [.int (iz k)]) ⟨hx, hb, hml, hown, hts⟩ (x_size l dC dI cI cB cE 80 (o 0) (rL8 0) (nL8 0) (zL8 0) (FL8 0)  H.size ) (cwV 0 hts (kx_gV kq_18_xrows_40 kq_15_xspan_10 kq_15_xspan_11 kq_13_xints_6 kq_15_xspan_12 rfl) rfl rfl rfl (by decide +kernel) ⟨Nat.le_of_ble_eq_true rfl, Nat.le_of_ble_eq_true rfl⟩) ⟨pPre_blind, va_recv hK hPc (ci := 1) (q0 := 0) rfl rfl, pPre_give hPc hK hG⟩ rfl rfl hl.1 rfl (lv_room (Nat.le_of_ble_eq_true rfl)) dX5_addRowsUnder_13 ⟨show cv + 0 ≤ 300 from (by omega), show sv + 0 ≤ 135000 from (by omega)⟩) hS (fun z_4 locs hq_3 hS => ?_)
        refine W.eq (g2 := F0 m 16 ls [.int (iz z_4), .int (iz k)]) rfl ?_
        try dsimp only at hq_3
        have hq_3 := hq_3.symm
        subst hq_3
        refine ki_icmp_ge (tgt := 83) hx hb dX5_addRowsUnder_16 (by decide) (by omega) (by omega) (by omega) (by omega) (fun c_5 => ?_) (fun c_5 => ?_)
        · skip
          rw [← hQe]
          exact xk_vret (ov := (fun _ : (Nat → Nat) × (Nat → Nat) × (Nat → Int) × (Nat → Int → Int) × (Nat → Nat → Nat) × (Nat → Nat → Nat) × (Nat → Nat → Int) × (Nat → Nat → Int → Int) => none)) (post := (fun (u : (Nat → Nat) × (Nat → Nat) × (Nat → Int) × (Nat → Int → Int) × (Nat → Nat → Nat) × (Nat → Nat → Nat) × (Nat → Nat → Int) × (Nat → Nat → Int → Int)) (dn dm : Nat) => match u with | (r', n', z', F', Er', En', Ez', EF') => xR [1] [1] [] [] N z F En Ez EF n' z' F' En' Ez' EF' ∧ (dn + xg n' ≤ xg n + 0 ∧ dm + xp n' ≤ xp n + 0) ∧ (True))) (ws := (fun u : (Nat → Nat) × (Nat → Nat) × (Nat → Int) × (Nat → Int → Int) × (Nat → Nat → Nat) × (Nat → Nat → Nat) × (Nat → Nat → Int) × (Nat → Nat → Int → Int) => match u with | (r', n', z', F', Er', En', Ez', EF') => (xU cI cB cE o r' n' z' F' G (Eo 0 0) ++ eP cI N Eo Er' En' Ez' EF'))) (tys := xT cI cB cE) (rL8, nL8, zL8, FL8, ErL8, EnL8, EzL8, EFL8) hx hb hr hlocks rfl hP hD hK hS dX5_addRowsUnder_83 (fun dn dm hdn hdm => ⟨⟨hRLL8.1, hRLL8.2.1, hRLL8.2.2.1, hRLL8.2.2.2⟩, ⟨by omega, by omega⟩, trivial⟩) (by omega) (by omega)
        · skip
          refine lv_aload_n hx hb dX5_addRowsUnder_19 rfl (lv_at hl 1 rfl) ?_
          refine va_get (D := (dC, dI)) (ci := 5) (v := .ref (o 0)) (C := RX5) (T := TX5) (N := 16) hx hb hts kt_X5 hown hK hP 0 rfl rfl 5 (by decide) (kx_word hG kq_18_xrows_37 rfl) (fun _ h9 => h9) rfl dX5_addRowsUnder_20 ?_
          refine lv_iload_n hx hb dX5_addRowsUnder_23 rfl (lv_at hl 0 rfl) ?_
          have hPc := hP.sub (ws' := (iU cI 80 (o 0) (rL8 0) (nL8 0) (zL8 0) (FL8 0))) [2, 3] rfl
          refine xk_pure (va_runV (As := [.int (iz k)]) (rest := []) ⟨hx, hb, hml, hown, hts⟩ (x_get l dC dI cI cB cE 80 (o 0) (rL8 0) (nL8 0) (zL8 0) (FL8 0) k H.size (by omega) (hRLL8.1.2.2.1 0) (by omega) (by omega)) (cwV 1 hts (kx_gV kq_18_xrows_41 kq_13_xints_4 kq_13_xints_5 kq_13_xints_6 kq_13_xints_7 rfl) rfl rfl rfl (by decide +kernel) ⟨Nat.le_of_ble_eq_true rfl, Nat.le_of_ble_eq_true rfl⟩) ⟨pPre_blind, va_recv hK hPc (ci := 1) (q0 := 0) rfl rfl, pPre_give hPc hK hG⟩ rfl rfl hl.1 rfl (lv_room (Nat.le_of_ble_eq_true rfl)) dX5_addRowsUnder_24 ⟨show cv + 0 ≤ 300 from (by omega), show sv + 0 ≤ 135000 from (by omega)⟩) hS (fun z_7 locs hq_6 hS => ?_)
          refine W.eq (g2 := F0 m 27 ls [.int (iz z_7)]) rfl ?_
          try dsimp only at hq_6
          refine lv_istore (lv' := [(4, .int (iz z_7)), (3, .int (iz k)), (0, .ref (o 15)), (1, .int (iz p0)), (2, .int (iz 1))]) hx hb dX5_addRowsUnder_27 hl (by decide) rfl (fun ls hl => ?_)
          refine lv_aload_n hx hb dX5_addRowsUnder_29 rfl (lv_at hl 2 rfl) ?_
          refine lv_iload hx hb dX5_addRowsUnder_30 (lv_at hl 0 rfl) ?_
          have hxz_8 : -2147483648 ≤ zL8 12 ∧ zL8 12 < 2147483648 := hRLL8.1.2.2.2.1 12
          have hxG9 : xG N (zL8 12) G Eo := ⟨by omega, by omega, by omega, fun e9 h9 => hN4 e9 (by omega)⟩
          have hP : va_P (dC, dI) kxCl (xU cI cB cE o rL8 nL8 zL8 FL8 G (Eo 0 0) ++ eP cI N Eo ErL8 EnL8 EzL8 EFL8) H := hP
          refine xk_pure (va_runV (As := [.int (iz z_7)]) (rest := []) ⟨hx, hb, hml, hown, hts⟩ (y_known l dC dI cI cB cE o rL8 nL8 zL8 FL8 G N Eo ErL8 EnL8 EzL8 EFL8 z_7 H.size hRLL8.1 hxG9 hRLL8.2.2.1 (by omega) (by omega)) (cwV 1 hts (kx_gV kq_18_xrows_8 kq_18_xrows_9 kq_18_xrows_10 kq_18_xrows_4 kq_18_xrows_11 rfl) rfl rfl rfl (by decide +kernel) ⟨Nat.le_of_ble_eq_true rfl, Nat.le_of_ble_eq_true rfl⟩) ⟨pPre_blind, va_recv hK hP (ci := 5) (q0 := 0) rfl rfl, pPre_give hP hK hG⟩ rfl rfl hl.1 rfl (lv_room (Nat.le_of_ble_eq_true rfl)) dX5_addRowsUnder_32 ⟨show cv + 0 ≤ 300 from (by omega), show sv + 0 ≤ 135000 from (by omega)⟩) hS (fun z_10 locs hq_9 hS => ?_)
          refine W.eq (g2 := F0 m 35 ls [.ref z_10.toNat]) rfl ?_
          try dsimp only at hq_9
          obtain ⟨j11, hj11, ez11, hje11⟩ := hq_9
          subst ez11
          refine W.eq (g2 := F0 m 35 ls [.ref (Eo j11 0)]) rfl ?_
          have hP := eP_foc hj11 hP
          have hD := eD_foc hj11 hD
          have hez_12 : -2147483648 ≤ EzL8 j11 7 ∧ EzL8 j11 7 < 2147483648 := (hRLL8.2.2.1 j11 hj11).2.2 7
          refine va_getN (D := (dC, dI)) (ci := 0) (v := .int (iz (EzL8 j11 7))) (C := RX0) (T := TX0) (N := 12) hx hb hts kt_X0 hown hK hP 29 rfl rfl 0 (by decide) (va_Nw.use rfl (kx_nf hG kq_18_xrows_12)) (fun _ h9 => h9) rfl dX5_addRowsUnder_35 ?_
          refine lv_iload_n hx hb dX5_addRowsUnder_38 rfl (lv_at hl 4 rfl) ?_
          refine ki_icmp_ne (tgt := 77) hx hb dX5_addRowsUnder_39 (by decide) (by omega) (by omega) (by omega) (by omega) (fun c_13 => ?_) (fun c_13 => ?_)
          · skip
            refine lv_iinc (v := iz (k + 1)) (lv' := [(3, .int (iz (k + 1))), (4, .int (iz z_7)), (0, .ref (o 15)), (1, .int (iz p0)), (2, .int (iz 1))]) hx hb dX5_addRowsUnder_77 hl (k := 1) rfl (iz_add k 1) (by decide) rfl (fun ls hl => ?_)
            refine lv_goto (tgt := 8) hx hb dX5_addRowsUnder_80 (by decide) ?_
            have hP := eP_un0 hj11 hP
            have hD := eD_un0 hj11 hD
            exact ih8 (k + 1) rL8 nL8 zL8 FL8 ErL8 EnL8 EzL8 EFL8 cv sv ⟨⟨hRLL8.1, hRLL8.2.1, hRLL8.2.2.1, hRLL8.2.2.2⟩, ⟨by omega, by omega⟩, (show zL8 12 = z 12 by omega), by omega⟩ (by omega) _ _ hP hD hS ls (lv_sub hl [0, 2, 3, 4] rfl)
          · skip
            refine lv_aload_n hx hb dX5_addRowsUnder_42 rfl (lv_at hl 2 rfl) ?_
            refine lv_aload_n hx hb dX5_addRowsUnder_43 rfl (lv_at hl 2 rfl) ?_
            refine lv_iload hx hb dX5_addRowsUnder_44 (lv_at hl 0 rfl) ?_
            have hP := eP_un0 hj11 hP
            have hD := eD_un0 hj11 hD
            have hxG9 : xG N (zL8 12) G Eo := ⟨by omega, by omega, by omega, fun e9 h9 => hN4 e9 (by omega)⟩
            have hP : va_P (dC, dI) kxCl (xU cI cB cE o rL8 nL8 zL8 FL8 G (Eo 0 0) ++ eP cI N Eo ErL8 EnL8 EzL8 EFL8) H := hP
            refine xk_pure (va_runV (As := [.int (iz z_7)]) (rest := [.ref (o 15)]) ⟨hx, hb, hml, hown, hts⟩ (y_known l dC dI cI cB cE o rL8 nL8 zL8 FL8 G N Eo ErL8 EnL8 EzL8 EFL8 z_7 H.size hRLL8.1 hxG9 hRLL8.2.2.1 (by omega) (by omega)) (cwV 1 hts (kx_gV kq_18_xrows_8 kq_18_xrows_9 kq_18_xrows_10 kq_18_xrows_4 kq_18_xrows_11 rfl) rfl rfl rfl (by decide +kernel) ⟨Nat.le_of_ble_eq_true rfl, Nat.le_of_ble_eq_true rfl⟩) ⟨pPre_blind, va_recv hK hP (ci := 5) (q0 := 0) rfl rfl, pPre_give hP hK hG⟩ rfl rfl hl.1 rfl (lv_room (Nat.le_of_ble_eq_true rfl)) dX5_addRowsUnder_46 ⟨show cv + 0 ≤ 300 from (by omega), show sv + 0 ≤ 135000 from (by omega)⟩) hS (fun z_15 locs hq_14 hS => ?_)
            refine W.eq (g2 := F0 m 49 ls [.ref z_15.toNat, .ref (o 15)]) rfl ?_
            try dsimp only at hq_14
            obtain ⟨j16, hj16, ez16, hje16⟩ := hq_14
            subst ez16
            refine W.eq (g2 := F0 m 49 ls [.ref (Eo j16 0), .ref (o 15)]) rfl ?_
            have hP := eP_foc hj16 hP
            have hD := eD_foc hj16 hD
            have hez_17 : -2147483648 ≤ EzL8 j16 8 ∧ EzL8 j16 8 < 2147483648 := (hRLL8.2.2.1 j16 hj16).2.2 8
            refine va_getN (D := (dC, dI)) (ci := 0) (v := .int (iz (EzL8 j16 8))) (C := RX0) (T := TX0) (N := 12) hx hb hts kt_X0 hown hK hP 29 rfl rfl 1 (by decide) (va_Nw.use rfl (kx_nf hG kq_18_xrows_14)) (fun _ h9 => h9) rfl dX5_addRowsUnder_49 ?_
            have hP := eP_un0 hj16 hP
            have hD := eD_un0 hj16 hD
            have hxG9 : xG N (zL8 12) G Eo := ⟨by omega, by omega, by omega, fun e9 h9 => hN4 e9 (by omega)⟩
            have hP : va_P (dC, dI) kxCl (xU cI cB cE o rL8 nL8 zL8 FL8 G (Eo 0 0) ++ eP cI N Eo ErL8 EnL8 EzL8 EFL8) H := hP
            refine xk_pure (va_runV (As := [.int (iz (EzL8 j16 8))]) (rest := []) ⟨hx, hb, hml, hown, hts⟩ (y_firstOf l dC dI cI cB cE o rL8 nL8 zL8 FL8 G N Eo ErL8 EnL8 EzL8 EFL8 (EzL8 j16 8) H.size hRLL8.1 hxG9 hRLL8.2.2.1 (by omega) (by omega)) (cwV 1 hts (kx_gV kq_18_xrows_15 kq_18_xrows_16 kq_18_xrows_17 kq_18_xrows_4 kq_18_xrows_18 rfl) rfl rfl rfl (by decide +kernel) ⟨Nat.le_of_ble_eq_true rfl, Nat.le_of_ble_eq_true rfl⟩) ⟨pPre_blind, va_recv hK hP (ci := 5) (q0 := 0) rfl rfl, pPre_give hP hK hG⟩ rfl rfl hl.1 rfl (lv_room (Nat.le_of_ble_eq_true rfl)) dX5_addRowsUnder_52 ⟨show cv + 0 ≤ 300 from (by omega), show sv + 0 ≤ 135000 from (by omega)⟩) hS (fun z_19 locs hq_18 hS => ?_)
            refine W.eq (g2 := F0 m 55 ls [.int (iz z_19)]) rfl ?_
            try dsimp only at hq_18
            refine lv_iload_n hx hb dX5_addRowsUnder_55 rfl (lv_at hl 3 rfl) ?_
            refine ki_icmp_ne (tgt := 77) hx hb dX5_addRowsUnder_56 (by decide) (by omega) (by omega) (by omega) (by omega) (fun c_20 => ?_) (fun c_20 => ?_)
            · skip
              refine lv_iinc (v := iz (k + 1)) (lv' := [(3, .int (iz (k + 1))), (4, .int (iz z_7)), (0, .ref (o 15)), (1, .int (iz p0)), (2, .int (iz 1))]) hx hb dX5_addRowsUnder_77 hl (k := 1) rfl (iz_add k 1) (by decide) rfl (fun ls hl => ?_)
              refine lv_goto (tgt := 8) hx hb dX5_addRowsUnder_80 (by decide) ?_
              exact ih8 (k + 1) rL8 nL8 zL8 FL8 ErL8 EnL8 EzL8 EFL8 cv sv ⟨⟨hRLL8.1, hRLL8.2.1, hRLL8.2.2.1, hRLL8.2.2.2⟩, ⟨by omega, by omega⟩, (show zL8 12 = z 12 by omega), by omega⟩ (by omega) _ _ hP hD hS ls (lv_sub hl [0, 2, 3, 4] rfl)
            · skip
              refine lv_aload_n hx hb dX5_addRowsUnder_59 rfl (lv_at hl 2 rfl) ?_
              refine va_get (D := (dC, dI)) (ci := 5) (v := .ref (o 1)) (C := RX5) (T := TX5) (N := 16) hx hb hts kt_X5 hown hK hP 0 rfl rfl 6 (by decide) (kx_word hG kq_18_xrows_47 rfl) (fun _ h9 => h9) rfl dX5_addRowsUnder_60 ?_
              refine lv_iload hx hb dX5_addRowsUnder_63 (lv_at hl 0 rfl) ?_
              have hxi_21 : 0 ≤ zL8 1 ∧ zL8 1 ≤ ((nL8 1 : Nat) : Int) ∧ ((nL8 1 : Nat) : Int) ≤ 80 := hRLL8.1.1 1 (by decide)
              have hPc := hP.sub (ws' := (iU cI 80 (o 1) (rL8 1) (nL8 1) (zL8 1) (FL8 1))) [4, 5] rfl
              have hDc := hD.sub (ws' := (iU cI 80 (o 1) (rL8 1) (nL8 1) (zL8 1) (FL8 1))) [4, 5] (by decide) rfl
              have hFc := va_free (wc := (iU cI 80 (o 1) (rL8 1) (nL8 1) (zL8 1) (FL8 1))) hD hS hA [4, 5] rfl
              refine xk_call (va_runV (As := [.int (iz z_7)]) (rest := []) ⟨hx, hb, hml, hown, hts⟩ (x_add l dC dI cI cB cE 80 (o 1) (rL8 1) (nL8 1) (zL8 1) (FL8 1) z_7 H.size (by omega) (hRLL8.1.2.2.1 1) (by omega) (by omega)) (cwV 1 hts (kx_gV kq_18_xrows_39 kq_15_xspan_46 kq_15_xspan_47 kq_13_xints_6 kq_15_xspan_48 rfl) rfl rfl rfl (by decide +kernel) ⟨Nat.le_of_ble_eq_true rfl, Nat.le_of_ble_eq_true rfl⟩) ⟨kx_blind, va_recv hK hPc (ci := 1) (q0 := 0) rfl rfl, kx_give (ws := []) (tys := []) hPc hDc hK hG hZ hS hFc⟩ rfl rfl hl.1 rfl (lv_room (Nat.le_of_ble_eq_true rfl)) dX5_addRowsUnder_65 ⟨show cv + 1 ≤ 300 from (by omega), show sv + 1600 ≤ 135000 from (by omega)⟩) hS (fun q _ h => hFc q h) hFc (fun u dn_23 dm_24 t H locs ht hvm hq_22 hB hk1 hS => ?_)
              obtain ⟨r_25, n_26, z_27, F_28⟩ := u
              obtain ⟨hP1, hK1, hD1⟩ := hB
              rw [ht] at hP1
              obtain ⟨hP, hD⟩ := xj_pool (wr := [(o 15, .inr (5, [.ref (o 16), .ref (Eo 0 0), .int (iz (zL8 12)), .int (iz (zL8 13)), .int (iz (zL8 14)), .ref (o 0), .ref (o 1), .int (iz (zL8 15)), .ref (o 13), .ref (o 14), .int (iz (zL8 16)), .ref (o 2), .ref (o 12), .ref (o 3), .ref (o 10), .ref (o 11)])), (o 16, .inl (cE, 80, .inr (.inr (.inr (.inr G))))), (o 0, .inr (1, [.int (iz 80), .ref (rL8 0), .int (iz (zL8 0))])), (rL8 0, .inl (cI, nL8 0, .inl (iA (FL8 0)))), (o 2, .inr (1, [.int (iz 80), .ref (rL8 2), .int (iz (zL8 2))])), (rL8 2, .inl (cI, nL8 2, .inl (iA (FL8 2)))), (o 3, .inr (1, [.int (iz 80), .ref (rL8 3), .int (iz (zL8 3))])), (rL8 3, .inl (cI, nL8 3, .inl (iA (FL8 3)))), (o 13, .inr (3, [.ref (o 4), .ref (o 5), .ref (o 6)])), (o 4, .inr (1, [.int (iz 1600), .ref (rL8 4), .int (iz (zL8 4))])), (rL8 4, .inl (cI, nL8 4, .inl (iA (FL8 4)))), (o 5, .inr (1, [.int (iz 1600), .ref (rL8 5), .int (iz (zL8 5))])), (rL8 5, .inl (cI, nL8 5, .inl (iA (FL8 5)))), (o 6, .inr (1, [.int (iz 1600), .ref (rL8 6), .int (iz (zL8 6))])), (rL8 6, .inl (cI, nL8 6, .inl (iA (FL8 6)))), (o 14, .inr (3, [.ref (o 7), .ref (o 8), .ref (o 9)])), (o 7, .inr (1, [.int (iz 1600), .ref (rL8 7), .int (iz (zL8 7))])), (rL8 7, .inl (cI, nL8 7, .inl (iA (FL8 7)))), (o 8, .inr (1, [.int (iz 1600), .ref (rL8 8), .int (iz (zL8 8))])), (rL8 8, .inl (cI, nL8 8, .inl (iA (FL8 8)))), (o 9, .inr (1, [.int (iz 1600), .ref (rL8 9), .int (iz (zL8 9))])), (rL8 9, .inl (cI, nL8 9, .inl (iA (FL8 9)))), (o 12, .inr (4, [.int (iz (zL8 17)), .int (iz (zL8 18)), .int (iz (zL8 19)), .int (iz (zL8 20)), .int (iz (zL8 21))])), (o 10, .inr (2, [.ref (rL8 10), .int (iz (zL8 10)), .int (iz (zL8 22))])), (rL8 10, .inl (cB, nL8 10, .inl (iA (FL8 10)))), (o 11, .inr (2, [.ref (rL8 11), .int (iz (zL8 11)), .int (iz (zL8 23))])), (rL8 11, .inl (cB, nL8 11, .inl (iA (FL8 11))))]) (w1 := (iU cI 80 (o 1) r_25 n_26 z_27 F_28)) (ws' := (xU cI cB cE o (va_up rL8 1 r_25) (va_up nL8 1 n_26) (va_up zL8 1 z_27) (va_up FL8 1 F_28) G (Eo 0 0))) hP hD [4, 5] [0, 1, 2, 3, 6, 7, 8, 9, 10, 11, 12, 13, 14, 15, 16, 17, 18, 19, 20, 21, 22, 23, 24, 25, 26, 27, 28] [0, 1, 2, 3, 27, 28, 4, 5, 6, 7, 8, 9, 10, 11, 12, 13, 14, 15, 16, 17, 18, 19, 20, 21, 22, 23, 24, 25, 26] rfl rfl (by decide) (by decide) hk1 hFc hP1 hD1 rfl (by decide)
              refine W.eq (g2 := F0 m 68 ls []) rfl ?_
              try dsimp only at hq_22
              obtain ⟨ha29, hb29, hc29, hd29⟩ := hq_22
              have hax29 := hd29.1
              refine lv_aload_n hx hb dX5_addRowsUnder_68 rfl (lv_at hl 2 rfl) ?_
              refine lv_iload hx hb dX5_addRowsUnder_69 (lv_at hl 0 rfl) ?_
              refine lv_iload_n hx hb dX5_addRowsUnder_71 rfl (lv_at hl 4 rfl) ?_
              refine lv_iconst (v := iz 1) hx hb dX5_addRowsUnder_72 (by decide) ?_
              refine ki_iadd hx hb dX5_addRowsUnder_73 ?_
              refine ki_is (show iz (1 + 1) = iz 2 from rfl) ?_
              have hok30 : xOk (va_up nL8 1 n_26) (va_up zL8 1 z_27) (va_up FL8 1 F_28) := (hRLL8.1.i 1 (by decide) (show 0 ≤ z_27 ∧ z_27 ≤ ((n_26 : Nat) : Int) ∧ ((n_26 : Nat) : Int) ≤ 80 by omega) hb29)
              have hfr30 : xFr [1] [1] z F (va_up zL8 1 z_27) (va_up FL8 1 F_28) := ((hRLL8.2.1.uz 1 (by decide) _).uf 1 (by decide) _)
              have hcg30 : (dn_23) + xg (va_up nL8 1 n_26) ≤ xg nL8 := by unfold xg; simp (decide := true) only [va_ev, ↓reduceIte]; omega
              have hcp30 : (dm_24) + xp (va_up nL8 1 n_26) ≤ xp nL8 := by unfold xp; simp (decide := true) only [va_ev, ↓reduceIte]; omega
              have hxG9 : xG N (zL8 12) G Eo := ⟨by omega, by omega, by omega, fun e9 h9 => hN4 e9 (by omega)⟩
              have hP : va_P (dC, dI) kxCl (xU cI cB cE o (va_up rL8 1 r_25) (va_up nL8 1 n_26) (va_up zL8 1 z_27) (va_up FL8 1 F_28) G (Eo 0 0) ++ eP cI N Eo ErL8 EnL8 EzL8 EFL8) H := hP
              have hD : va_D A (xU cI cB cE o (va_up rL8 1 r_25) (va_up nL8 1 n_26) (va_up zL8 1 z_27) (va_up FL8 1 F_28) G (Eo 0 0) ++ eP cI N Eo ErL8 EnL8 EzL8 EFL8) := hD
              have hFc := xw_free hD hS hA
              refine xk_call (va_runV (As := [.int (iz z_7), .int (iz 2)]) (rest := []) ⟨hx, hb, hml, hown, hts⟩ (y_addRows2 l dC dI cI cB cE o (va_up rL8 1 r_25) (va_up nL8 1 n_26) (va_up zL8 1 z_27) (va_up FL8 1 F_28) G N Eo ErL8 EnL8 EzL8 EFL8 z_7 H.size hok30 hxG9 hRLL8.2.2.1 (by omega) (by omega)) (cwV 2 hts (kx_gV kq_18_xrows_48 kq_18_xrows_49 kq_18_xrows_50 kq_18_xrows_4 kq_18_xrows_51 rfl) rfl rfl rfl (by decide +kernel) ⟨Nat.le_of_ble_eq_true rfl, Nat.le_of_ble_eq_true rfl⟩) ⟨kx_blind, va_recv hK hP (ci := 5) (q0 := 0) rfl rfl, kx_give (ws := []) (tys := []) hP hD hK hG hZ hS hFc⟩ rfl rfl hl.1 rfl (lv_room (Nat.le_of_ble_eq_true rfl)) dX5_addRowsUnder_74 ⟨show (cv + dn_23) + 200 ≤ 300 from (by omega), show (sv + dm_24) + 90000 ≤ 135000 from (by omega)⟩) hS (fun q _ h => hFc q h) hFc (fun u dn_33 dm_34 t H locs ht hvm hq_31 hB hk1 hS => ?_)
              obtain ⟨r_35, n_36, z_37, F_38, Er_39, En_40, Ez_41, EF_42⟩ := u
              obtain ⟨hP, hK1, hD1⟩ := hB
              rw [ht] at hP
              have hD := hD1.weaken (fun _ q _ h => hFc _ h)
              obtain ⟨hR43, hC43, hq_31⟩ := hq_31
              have hok43 := hR43.1
              have hfr43 := hfr30.tr (hR43.2.1.mono (S' := [1]) (T' := [1]) (by decide) (by decide))
              have hPE43 := hR43.2.2.1
              have hef43 := hRLL8.2.2.2.tr (hR43.2.2.2.mono (S' := []) (T' := []) (by decide) (by decide))
              have hz43 : z_37 12 = (zL8 12) := hR43.2.1.1 12 (by decide)
              have hkz43_0 : z_37 0 = z 0 := hfr43.1 0 (by decide)
              refine W.eq (g2 := F0 m 77 ls []) rfl ?_
              try dsimp only at hq_31
              try simp (decide := true) only [va_ev, ↓reduceIte] at hq_31
              refine lv_iinc (v := iz (k + 1)) (lv' := [(3, .int (iz (k + 1))), (4, .int (iz z_7)), (0, .ref (o 15)), (1, .int (iz p0)), (2, .int (iz 1))]) hx hb dX5_addRowsUnder_77 hl (k := 1) rfl (iz_add k 1) (by decide) rfl (fun ls hl => ?_)
              refine lv_goto (tgt := 8) hx hb dX5_addRowsUnder_80 (by decide) ?_
              exact ih8 (k + 1) r_35 n_36 z_37 F_38 Er_39 En_40 Ez_41 EF_42 ((cv + dn_23) + dn_33) ((sv + dm_24) + dm_34) ⟨⟨hok43, hfr43, hPE43, hef43⟩, ⟨by omega, by omega⟩, (show z_37 12 = z 12 by omega), by omega⟩ (by omega) _ _ hP hD hS ls (lv_sub hl [0, 2, 3, 4] rfl)
    exact lp8 _ 0 r n z F Er En Ez EF 0 0 ⟨⟨hok, hfr, hPE, hef⟩, ⟨by omega, by omega⟩, (show z 12 = z 12 by omega), by omega⟩ (Nat.lt_succ_self _) _ _ hP hD hS ls (lv_sub hl [0, 1, 2, 3] rfl)
  · omega
set_option maxHeartbeats 4000000 in
set_option maxRecDepth 100000 in
theorem y_addRows0 (l : Launch) (dC : Nat → ClassId) (dI : Nat → Nat → Nat) (cI cB cE : ClassId) (o r n : Nat → Nat) (z : Nat → Int) (F : Nat → Int → Int) (G : Nat → Option Nat) (N : Nat) (Eo Er En : Nat → Nat → Nat) (Ez : Nat → Nat → Int) (EF : Nat → Nat → Int → Int) (p0 : Int) (sz : Nat) (hok : xOk n z F) (hxG : xG N (z 12) G Eo) (hPE : eA N En Ez EF) (hp01 : -2147483648 ≤ p0) (hp02 : p0 < 2147483648) : Met l yX5_addRowsUnder [.code yX5_addRowsUnder cX5_addRowsUnder 5 none] ({ frames := 5, cells := 400, slots := 180000, locals := 151 }) (va_Pc [.ref (o 15), .int (iz p0), .int (iz 0)] (kx_Pre dC dI (xU cI cB cE o r n z F G (Eo 0 0) ++ eP cI N Eo Er En Ez EF) (xT cI cB cE) sz)) (xQ (fun _ : (Nat → Nat) × (Nat → Nat) × (Nat → Int) × (Nat → Int → Int) × (Nat → Nat → Nat) × (Nat → Nat → Nat) × (Nat → Nat → Int) × (Nat → Nat → Int → Int) => none) (fun (u : (Nat → Nat) × (Nat → Nat) × (Nat → Int) × (Nat → Int → Int) × (Nat → Nat → Nat) × (Nat → Nat → Nat) × (Nat → Nat → Int) × (Nat → Nat → Int → Int)) (dn dm : Nat) => match u with | (r', n', z', F', Er', En', Ez', EF') => xR [1] [1] [] [] N z F En Ez EF n' z' F' En' Ez' EF' ∧ (dn + xg n' ≤ xg n + 0 ∧ dm + xp n' ≤ xp n + 0) ∧ (True)) (fun u t => kx_At dC dI (va_A (xU cI cB cE o r n z F G (Eo 0 0) ++ eP cI N Eo Er En Ez EF) sz) ((fun u : (Nat → Nat) × (Nat → Nat) × (Nat → Int) × (Nat → Int → Int) × (Nat → Nat → Nat) × (Nat → Nat → Nat) × (Nat → Nat → Int) × (Nat → Nat → Int → Int) => match u with | (r', n', z', F', Er', En', Ez', EF') => (xU cI cB cE o r' n' z' F' G (Eo 0 0) ++ eP cI N Eo Er' En' Ez' EF')) u) (xT cI cB cE) t) (va_A (xU cI cB cE o r n z F G (Eo 0 0) ++ eP cI N Eo Er En Ez EF) sz)) 400 180000 (va_A (xU cI cB cE o r n z F G (Eo 0 0) ++ eP cI N Eo Er En Ez EF) sz) := by
  refine Met.ofW (cc := cX5_addRowsUnder) (maxL := 5) (ret := none) (by decide) rfl ?_
  intro p e s m args below meth c s₁ B hml hv
  obtain ⟨rfl, hsz, hP, hK, hD0, hG, hZ⟩ := hv
  have hx := B.exec
  have hb := B.bytes
  have hr := B.returns
  have hts := kx_hts (a := ([.ref (o 15), .int (iz p0), .int (iz 0)] : List Value).toArray) hG
  have hown : s.vm.findClass RX5 = some m.cls := findClass_of_methodNamed B.named
  have hlocks := B.notSynchronized
  subst hsz
  have hD := hD0.self (sz := s.heap.size)
  generalize hAe : va_A (xU cI cB cE o r n z F G (Eo 0 0) ++ eP cI N Eo Er En Ez EF) s.heap.size = A at hD hZ ⊢
  have hA : ∀ q : Nat, s.heap.size ≤ q → A q := fun q h => by rw [← hAe]; exact Or.inr h
  have hS : va_S A s.heap s.heap [] := va_S.rf
  have hl := lv_entry ([.ref (o 15), .int (iz p0), .int (iz 0)]) (n := 5) (Nat.le_of_ble_eq_true rfl)
  rw [lg_entry_eq]
  generalize (lg_sl ([.ref (o 15), .int (iz p0), .int (iz 0)]) ++ List.replicate (5 - (lg_sl ([.ref (o 15), .int (iz p0), .int (iz 0)])).length) Slot.unset).toArray = ls at hl ⊢
  obtain ⟨hN1, hN2, hN3, hN4⟩ := hxG
  have hef : eFr [] [] En Ez EF En Ez EF := eFr.rf
  have hfr : xFr [1] [1] z F z F := xFr.rf
  have hxgl := xg_le n
  have hxpl := xp_le n
  have hl : lv_has ls 5 [(0, .ref (o 15)), (1, .int (iz p0)), (2, .int (iz 0))] := hl
  generalize hQe : MQ below (xQ (fun _ : (Nat → Nat) × (Nat → Nat) × (Nat → Int) × (Nat → Int → Int) × (Nat → Nat → Nat) × (Nat → Nat → Nat) × (Nat → Nat → Int) × (Nat → Nat → Int → Int) => none) (fun (u : (Nat → Nat) × (Nat → Nat) × (Nat → Int) × (Nat → Int → Int) × (Nat → Nat → Nat) × (Nat → Nat → Nat) × (Nat → Nat → Int) × (Nat → Nat → Int → Int)) (dn dm : Nat) => match u with | (r', n', z', F', Er', En', Ez', EF') => xR [1] [1] [] [] N z F En Ez EF n' z' F' En' Ez' EF' ∧ (dn + xg n' ≤ xg n + 0 ∧ dm + xp n' ≤ xp n + 0) ∧ (True)) (fun u t => kx_At dC dI A ((fun u : (Nat → Nat) × (Nat → Nat) × (Nat → Int) × (Nat → Int → Int) × (Nat → Nat → Nat) × (Nat → Nat → Nat) × (Nat → Nat → Int) × (Nat → Nat → Int → Int) => match u with | (r', n', z', F', Er', En', Ez', EF') => (xU cI cB cE o r' n' z' F' G (Eo 0 0) ++ eP cI N Eo Er' En' Ez' EF')) u) (xT cI cB cE) t) A) ([.ref (o 15), .int (iz p0), .int (iz 0)] : List Value).toArray s 400 180000 A = QQ
  have hz0 : 0 ≤ z 0 ∧ z 0 ≤ (n 0 : Int) ∧ (n 0 : Int) ≤ 80 := hok.1 0 (by decide)
  refine lv_iload_n hx hb dX5_addRowsUnder_0 rfl (lv_at hl 2 rfl) ?_
  refine lv_iconst (v := iz 3) hx hb dX5_addRowsUnder_1 (by decide) ?_
  refine ki_icmp_lt (tgt := 6) hx hb dX5_addRowsUnder_2 (by decide) (by omega) (by omega) (by omega) (by omega) (fun c_1 => ?_) (fun c_1 => ?_)
  · skip
    refine lv_iconst (v := iz 0) hx hb dX5_addRowsUnder_6 (by decide) ?_
    refine lv_istore_n (lv' := [(3, .int (iz 0)), (0, .ref (o 15)), (1, .int (iz p0)), (2, .int (iz 0))]) hx hb dX5_addRowsUnder_7 rfl hl (by decide) rfl (fun ls hl => ?_)
    have lp8 : ∀ (n0 : Nat) (k : Int) (rL8 : Nat → Nat) (nL8 : Nat → Nat) (zL8 : Nat → Int) (FL8 : Nat → Int → Int) (ErL8 : Nat → Nat → Nat) (EnL8 : Nat → Nat → Nat) (EzL8 : Nat → Nat → Int) (EFL8 : Nat → Nat → Int → Int) (cv : Nat) (sv : Nat), ((xR [1] [1] [] [] N z F En Ez EF nL8 zL8 FL8 EnL8 EzL8 EFL8) ∧ (cv + xg nL8 ≤ xg n + (0) ∧ sv + xp nL8 ≤ xp n + (0)) ∧ (zL8 12 = z 12) ∧ (0 ≤ k ∧ k ≤ 100)) → (z 0 - k).toNat < n0 → ∀ (H : Heap) (locs : List Loc), va_P (dC, dI) kxCl ((xU cI cB cE o rL8 nL8 zL8 FL8 G (Eo 0 0)) ++ (eP cI N Eo ErL8 EnL8 EzL8 EFL8)) H → va_D A ((xU cI cB cE o rL8 nL8 zL8 FL8 G (Eo 0 0)) ++ (eP cI N Eo ErL8 EnL8 EzL8 EFL8)) → va_S A s.heap H locs → ∀ ls : Array Slot, lv_has ls 5 [(3, .int (iz k)), (0, .ref (o 15)), (1, .int (iz p0)), (2, .int (iz 0))] → W p l e (headSpec [.code yX5_addRowsUnder cX5_addRowsUnder 5 none] ({ frames := 5, cells := 400, slots := 180000, locals := 151 })).room s m ([.ref (o 15), .int (iz p0), .int (iz 0)] : List Value).toArray below meth c H locs cv sv QQ (F0 m 8 ls []) := by
      intro n0
      induction n0 with
      | zero => intro k rL8 nL8 zL8 FL8 ErL8 EnL8 EzL8 EFL8 cv sv hinv hm0; exact absurd hm0 (Nat.not_lt_zero _)
      | succ n0 ih8 =>
        intro k rL8 nL8 zL8 FL8 ErL8 EnL8 EzL8 EFL8 cv sv hinv hm0 H locs hP hD hS ls hl
        obtain ⟨hRLL8, hCLL8, hZLL8, hk⟩ := hinv
        have hkzL8_0 : zL8 0 = z 0 := hRLL8.2.1.1 0 (by decide)
        refine lv_iload_n hx hb dX5_addRowsUnder_8 rfl (lv_at hl 0 rfl) ?_
        refine lv_aload_n hx hb dX5_addRowsUnder_9 rfl (lv_at hl 1 rfl) ?_
        refine va_get (D := (dC, dI)) (ci := 5) (v := .ref (o 0)) (C := RX5) (T := TX5) (N := 16) hx hb hts kt_X5 hown hK hP 0 rfl rfl 5 (by decide) (kx_word hG kq_18_xrows_37 rfl) (fun _ h9 => h9) rfl dX5_addRowsUnder_10 ?_
        have hxi_2 : 0 ≤ zL8 0 ∧ zL8 0 ≤ ((nL8 0 : Nat) : Int) ∧ ((nL8 0 : Nat) : Int) ≤ 80 := hRLL8.1.1 0 (by decide)
        have hPc := hP.sub (ws' := (iU cI 80 (o 0) (rL8 0) (nL8 0) (zL8 0) (FL8 0))) [2, 3] rfl
        refine xk_pure (va_runV (As := []) (rest := [.int (iz k)]) ⟨hx, hb, hml, hown, hts⟩ (x_size l dC dI cI cB cE 80 (o 0) (rL8 0) (nL8 0) (zL8 0) (FL8 0)  H.size ) (cwV 0 hts (kx_gV kq_18_xrows_40 kq_15_xspan_10 kq_15_xspan_11 kq_13_xints_6 kq_15_xspan_12 rfl) rfl rfl rfl (by decide +kernel) ⟨Nat.le_of_ble_eq_true rfl, Nat.le_of_ble_eq_true rfl⟩) ⟨pPre_blind, va_recv hK hPc (ci := 1) (q0 := 0) rfl rfl, pPre_give hPc hK hG⟩ rfl rfl hl.1 rfl (lv_room (Nat.le_of_ble_eq_true rfl)) dX5_addRowsUnder_13 ⟨show cv + 0 ≤ 400 from (by omega), show sv + 0 ≤ 180000 from (by omega)⟩) hS (fun z_4 locs hq_3 hS => ?_)
        refine W.eq (g2 := F0 m 16 ls [.int (iz z_4), .int (iz k)]) rfl ?_
        try dsimp only at hq_3
        have hq_3 := hq_3.symm
        subst hq_3
        refine ki_icmp_ge (tgt := 83) hx hb dX5_addRowsUnder_16 (by decide) (by omega) (by omega) (by omega) (by omega) (fun c_5 => ?_) (fun c_5 => ?_)
        · skip
          rw [← hQe]
          exact xk_vret (ov := (fun _ : (Nat → Nat) × (Nat → Nat) × (Nat → Int) × (Nat → Int → Int) × (Nat → Nat → Nat) × (Nat → Nat → Nat) × (Nat → Nat → Int) × (Nat → Nat → Int → Int) => none)) (post := (fun (u : (Nat → Nat) × (Nat → Nat) × (Nat → Int) × (Nat → Int → Int) × (Nat → Nat → Nat) × (Nat → Nat → Nat) × (Nat → Nat → Int) × (Nat → Nat → Int → Int)) (dn dm : Nat) => match u with | (r', n', z', F', Er', En', Ez', EF') => xR [1] [1] [] [] N z F En Ez EF n' z' F' En' Ez' EF' ∧ (dn + xg n' ≤ xg n + 0 ∧ dm + xp n' ≤ xp n + 0) ∧ (True))) (ws := (fun u : (Nat → Nat) × (Nat → Nat) × (Nat → Int) × (Nat → Int → Int) × (Nat → Nat → Nat) × (Nat → Nat → Nat) × (Nat → Nat → Int) × (Nat → Nat → Int → Int) => match u with | (r', n', z', F', Er', En', Ez', EF') => (xU cI cB cE o r' n' z' F' G (Eo 0 0) ++ eP cI N Eo Er' En' Ez' EF'))) (tys := xT cI cB cE) (rL8, nL8, zL8, FL8, ErL8, EnL8, EzL8, EFL8) hx hb hr hlocks rfl hP hD hK hS dX5_addRowsUnder_83 (fun dn dm hdn hdm => ⟨⟨hRLL8.1, hRLL8.2.1, hRLL8.2.2.1, hRLL8.2.2.2⟩, ⟨by omega, by omega⟩, trivial⟩) (by omega) (by omega)
        · skip
          refine lv_aload_n hx hb dX5_addRowsUnder_19 rfl (lv_at hl 1 rfl) ?_
          refine va_get (D := (dC, dI)) (ci := 5) (v := .ref (o 0)) (C := RX5) (T := TX5) (N := 16) hx hb hts kt_X5 hown hK hP 0 rfl rfl 5 (by decide) (kx_word hG kq_18_xrows_37 rfl) (fun _ h9 => h9) rfl dX5_addRowsUnder_20 ?_
          refine lv_iload_n hx hb dX5_addRowsUnder_23 rfl (lv_at hl 0 rfl) ?_
          have hPc := hP.sub (ws' := (iU cI 80 (o 0) (rL8 0) (nL8 0) (zL8 0) (FL8 0))) [2, 3] rfl
          refine xk_pure (va_runV (As := [.int (iz k)]) (rest := []) ⟨hx, hb, hml, hown, hts⟩ (x_get l dC dI cI cB cE 80 (o 0) (rL8 0) (nL8 0) (zL8 0) (FL8 0) k H.size (by omega) (hRLL8.1.2.2.1 0) (by omega) (by omega)) (cwV 1 hts (kx_gV kq_18_xrows_41 kq_13_xints_4 kq_13_xints_5 kq_13_xints_6 kq_13_xints_7 rfl) rfl rfl rfl (by decide +kernel) ⟨Nat.le_of_ble_eq_true rfl, Nat.le_of_ble_eq_true rfl⟩) ⟨pPre_blind, va_recv hK hPc (ci := 1) (q0 := 0) rfl rfl, pPre_give hPc hK hG⟩ rfl rfl hl.1 rfl (lv_room (Nat.le_of_ble_eq_true rfl)) dX5_addRowsUnder_24 ⟨show cv + 0 ≤ 400 from (by omega), show sv + 0 ≤ 180000 from (by omega)⟩) hS (fun z_7 locs hq_6 hS => ?_)
          refine W.eq (g2 := F0 m 27 ls [.int (iz z_7)]) rfl ?_
          try dsimp only at hq_6
          refine lv_istore (lv' := [(4, .int (iz z_7)), (3, .int (iz k)), (0, .ref (o 15)), (1, .int (iz p0)), (2, .int (iz 0))]) hx hb dX5_addRowsUnder_27 hl (by decide) rfl (fun ls hl => ?_)
          refine lv_aload_n hx hb dX5_addRowsUnder_29 rfl (lv_at hl 2 rfl) ?_
          refine lv_iload hx hb dX5_addRowsUnder_30 (lv_at hl 0 rfl) ?_
          have hxz_8 : -2147483648 ≤ zL8 12 ∧ zL8 12 < 2147483648 := hRLL8.1.2.2.2.1 12
          have hxG9 : xG N (zL8 12) G Eo := ⟨by omega, by omega, by omega, fun e9 h9 => hN4 e9 (by omega)⟩
          have hP : va_P (dC, dI) kxCl (xU cI cB cE o rL8 nL8 zL8 FL8 G (Eo 0 0) ++ eP cI N Eo ErL8 EnL8 EzL8 EFL8) H := hP
          refine xk_pure (va_runV (As := [.int (iz z_7)]) (rest := []) ⟨hx, hb, hml, hown, hts⟩ (y_known l dC dI cI cB cE o rL8 nL8 zL8 FL8 G N Eo ErL8 EnL8 EzL8 EFL8 z_7 H.size hRLL8.1 hxG9 hRLL8.2.2.1 (by omega) (by omega)) (cwV 1 hts (kx_gV kq_18_xrows_8 kq_18_xrows_9 kq_18_xrows_10 kq_18_xrows_4 kq_18_xrows_11 rfl) rfl rfl rfl (by decide +kernel) ⟨Nat.le_of_ble_eq_true rfl, Nat.le_of_ble_eq_true rfl⟩) ⟨pPre_blind, va_recv hK hP (ci := 5) (q0 := 0) rfl rfl, pPre_give hP hK hG⟩ rfl rfl hl.1 rfl (lv_room (Nat.le_of_ble_eq_true rfl)) dX5_addRowsUnder_32 ⟨show cv + 0 ≤ 400 from (by omega), show sv + 0 ≤ 180000 from (by omega)⟩) hS (fun z_10 locs hq_9 hS => ?_)
          refine W.eq (g2 := F0 m 35 ls [.ref z_10.toNat]) rfl ?_
          try dsimp only at hq_9
          obtain ⟨j11, hj11, ez11, hje11⟩ := hq_9
          subst ez11
          refine W.eq (g2 := F0 m 35 ls [.ref (Eo j11 0)]) rfl ?_
          have hP := eP_foc hj11 hP
          have hD := eD_foc hj11 hD
          have hez_12 : -2147483648 ≤ EzL8 j11 7 ∧ EzL8 j11 7 < 2147483648 := (hRLL8.2.2.1 j11 hj11).2.2 7
          refine va_getN (D := (dC, dI)) (ci := 0) (v := .int (iz (EzL8 j11 7))) (C := RX0) (T := TX0) (N := 12) hx hb hts kt_X0 hown hK hP 29 rfl rfl 0 (by decide) (va_Nw.use rfl (kx_nf hG kq_18_xrows_12)) (fun _ h9 => h9) rfl dX5_addRowsUnder_35 ?_
          refine lv_iload_n hx hb dX5_addRowsUnder_38 rfl (lv_at hl 4 rfl) ?_
          refine ki_icmp_ne (tgt := 77) hx hb dX5_addRowsUnder_39 (by decide) (by omega) (by omega) (by omega) (by omega) (fun c_13 => ?_) (fun c_13 => ?_)
          · skip
            refine lv_iinc (v := iz (k + 1)) (lv' := [(3, .int (iz (k + 1))), (4, .int (iz z_7)), (0, .ref (o 15)), (1, .int (iz p0)), (2, .int (iz 0))]) hx hb dX5_addRowsUnder_77 hl (k := 1) rfl (iz_add k 1) (by decide) rfl (fun ls hl => ?_)
            refine lv_goto (tgt := 8) hx hb dX5_addRowsUnder_80 (by decide) ?_
            have hP := eP_un0 hj11 hP
            have hD := eD_un0 hj11 hD
            exact ih8 (k + 1) rL8 nL8 zL8 FL8 ErL8 EnL8 EzL8 EFL8 cv sv ⟨⟨hRLL8.1, hRLL8.2.1, hRLL8.2.2.1, hRLL8.2.2.2⟩, ⟨by omega, by omega⟩, (show zL8 12 = z 12 by omega), by omega⟩ (by omega) _ _ hP hD hS ls (lv_sub hl [0, 2, 3, 4] rfl)
          · skip
            refine lv_aload_n hx hb dX5_addRowsUnder_42 rfl (lv_at hl 2 rfl) ?_
            refine lv_aload_n hx hb dX5_addRowsUnder_43 rfl (lv_at hl 2 rfl) ?_
            refine lv_iload hx hb dX5_addRowsUnder_44 (lv_at hl 0 rfl) ?_
            have hP := eP_un0 hj11 hP
            have hD := eD_un0 hj11 hD
            have hxG9 : xG N (zL8 12) G Eo := ⟨by omega, by omega, by omega, fun e9 h9 => hN4 e9 (by omega)⟩
            have hP : va_P (dC, dI) kxCl (xU cI cB cE o rL8 nL8 zL8 FL8 G (Eo 0 0) ++ eP cI N Eo ErL8 EnL8 EzL8 EFL8) H := hP
            refine xk_pure (va_runV (As := [.int (iz z_7)]) (rest := [.ref (o 15)]) ⟨hx, hb, hml, hown, hts⟩ (y_known l dC dI cI cB cE o rL8 nL8 zL8 FL8 G N Eo ErL8 EnL8 EzL8 EFL8 z_7 H.size hRLL8.1 hxG9 hRLL8.2.2.1 (by omega) (by omega)) (cwV 1 hts (kx_gV kq_18_xrows_8 kq_18_xrows_9 kq_18_xrows_10 kq_18_xrows_4 kq_18_xrows_11 rfl) rfl rfl rfl (by decide +kernel) ⟨Nat.le_of_ble_eq_true rfl, Nat.le_of_ble_eq_true rfl⟩) ⟨pPre_blind, va_recv hK hP (ci := 5) (q0 := 0) rfl rfl, pPre_give hP hK hG⟩ rfl rfl hl.1 rfl (lv_room (Nat.le_of_ble_eq_true rfl)) dX5_addRowsUnder_46 ⟨show cv + 0 ≤ 400 from (by omega), show sv + 0 ≤ 180000 from (by omega)⟩) hS (fun z_15 locs hq_14 hS => ?_)
            refine W.eq (g2 := F0 m 49 ls [.ref z_15.toNat, .ref (o 15)]) rfl ?_
            try dsimp only at hq_14
            obtain ⟨j16, hj16, ez16, hje16⟩ := hq_14
            subst ez16
            refine W.eq (g2 := F0 m 49 ls [.ref (Eo j16 0), .ref (o 15)]) rfl ?_
            have hP := eP_foc hj16 hP
            have hD := eD_foc hj16 hD
            have hez_17 : -2147483648 ≤ EzL8 j16 8 ∧ EzL8 j16 8 < 2147483648 := (hRLL8.2.2.1 j16 hj16).2.2 8
            refine va_getN (D := (dC, dI)) (ci := 0) (v := .int (iz (EzL8 j16 8))) (C := RX0) (T := TX0) (N := 12) hx hb hts kt_X0 hown hK hP 29 rfl rfl 1 (by decide) (va_Nw.use rfl (kx_nf hG kq_18_xrows_14)) (fun _ h9 => h9) rfl dX5_addRowsUnder_49 ?_
            have hP := eP_un0 hj16 hP
            have hD := eD_un0 hj16 hD
            have hxG9 : xG N (zL8 12) G Eo := ⟨by omega, by omega, by omega, fun e9 h9 => hN4 e9 (by omega)⟩
            have hP : va_P (dC, dI) kxCl (xU cI cB cE o rL8 nL8 zL8 FL8 G (Eo 0 0) ++ eP cI N Eo ErL8 EnL8 EzL8 EFL8) H := hP
            refine xk_pure (va_runV (As := [.int (iz (EzL8 j16 8))]) (rest := []) ⟨hx, hb, hml, hown, hts⟩ (y_firstOf l dC dI cI cB cE o rL8 nL8 zL8 FL8 G N Eo ErL8 EnL8 EzL8 EFL8 (EzL8 j16 8) H.size hRLL8.1 hxG9 hRLL8.2.2.1 (by omega) (by omega)) (cwV 1 hts (kx_gV kq_18_xrows_15 kq_18_xrows_16 kq_18_xrows_17 kq_18_xrows_4 kq_18_xrows_18 rfl) rfl rfl rfl (by decide +kernel) ⟨Nat.le_of_ble_eq_true rfl, Nat.le_of_ble_eq_true rfl⟩) ⟨pPre_blind, va_recv hK hP (ci := 5) (q0 := 0) rfl rfl, pPre_give hP hK hG⟩ rfl rfl hl.1 rfl (lv_room (Nat.le_of_ble_eq_true rfl)) dX5_addRowsUnder_52 ⟨show cv + 0 ≤ 400 from (by omega), show sv + 0 ≤ 180000 from (by omega)⟩) hS (fun z_19 locs hq_18 hS => ?_)
            refine W.eq (g2 := F0 m 55 ls [.int (iz z_19)]) rfl ?_
            try dsimp only at hq_18
            refine lv_iload_n hx hb dX5_addRowsUnder_55 rfl (lv_at hl 3 rfl) ?_
            refine ki_icmp_ne (tgt := 77) hx hb dX5_addRowsUnder_56 (by decide) (by omega) (by omega) (by omega) (by omega) (fun c_20 => ?_) (fun c_20 => ?_)
            · skip
              refine lv_iinc (v := iz (k + 1)) (lv' := [(3, .int (iz (k + 1))), (4, .int (iz z_7)), (0, .ref (o 15)), (1, .int (iz p0)), (2, .int (iz 0))]) hx hb dX5_addRowsUnder_77 hl (k := 1) rfl (iz_add k 1) (by decide) rfl (fun ls hl => ?_)
              refine lv_goto (tgt := 8) hx hb dX5_addRowsUnder_80 (by decide) ?_
              exact ih8 (k + 1) rL8 nL8 zL8 FL8 ErL8 EnL8 EzL8 EFL8 cv sv ⟨⟨hRLL8.1, hRLL8.2.1, hRLL8.2.2.1, hRLL8.2.2.2⟩, ⟨by omega, by omega⟩, (show zL8 12 = z 12 by omega), by omega⟩ (by omega) _ _ hP hD hS ls (lv_sub hl [0, 2, 3, 4] rfl)
            · skip
              refine lv_aload_n hx hb dX5_addRowsUnder_59 rfl (lv_at hl 2 rfl) ?_
              refine va_get (D := (dC, dI)) (ci := 5) (v := .ref (o 1)) (C := RX5) (T := TX5) (N := 16) hx hb hts kt_X5 hown hK hP 0 rfl rfl 6 (by decide) (kx_word hG kq_18_xrows_47 rfl) (fun _ h9 => h9) rfl dX5_addRowsUnder_60 ?_
              refine lv_iload hx hb dX5_addRowsUnder_63 (lv_at hl 0 rfl) ?_
              have hxi_21 : 0 ≤ zL8 1 ∧ zL8 1 ≤ ((nL8 1 : Nat) : Int) ∧ ((nL8 1 : Nat) : Int) ≤ 80 := hRLL8.1.1 1 (by decide)
              have hPc := hP.sub (ws' := (iU cI 80 (o 1) (rL8 1) (nL8 1) (zL8 1) (FL8 1))) [4, 5] rfl
              have hDc := hD.sub (ws' := (iU cI 80 (o 1) (rL8 1) (nL8 1) (zL8 1) (FL8 1))) [4, 5] (by decide) rfl
              have hFc := va_free (wc := (iU cI 80 (o 1) (rL8 1) (nL8 1) (zL8 1) (FL8 1))) hD hS hA [4, 5] rfl
              refine xk_call (va_runV (As := [.int (iz z_7)]) (rest := []) ⟨hx, hb, hml, hown, hts⟩ (x_add l dC dI cI cB cE 80 (o 1) (rL8 1) (nL8 1) (zL8 1) (FL8 1) z_7 H.size (by omega) (hRLL8.1.2.2.1 1) (by omega) (by omega)) (cwV 1 hts (kx_gV kq_18_xrows_39 kq_15_xspan_46 kq_15_xspan_47 kq_13_xints_6 kq_15_xspan_48 rfl) rfl rfl rfl (by decide +kernel) ⟨Nat.le_of_ble_eq_true rfl, Nat.le_of_ble_eq_true rfl⟩) ⟨kx_blind, va_recv hK hPc (ci := 1) (q0 := 0) rfl rfl, kx_give (ws := []) (tys := []) hPc hDc hK hG hZ hS hFc⟩ rfl rfl hl.1 rfl (lv_room (Nat.le_of_ble_eq_true rfl)) dX5_addRowsUnder_65 ⟨show cv + 1 ≤ 400 from (by omega), show sv + 1600 ≤ 180000 from (by omega)⟩) hS (fun q _ h => hFc q h) hFc (fun u dn_23 dm_24 t H locs ht hvm hq_22 hB hk1 hS => ?_)
              obtain ⟨r_25, n_26, z_27, F_28⟩ := u
              obtain ⟨hP1, hK1, hD1⟩ := hB
              rw [ht] at hP1
              obtain ⟨hP, hD⟩ := xj_pool (wr := [(o 15, .inr (5, [.ref (o 16), .ref (Eo 0 0), .int (iz (zL8 12)), .int (iz (zL8 13)), .int (iz (zL8 14)), .ref (o 0), .ref (o 1), .int (iz (zL8 15)), .ref (o 13), .ref (o 14), .int (iz (zL8 16)), .ref (o 2), .ref (o 12), .ref (o 3), .ref (o 10), .ref (o 11)])), (o 16, .inl (cE, 80, .inr (.inr (.inr (.inr G))))), (o 0, .inr (1, [.int (iz 80), .ref (rL8 0), .int (iz (zL8 0))])), (rL8 0, .inl (cI, nL8 0, .inl (iA (FL8 0)))), (o 2, .inr (1, [.int (iz 80), .ref (rL8 2), .int (iz (zL8 2))])), (rL8 2, .inl (cI, nL8 2, .inl (iA (FL8 2)))), (o 3, .inr (1, [.int (iz 80), .ref (rL8 3), .int (iz (zL8 3))])), (rL8 3, .inl (cI, nL8 3, .inl (iA (FL8 3)))), (o 13, .inr (3, [.ref (o 4), .ref (o 5), .ref (o 6)])), (o 4, .inr (1, [.int (iz 1600), .ref (rL8 4), .int (iz (zL8 4))])), (rL8 4, .inl (cI, nL8 4, .inl (iA (FL8 4)))), (o 5, .inr (1, [.int (iz 1600), .ref (rL8 5), .int (iz (zL8 5))])), (rL8 5, .inl (cI, nL8 5, .inl (iA (FL8 5)))), (o 6, .inr (1, [.int (iz 1600), .ref (rL8 6), .int (iz (zL8 6))])), (rL8 6, .inl (cI, nL8 6, .inl (iA (FL8 6)))), (o 14, .inr (3, [.ref (o 7), .ref (o 8), .ref (o 9)])), (o 7, .inr (1, [.int (iz 1600), .ref (rL8 7), .int (iz (zL8 7))])), (rL8 7, .inl (cI, nL8 7, .inl (iA (FL8 7)))), (o 8, .inr (1, [.int (iz 1600), .ref (rL8 8), .int (iz (zL8 8))])), (rL8 8, .inl (cI, nL8 8, .inl (iA (FL8 8)))), (o 9, .inr (1, [.int (iz 1600), .ref (rL8 9), .int (iz (zL8 9))])), (rL8 9, .inl (cI, nL8 9, .inl (iA (FL8 9)))), (o 12, .inr (4, [.int (iz (zL8 17)), .int (iz (zL8 18)), .int (iz (zL8 19)), .int (iz (zL8 20)), .int (iz (zL8 21))])), (o 10, .inr (2, [.ref (rL8 10), .int (iz (zL8 10)), .int (iz (zL8 22))])), (rL8 10, .inl (cB, nL8 10, .inl (iA (FL8 10)))), (o 11, .inr (2, [.ref (rL8 11), .int (iz (zL8 11)), .int (iz (zL8 23))])), (rL8 11, .inl (cB, nL8 11, .inl (iA (FL8 11))))]) (w1 := (iU cI 80 (o 1) r_25 n_26 z_27 F_28)) (ws' := (xU cI cB cE o (va_up rL8 1 r_25) (va_up nL8 1 n_26) (va_up zL8 1 z_27) (va_up FL8 1 F_28) G (Eo 0 0))) hP hD [4, 5] [0, 1, 2, 3, 6, 7, 8, 9, 10, 11, 12, 13, 14, 15, 16, 17, 18, 19, 20, 21, 22, 23, 24, 25, 26, 27, 28] [0, 1, 2, 3, 27, 28, 4, 5, 6, 7, 8, 9, 10, 11, 12, 13, 14, 15, 16, 17, 18, 19, 20, 21, 22, 23, 24, 25, 26] rfl rfl (by decide) (by decide) hk1 hFc hP1 hD1 rfl (by decide)
              refine W.eq (g2 := F0 m 68 ls []) rfl ?_
              try dsimp only at hq_22
              obtain ⟨ha29, hb29, hc29, hd29⟩ := hq_22
              have hax29 := hd29.1
              refine lv_aload_n hx hb dX5_addRowsUnder_68 rfl (lv_at hl 2 rfl) ?_
              refine lv_iload hx hb dX5_addRowsUnder_69 (lv_at hl 0 rfl) ?_
              refine lv_iload_n hx hb dX5_addRowsUnder_71 rfl (lv_at hl 4 rfl) ?_
              refine lv_iconst (v := iz 1) hx hb dX5_addRowsUnder_72 (by decide) ?_
              refine ki_iadd hx hb dX5_addRowsUnder_73 ?_
              refine ki_is (show iz (0 + 1) = iz 1 from rfl) ?_
              have hok30 : xOk (va_up nL8 1 n_26) (va_up zL8 1 z_27) (va_up FL8 1 F_28) := (hRLL8.1.i 1 (by decide) (show 0 ≤ z_27 ∧ z_27 ≤ ((n_26 : Nat) : Int) ∧ ((n_26 : Nat) : Int) ≤ 80 by omega) hb29)
              have hfr30 : xFr [1] [1] z F (va_up zL8 1 z_27) (va_up FL8 1 F_28) := ((hRLL8.2.1.uz 1 (by decide) _).uf 1 (by decide) _)
              have hcg30 : (dn_23) + xg (va_up nL8 1 n_26) ≤ xg nL8 := by unfold xg; simp (decide := true) only [va_ev, ↓reduceIte]; omega
              have hcp30 : (dm_24) + xp (va_up nL8 1 n_26) ≤ xp nL8 := by unfold xp; simp (decide := true) only [va_ev, ↓reduceIte]; omega
              have hxG9 : xG N (zL8 12) G Eo := ⟨by omega, by omega, by omega, fun e9 h9 => hN4 e9 (by omega)⟩
              have hP : va_P (dC, dI) kxCl (xU cI cB cE o (va_up rL8 1 r_25) (va_up nL8 1 n_26) (va_up zL8 1 z_27) (va_up FL8 1 F_28) G (Eo 0 0) ++ eP cI N Eo ErL8 EnL8 EzL8 EFL8) H := hP
              have hD : va_D A (xU cI cB cE o (va_up rL8 1 r_25) (va_up nL8 1 n_26) (va_up zL8 1 z_27) (va_up FL8 1 F_28) G (Eo 0 0) ++ eP cI N Eo ErL8 EnL8 EzL8 EFL8) := hD
              have hFc := xw_free hD hS hA
              refine xk_call (va_runV (As := [.int (iz z_7), .int (iz 1)]) (rest := []) ⟨hx, hb, hml, hown, hts⟩ (y_addRows1 l dC dI cI cB cE o (va_up rL8 1 r_25) (va_up nL8 1 n_26) (va_up zL8 1 z_27) (va_up FL8 1 F_28) G N Eo ErL8 EnL8 EzL8 EFL8 z_7 H.size hok30 hxG9 hRLL8.2.2.1 (by omega) (by omega)) (cwV 2 hts (kx_gV kq_18_xrows_48 kq_18_xrows_49 kq_18_xrows_50 kq_18_xrows_4 kq_18_xrows_51 rfl) rfl rfl rfl (by decide +kernel) ⟨Nat.le_of_ble_eq_true rfl, Nat.le_of_ble_eq_true rfl⟩) ⟨kx_blind, va_recv hK hP (ci := 5) (q0 := 0) rfl rfl, kx_give (ws := []) (tys := []) hP hD hK hG hZ hS hFc⟩ rfl rfl hl.1 rfl (lv_room (Nat.le_of_ble_eq_true rfl)) dX5_addRowsUnder_74 ⟨show (cv + dn_23) + 300 ≤ 400 from (by omega), show (sv + dm_24) + 135000 ≤ 180000 from (by omega)⟩) hS (fun q _ h => hFc q h) hFc (fun u dn_33 dm_34 t H locs ht hvm hq_31 hB hk1 hS => ?_)
              obtain ⟨r_35, n_36, z_37, F_38, Er_39, En_40, Ez_41, EF_42⟩ := u
              obtain ⟨hP, hK1, hD1⟩ := hB
              rw [ht] at hP
              have hD := hD1.weaken (fun _ q _ h => hFc _ h)
              obtain ⟨hR43, hC43, hq_31⟩ := hq_31
              have hok43 := hR43.1
              have hfr43 := hfr30.tr (hR43.2.1.mono (S' := [1]) (T' := [1]) (by decide) (by decide))
              have hPE43 := hR43.2.2.1
              have hef43 := hRLL8.2.2.2.tr (hR43.2.2.2.mono (S' := []) (T' := []) (by decide) (by decide))
              have hz43 : z_37 12 = (zL8 12) := hR43.2.1.1 12 (by decide)
              have hkz43_0 : z_37 0 = z 0 := hfr43.1 0 (by decide)
              refine W.eq (g2 := F0 m 77 ls []) rfl ?_
              try dsimp only at hq_31
              try simp (decide := true) only [va_ev, ↓reduceIte] at hq_31
              refine lv_iinc (v := iz (k + 1)) (lv' := [(3, .int (iz (k + 1))), (4, .int (iz z_7)), (0, .ref (o 15)), (1, .int (iz p0)), (2, .int (iz 0))]) hx hb dX5_addRowsUnder_77 hl (k := 1) rfl (iz_add k 1) (by decide) rfl (fun ls hl => ?_)
              refine lv_goto (tgt := 8) hx hb dX5_addRowsUnder_80 (by decide) ?_
              exact ih8 (k + 1) r_35 n_36 z_37 F_38 Er_39 En_40 Ez_41 EF_42 ((cv + dn_23) + dn_33) ((sv + dm_24) + dm_34) ⟨⟨hok43, hfr43, hPE43, hef43⟩, ⟨by omega, by omega⟩, (show z_37 12 = z 12 by omega), by omega⟩ (by omega) _ _ hP hD hS ls (lv_sub hl [0, 2, 3, 4] rfl)
    exact lp8 _ 0 r n z F Er En Ez EF 0 0 ⟨⟨hok, hfr, hPE, hef⟩, ⟨by omega, by omega⟩, (show z 12 = z 12 by omega), by omega⟩ (Nat.lt_succ_self _) _ _ hP hD hS ls (lv_sub hl [0, 1, 2, 3] rfl)
  · omega
set_option maxHeartbeats 4000000 in
set_option maxRecDepth 100000 in
theorem y_findRows (l : Launch) (dC : Nat → ClassId) (dI : Nat → Nat → Nat) (cI cB cE : ClassId) (o r n : Nat → Nat) (z : Nat → Int) (F : Nat → Int → Int) (G : Nat → Option Nat) (N : Nat) (Eo Er En : Nat → Nat → Nat) (Ez : Nat → Nat → Int) (EF : Nat → Nat → Int → Int) (sz : Nat) (hok : xOk n z F) (hxG : xG N (z 12) G Eo) (hPE : eA N En Ez EF) : Met l yX5_findRows [.code yX5_findRows cX5_findRows 2 none] ({ frames := 6, cells := 600, slots := 300000, locals := 175 }) (va_Pc [.ref (o 15)] (kx_Pre dC dI (xU cI cB cE o r n z F G (Eo 0 0) ++ eP cI N Eo Er En Ez EF) (xT cI cB cE) sz)) (xQ (fun _ : (Nat → Nat) × (Nat → Nat) × (Nat → Int) × (Nat → Int → Int) × (Nat → Nat → Nat) × (Nat → Nat → Nat) × (Nat → Nat → Int) × (Nat → Nat → Int → Int) => none) (fun (u : (Nat → Nat) × (Nat → Nat) × (Nat → Int) × (Nat → Int → Int) × (Nat → Nat → Nat) × (Nat → Nat → Nat) × (Nat → Nat → Int) × (Nat → Nat → Int → Int)) (dn dm : Nat) => match u with | (r', n', z', F', Er', En', Ez', EF') => xR [0, 1, 15] [0, 1] [10] [] N z F En Ez EF n' z' F' En' Ez' EF' ∧ (dn + xg n' ≤ xg n + 0 ∧ dm + xp n' ≤ xp n + 0) ∧ (True)) (fun u t => kx_At dC dI (va_A (xU cI cB cE o r n z F G (Eo 0 0) ++ eP cI N Eo Er En Ez EF) sz) ((fun u : (Nat → Nat) × (Nat → Nat) × (Nat → Int) × (Nat → Int → Int) × (Nat → Nat → Nat) × (Nat → Nat → Nat) × (Nat → Nat → Int) × (Nat → Nat → Int → Int) => match u with | (r', n', z', F', Er', En', Ez', EF') => (xU cI cB cE o r' n' z' F' G (Eo 0 0) ++ eP cI N Eo Er' En' Ez' EF')) u) (xT cI cB cE) t) (va_A (xU cI cB cE o r n z F G (Eo 0 0) ++ eP cI N Eo Er En Ez EF) sz)) 600 300000 (va_A (xU cI cB cE o r n z F G (Eo 0 0) ++ eP cI N Eo Er En Ez EF) sz) := by
  refine Met.ofW (cc := cX5_findRows) (maxL := 2) (ret := none) (by decide) rfl ?_
  intro p e s m args below meth c s₁ B hml hv
  obtain ⟨rfl, hsz, hP, hK, hD0, hG, hZ⟩ := hv
  have hx := B.exec
  have hb := B.bytes
  have hr := B.returns
  have hts := kx_hts (a := ([.ref (o 15)] : List Value).toArray) hG
  have hown : s.vm.findClass RX5 = some m.cls := findClass_of_methodNamed B.named
  have hlocks := B.notSynchronized
  subst hsz
  have hD := hD0.self (sz := s.heap.size)
  generalize hAe : va_A (xU cI cB cE o r n z F G (Eo 0 0) ++ eP cI N Eo Er En Ez EF) s.heap.size = A at hD hZ ⊢
  have hA : ∀ q : Nat, s.heap.size ≤ q → A q := fun q h => by rw [← hAe]; exact Or.inr h
  have hS : va_S A s.heap s.heap [] := va_S.rf
  have hl := lv_entry ([.ref (o 15)]) (n := 2) (Nat.le_of_ble_eq_true rfl)
  rw [lg_entry_eq]
  generalize (lg_sl ([.ref (o 15)]) ++ List.replicate (2 - (lg_sl ([.ref (o 15)])).length) Slot.unset).toArray = ls at hl ⊢
  obtain ⟨hN1, hN2, hN3, hN4⟩ := hxG
  have hef : eFr [10] [] En Ez EF En Ez EF := eFr.rf
  have hfr : xFr [0, 1, 15] [0, 1] z F z F := xFr.rf
  have hxgl := xg_le n
  have hxpl := xp_le n
  have hl : lv_has ls 2 [(0, .ref (o 15))] := hl
  generalize hQe : MQ below (xQ (fun _ : (Nat → Nat) × (Nat → Nat) × (Nat → Int) × (Nat → Int → Int) × (Nat → Nat → Nat) × (Nat → Nat → Nat) × (Nat → Nat → Int) × (Nat → Nat → Int → Int) => none) (fun (u : (Nat → Nat) × (Nat → Nat) × (Nat → Int) × (Nat → Int → Int) × (Nat → Nat → Nat) × (Nat → Nat → Nat) × (Nat → Nat → Int) × (Nat → Nat → Int → Int)) (dn dm : Nat) => match u with | (r', n', z', F', Er', En', Ez', EF') => xR [0, 1, 15] [0, 1] [10] [] N z F En Ez EF n' z' F' En' Ez' EF' ∧ (dn + xg n' ≤ xg n + 0 ∧ dm + xp n' ≤ xp n + 0) ∧ (True)) (fun u t => kx_At dC dI A ((fun u : (Nat → Nat) × (Nat → Nat) × (Nat → Int) × (Nat → Int → Int) × (Nat → Nat → Nat) × (Nat → Nat → Nat) × (Nat → Nat → Int) × (Nat → Nat → Int → Int) => match u with | (r', n', z', F', Er', En', Ez', EF') => (xU cI cB cE o r' n' z' F' G (Eo 0 0) ++ eP cI N Eo Er' En' Ez' EF')) u) (xT cI cB cE) t) A) ([.ref (o 15)] : List Value).toArray s 600 300000 A = QQ
  refine lv_aload_n hx hb dX5_findRows_0 rfl (lv_at hl 0 rfl) ?_
  have hxz_1 : -2147483648 ≤ z 15 ∧ z 15 < 2147483648 := hok.2.2.2.1 15
  have hxb_2 : z 15 = 0 ∨ z 15 = 1 := hok.2.2.2.2 15 (by decide)
  refine va_get (D := (dC, dI)) (ci := 5) (v := .int (iz (z 15))) (C := RX5) (T := TX5) (N := 16) hx hb hts kt_X5 hown hK hP 0 rfl rfl 7 (by decide) (kx_word hG kq_18_xrows_25 rfl) (fun _ h9 => h9) rfl dX5_findRows_1 ?_
  refine ki_if_eq (tgt := 8) hx hb dX5_findRows_4 (by decide) (by omega) (by omega) (fun c_3 => ?_) (fun c_3 => ?_)
  · skip
    refine lv_iconst (v := iz 0) hx hb dX5_findRows_8 (by decide) ?_
    refine lv_istore_n (lv' := [(1, .int (iz 0)), (0, .ref (o 15))]) hx hb dX5_findRows_9 rfl hl (by decide) rfl (fun ls hl => ?_)
    have lp10 : ∀ (n0 : Nat) (k : Int) (rL10 : Nat → Nat) (nL10 : Nat → Nat) (zL10 : Nat → Int) (FL10 : Nat → Int → Int) (ErL10 : Nat → Nat → Nat) (EnL10 : Nat → Nat → Nat) (EzL10 : Nat → Nat → Int) (EFL10 : Nat → Nat → Int → Int) (cv : Nat) (sv : Nat), ((xR [0, 1, 15] [0, 1] [10] [] N z F En Ez EF nL10 zL10 FL10 EnL10 EzL10 EFL10) ∧ (cv + xg nL10 ≤ xg n + (0) ∧ sv + xp nL10 ≤ xp n + (0)) ∧ (zL10 12 = z 12) ∧ (0 ≤ k ∧ k ≤ 79)) → (z 12 - k).toNat < n0 → ∀ (H : Heap) (locs : List Loc), va_P (dC, dI) kxCl ((xU cI cB cE o rL10 nL10 zL10 FL10 G (Eo 0 0)) ++ (eP cI N Eo ErL10 EnL10 EzL10 EFL10)) H → va_D A ((xU cI cB cE o rL10 nL10 zL10 FL10 G (Eo 0 0)) ++ (eP cI N Eo ErL10 EnL10 EzL10 EFL10)) → va_S A s.heap H locs → ∀ ls : Array Slot, lv_has ls 2 [(1, .int (iz k)), (0, .ref (o 15))] → W p l e (headSpec [.code yX5_findRows cX5_findRows 2 none] ({ frames := 6, cells := 600, slots := 300000, locals := 175 })).room s m ([.ref (o 15)] : List Value).toArray below meth c H locs cv sv QQ (F0 m 10 ls []) := by
      intro n0
      induction n0 with
      | zero => intro k rL10 nL10 zL10 FL10 ErL10 EnL10 EzL10 EFL10 cv sv hinv hm0; exact absurd hm0 (Nat.not_lt_zero _)
      | succ n0 ih10 =>
        intro k rL10 nL10 zL10 FL10 ErL10 EnL10 EzL10 EFL10 cv sv hinv hm0 H locs hP hD hS ls hl
        obtain ⟨hRLL10, hCLL10, hZLL10, hk⟩ := hinv
        refine lv_iload_n hx hb dX5_findRows_10 rfl (lv_at hl 0 rfl) ?_
        refine lv_aload_n hx hb dX5_findRows_11 rfl (lv_at hl 1 rfl) ?_
        have hxz_4 : -2147483648 ≤ zL10 12 ∧ zL10 12 < 2147483648 := hRLL10.1.2.2.2.1 12
        refine va_get (D := (dC, dI)) (ci := 5) (v := .int (iz (zL10 12))) (C := RX5) (T := TX5) (N := 16) hx hb hts kt_X5 hown hK hP 0 rfl rfl 2 (by decide) (kx_word hG kq_18_xrows_0 rfl) (fun _ h9 => h9) rfl dX5_findRows_12 ?_
        refine ki_icmp_ge (tgt := 37) hx hb dX5_findRows_15 (by decide) (by omega) (by omega) (by omega) (by omega) (fun c_5 => ?_) (fun c_5 => ?_)
        · skip
          refine lv_aload_n hx hb dX5_findRows_37 rfl (lv_at hl 1 rfl) ?_
          have hxG9 : xG N (zL10 12) G Eo := ⟨by omega, by omega, by omega, fun e9 h9 => hN4 e9 (by omega)⟩
          have hP : va_P (dC, dI) kxCl (xU cI cB cE o rL10 nL10 zL10 FL10 G (Eo 0 0) ++ eP cI N Eo ErL10 EnL10 EzL10 EFL10) H := hP
          have hD : va_D A (xU cI cB cE o rL10 nL10 zL10 FL10 G (Eo 0 0) ++ eP cI N Eo ErL10 EnL10 EzL10 EFL10) := hD
          have hFc := xw_free hD hS hA
          refine xk_call (va_runV (As := []) (rest := []) ⟨hx, hb, hml, hown, hts⟩ (y_sortFirsts l dC dI cI cB cE o rL10 nL10 zL10 FL10 G N Eo ErL10 EnL10 EzL10 EFL10  H.size hRLL10.1 hxG9 hRLL10.2.2.1 ) (cwV 0 hts (kx_gV kq_18_xrows_52 kq_18_xrows_53 kq_18_xrows_54 kq_18_xrows_4 kq_18_xrows_55 rfl) rfl rfl rfl (by decide +kernel) ⟨Nat.le_of_ble_eq_true rfl, Nat.le_of_ble_eq_true rfl⟩) ⟨kx_blind, va_recv hK hP (ci := 5) (q0 := 0) rfl rfl, kx_give (ws := []) (tys := []) hP hD hK hG hZ hS hFc⟩ rfl rfl hl.1 rfl (lv_room (Nat.le_of_ble_eq_true rfl)) dX5_findRows_38 ⟨show cv + 100 ≤ 600 from (by omega), show sv + 45000 ≤ 300000 from (by omega)⟩) hS (fun q _ h => hFc q h) hFc (fun u dn_8 dm_9 t H locs ht hvm hq_6 hB hk1 hS => ?_)
          obtain ⟨r_10, n_11, z_12, F_13, Er_14, En_15, Ez_16, EF_17⟩ := u
          obtain ⟨hP, hK1, hD1⟩ := hB
          rw [ht] at hP
          have hD := hD1.weaken (fun _ q _ h => hFc _ h)
          obtain ⟨hR18, hC18, hq_6⟩ := hq_6
          have hok18 := hR18.1
          have hfr18 := hRLL10.2.1.tr (hR18.2.1.mono (S' := [0, 1, 15]) (T' := [0, 1]) (by decide) (by decide))
          have hPE18 := hR18.2.2.1
          have hef18 := hRLL10.2.2.2.tr (hR18.2.2.2.mono (S' := [10]) (T' := []) (by decide) (by decide))
          have hz18 : z_12 12 = (zL10 12) := hR18.2.1.1 12 (by decide)
          refine W.eq (g2 := F0 m 41 ls []) rfl ?_
          try dsimp only at hq_6
          refine lv_aload_n hx hb dX5_findRows_41 rfl (lv_at hl 1 rfl) ?_
          refine va_get (D := (dC, dI)) (ci := 5) (v := .ref (o 1)) (C := RX5) (T := TX5) (N := 16) hx hb hts kt_X5 hown hK hP 0 rfl rfl 6 (by decide) (kx_word hG kq_18_xrows_47 rfl) (fun _ h9 => h9) rfl dX5_findRows_42 ?_
          have hxi_19 : 0 ≤ z_12 1 ∧ z_12 1 ≤ ((n_11 1 : Nat) : Int) ∧ ((n_11 1 : Nat) : Int) ≤ 80 := hok18.1 1 (by decide)
          have hPc := hP.sub (ws' := (iU cI 80 (o 1) (r_10 1) (n_11 1) (z_12 1) (F_13 1))) [4, 5] rfl
          have hDc := hD.sub (ws' := (iU cI 80 (o 1) (r_10 1) (n_11 1) (z_12 1) (F_13 1))) [4, 5] (by decide) rfl
          have hFc := va_free (wc := (iU cI 80 (o 1) (r_10 1) (n_11 1) (z_12 1) (F_13 1))) hD hS hA [4, 5] rfl
          refine xk_call (va_runV (As := []) (rest := []) ⟨hx, hb, hml, hown, hts⟩ (x_clear l dC dI cI cB cE 80 (o 1) (r_10 1) (n_11 1) (z_12 1) (F_13 1)  H.size ) (cwV 0 hts (kx_gV kq_18_xrows_38 kq_15_xspan_42 kq_15_xspan_43 kq_13_xints_6 kq_15_xspan_44 rfl) rfl rfl rfl (by decide +kernel) ⟨Nat.le_of_ble_eq_true rfl, Nat.le_of_ble_eq_true rfl⟩) ⟨kx_blind, va_recv hK hPc (ci := 1) (q0 := 0) rfl rfl, kx_give (ws := []) (tys := []) hPc hDc hK hG hZ hS hFc⟩ rfl rfl hl.1 rfl (lv_room (Nat.le_of_ble_eq_true rfl)) dX5_findRows_45 ⟨show (cv + dn_8) + 0 ≤ 600 from (by omega), show (sv + dm_9) + 0 ≤ 300000 from (by omega)⟩) hS (fun q _ h => hFc q h) hFc (fun u dn_21 dm_22 t H locs ht hvm hq_20 hB hk1 hS => ?_)
          obtain ⟨z_23, rfl⟩ : ∃ z, z = u := ⟨_, rfl⟩
          obtain ⟨hP1, hK1, hD1⟩ := hB
          rw [ht] at hP1
          obtain ⟨hP, hD⟩ := xj_pool (wr := [(o 15, .inr (5, [.ref (o 16), .ref (Eo 0 0), .int (iz (z_12 12)), .int (iz (z_12 13)), .int (iz (z_12 14)), .ref (o 0), .ref (o 1), .int (iz (z_12 15)), .ref (o 13), .ref (o 14), .int (iz (z_12 16)), .ref (o 2), .ref (o 12), .ref (o 3), .ref (o 10), .ref (o 11)])), (o 16, .inl (cE, 80, .inr (.inr (.inr (.inr G))))), (o 0, .inr (1, [.int (iz 80), .ref (r_10 0), .int (iz (z_12 0))])), (r_10 0, .inl (cI, n_11 0, .inl (iA (F_13 0)))), (o 2, .inr (1, [.int (iz 80), .ref (r_10 2), .int (iz (z_12 2))])), (r_10 2, .inl (cI, n_11 2, .inl (iA (F_13 2)))), (o 3, .inr (1, [.int (iz 80), .ref (r_10 3), .int (iz (z_12 3))])), (r_10 3, .inl (cI, n_11 3, .inl (iA (F_13 3)))), (o 13, .inr (3, [.ref (o 4), .ref (o 5), .ref (o 6)])), (o 4, .inr (1, [.int (iz 1600), .ref (r_10 4), .int (iz (z_12 4))])), (r_10 4, .inl (cI, n_11 4, .inl (iA (F_13 4)))), (o 5, .inr (1, [.int (iz 1600), .ref (r_10 5), .int (iz (z_12 5))])), (r_10 5, .inl (cI, n_11 5, .inl (iA (F_13 5)))), (o 6, .inr (1, [.int (iz 1600), .ref (r_10 6), .int (iz (z_12 6))])), (r_10 6, .inl (cI, n_11 6, .inl (iA (F_13 6)))), (o 14, .inr (3, [.ref (o 7), .ref (o 8), .ref (o 9)])), (o 7, .inr (1, [.int (iz 1600), .ref (r_10 7), .int (iz (z_12 7))])), (r_10 7, .inl (cI, n_11 7, .inl (iA (F_13 7)))), (o 8, .inr (1, [.int (iz 1600), .ref (r_10 8), .int (iz (z_12 8))])), (r_10 8, .inl (cI, n_11 8, .inl (iA (F_13 8)))), (o 9, .inr (1, [.int (iz 1600), .ref (r_10 9), .int (iz (z_12 9))])), (r_10 9, .inl (cI, n_11 9, .inl (iA (F_13 9)))), (o 12, .inr (4, [.int (iz (z_12 17)), .int (iz (z_12 18)), .int (iz (z_12 19)), .int (iz (z_12 20)), .int (iz (z_12 21))])), (o 10, .inr (2, [.ref (r_10 10), .int (iz (z_12 10)), .int (iz (z_12 22))])), (r_10 10, .inl (cB, n_11 10, .inl (iA (F_13 10)))), (o 11, .inr (2, [.ref (r_10 11), .int (iz (z_12 11)), .int (iz (z_12 23))])), (r_10 11, .inl (cB, n_11 11, .inl (iA (F_13 11))))]) (w1 := (iU cI 80 (o 1) (r_10 1) (n_11 1) z_23 (F_13 1))) (ws' := (xU cI cB cE o r_10 n_11 (va_up z_12 1 z_23) F_13 G (Eo 0 0))) hP hD [4, 5] [0, 1, 2, 3, 6, 7, 8, 9, 10, 11, 12, 13, 14, 15, 16, 17, 18, 19, 20, 21, 22, 23, 24, 25, 26, 27, 28] [0, 1, 2, 3, 27, 28, 4, 5, 6, 7, 8, 9, 10, 11, 12, 13, 14, 15, 16, 17, 18, 19, 20, 21, 22, 23, 24, 25, 26] rfl rfl (by decide) (by decide) hk1 hFc hP1 hD1 rfl (by decide)
          refine W.eq (g2 := F0 m 48 ls []) rfl ?_
          try dsimp only at hq_20
          obtain ⟨hd24, hm24, hz24⟩ := hq_20
          subst hd24
          subst hm24
          refine lv_aload_n hx hb dX5_findRows_48 rfl (lv_at hl 1 rfl) ?_
          refine lv_iconst (v := iz (-1)) hx hb dX5_findRows_49 (by decide) ?_
          refine lv_iconst (v := iz 0) hx hb dX5_findRows_50 (by decide) ?_
          have hok25 : xOk (va_up n_11 1 (n_11 1)) (va_up z_12 1 z_23) (va_up F_13 1 (F_13 1)) := (hok18.i 1 (by decide) (show 0 ≤ z_23 ∧ z_23 ≤ ((n_11 1 : Nat) : Int) ∧ ((n_11 1 : Nat) : Int) ≤ 80 by omega) (hok18.2.2.1 1))
          have hfr25 : xFr [0, 1, 15] [0, 1] z F (va_up z_12 1 z_23) (va_up F_13 1 (F_13 1)) := ((hfr18.uz 1 (by decide) _).uf 1 (by decide) _)
          have hcg25 : (0) + xg (va_up n_11 1 (n_11 1)) ≤ xg n_11 := by unfold xg; simp (decide := true) only [va_ev, ↓reduceIte]; omega
          have hcp25 : (0) + xp (va_up n_11 1 (n_11 1)) ≤ xp n_11 := by unfold xp; simp (decide := true) only [va_ev, ↓reduceIte]; omega
          have hxz_26 : -2147483648 ≤ z_12 12 ∧ z_12 12 < 2147483648 := hok18.2.2.2.1 12
          have hxG9 : xG N (z_12 12) G Eo := ⟨by omega, by omega, by omega, fun e9 h9 => hN4 e9 (by omega)⟩
          have hP : va_P (dC, dI) kxCl (xU cI cB cE o r_10 (va_up n_11 1 (n_11 1)) (va_up z_12 1 z_23) (va_up F_13 1 (F_13 1)) G (Eo 0 0) ++ eP cI N Eo Er_14 En_15 Ez_16 EF_17) H := hP
          have hD : va_D A (xU cI cB cE o r_10 (va_up n_11 1 (n_11 1)) (va_up z_12 1 z_23) (va_up F_13 1 (F_13 1)) G (Eo 0 0) ++ eP cI N Eo Er_14 En_15 Ez_16 EF_17) := hD
          have hFc := xw_free hD hS hA
          refine xk_call (va_runV (As := [.int (iz (-1)), .int (iz 0)]) (rest := []) ⟨hx, hb, hml, hown, hts⟩ (y_addRows0 l dC dI cI cB cE o r_10 (va_up n_11 1 (n_11 1)) (va_up z_12 1 z_23) (va_up F_13 1 (F_13 1)) G N Eo Er_14 En_15 Ez_16 EF_17 (-1) H.size hok25 hxG9 hPE18 (by omega) (by omega)) (cwV 2 hts (kx_gV kq_18_xrows_48 kq_18_xrows_49 kq_18_xrows_50 kq_18_xrows_4 kq_18_xrows_51 rfl) rfl rfl rfl (by decide +kernel) ⟨Nat.le_of_ble_eq_true rfl, Nat.le_of_ble_eq_true rfl⟩) ⟨kx_blind, va_recv hK hP (ci := 5) (q0 := 0) rfl rfl, kx_give (ws := []) (tys := []) hP hD hK hG hZ hS hFc⟩ rfl rfl hl.1 rfl (lv_room (Nat.le_of_ble_eq_true rfl)) dX5_findRows_51 ⟨show ((cv + dn_8) + 0) + 400 ≤ 600 from (by omega), show ((sv + dm_9) + 0) + 180000 ≤ 300000 from (by omega)⟩) hS (fun q _ h => hFc q h) hFc (fun u dn_29 dm_30 t H locs ht hvm hq_27 hB hk1 hS => ?_)
          obtain ⟨r_31, n_32, z_33, F_34, Er_35, En_36, Ez_37, EF_38⟩ := u
          obtain ⟨hP, hK1, hD1⟩ := hB
          rw [ht] at hP
          have hD := hD1.weaken (fun _ q _ h => hFc _ h)
          obtain ⟨hR39, hC39, hq_27⟩ := hq_27
          have hok39 := hR39.1
          have hfr39 := hfr25.tr (hR39.2.1.mono (S' := [0, 1, 15]) (T' := [0, 1]) (by decide) (by decide))
          have hPE39 := hR39.2.2.1
          have hef39 := hef18.tr (hR39.2.2.2.mono (S' := [10]) (T' := []) (by decide) (by decide))
          have hz39 : z_33 12 = (z_12 12) := hR39.2.1.1 12 (by decide)
          refine W.eq (g2 := F0 m 54 ls []) rfl ?_
          try dsimp only at hq_27
          try simp (decide := true) only [va_ev, ↓reduceIte] at hq_27
          refine lv_aload_n hx hb dX5_findRows_54 rfl (lv_at hl 1 rfl) ?_
          refine lv_iconst (v := iz 1) hx hb dX5_findRows_55 (by decide) ?_
          refine va_put (D := (dC, dI)) (ci := 5) (v := .int (iz 1)) (ty := .boolean) (C := RX5) (T := TX5) (N := 16) hx hb hts kt_X5 tyX5 tyX5_ok nmX5 hown hK hP hD hS 0 rfl rfl 7 (by decide) (kx_word hG kq_18_xrows_25 rfl) (fun _ h9 => h9) rfl (by decide +kernel) (mz_bool (Or.inr rfl)).1 (mz_bool (Or.inr rfl)).2 (Nat.le_of_ble_eq_true rfl) dX5_findRows_56 (fun H locs hP hD hS => ?_)
          have hP : va_P (dC, dI) kxCl ((xU cI cB cE o r_31 n_32 (va_up z_33 15 1) F_34 G (Eo 0 0)) ++ (eP cI N Eo Er_35 En_36 Ez_37 EF_38)) H := hP
          have hD : va_D A ((xU cI cB cE o r_31 n_32 (va_up z_33 15 1) F_34 G (Eo 0 0)) ++ (eP cI N Eo Er_35 En_36 Ez_37 EF_38)) := hD
          have hxz_40 : -2147483648 ≤ z_33 15 ∧ z_33 15 < 2147483648 := hok39.2.2.2.1 15
          have hxb_41 : z_33 15 = 0 ∨ z_33 15 = 1 := hok39.2.2.2.2 15 (by decide)
          have hok42 : xOk n_32 (va_up z_33 15 1) F_34 := (hok39.s 15 (by decide) (show -2147483648 ≤ 1 ∧ 1 < 2147483648 by omega) (by omega))
          have hfr42 : xFr [0, 1, 15] [0, 1] z F (va_up z_33 15 1) F_34 := (hfr39.uz 15 (by decide) _)
          rw [← hQe]
          exact xk_vret (ov := (fun _ : (Nat → Nat) × (Nat → Nat) × (Nat → Int) × (Nat → Int → Int) × (Nat → Nat → Nat) × (Nat → Nat → Nat) × (Nat → Nat → Int) × (Nat → Nat → Int → Int) => none)) (post := (fun (u : (Nat → Nat) × (Nat → Nat) × (Nat → Int) × (Nat → Int → Int) × (Nat → Nat → Nat) × (Nat → Nat → Nat) × (Nat → Nat → Int) × (Nat → Nat → Int → Int)) (dn dm : Nat) => match u with | (r', n', z', F', Er', En', Ez', EF') => xR [0, 1, 15] [0, 1] [10] [] N z F En Ez EF n' z' F' En' Ez' EF' ∧ (dn + xg n' ≤ xg n + 0 ∧ dm + xp n' ≤ xp n + 0) ∧ (True))) (ws := (fun u : (Nat → Nat) × (Nat → Nat) × (Nat → Int) × (Nat → Int → Int) × (Nat → Nat → Nat) × (Nat → Nat → Nat) × (Nat → Nat → Int) × (Nat → Nat → Int → Int) => match u with | (r', n', z', F', Er', En', Ez', EF') => (xU cI cB cE o r' n' z' F' G (Eo 0 0) ++ eP cI N Eo Er' En' Ez' EF'))) (tys := xT cI cB cE) (r_31, n_32, (va_up z_33 15 1), F_34, Er_35, En_36, Ez_37, EF_38) hx hb hr hlocks rfl hP hD hK hS dX5_findRows_59 (fun dn dm hdn hdm => ⟨⟨hok42, hfr42, hPE39, hef39⟩, ⟨by omega, by omega⟩, trivial⟩) (by omega) (by omega)
        · skip
          refine lv_aload_n hx hb dX5_findRows_18 rfl (lv_at hl 1 rfl) ?_
          refine lv_iload_n hx hb dX5_findRows_19 rfl (lv_at hl 0 rfl) ?_
          have hxG9 : xG N (zL10 12) G Eo := ⟨by omega, by omega, by omega, fun e9 h9 => hN4 e9 (by omega)⟩
          have hP : va_P (dC, dI) kxCl (xU cI cB cE o rL10 nL10 zL10 FL10 G (Eo 0 0) ++ eP cI N Eo ErL10 EnL10 EzL10 EFL10) H := hP
          refine xk_pure (va_runV (As := [.int (iz k)]) (rest := []) ⟨hx, hb, hml, hown, hts⟩ (y_known l dC dI cI cB cE o rL10 nL10 zL10 FL10 G N Eo ErL10 EnL10 EzL10 EFL10 k H.size hRLL10.1 hxG9 hRLL10.2.2.1 (by omega) (by omega)) (cwV 1 hts (kx_gV kq_18_xrows_8 kq_18_xrows_9 kq_18_xrows_10 kq_18_xrows_4 kq_18_xrows_11 rfl) rfl rfl rfl (by decide +kernel) ⟨Nat.le_of_ble_eq_true rfl, Nat.le_of_ble_eq_true rfl⟩) ⟨pPre_blind, va_recv hK hP (ci := 5) (q0 := 0) rfl rfl, pPre_give hP hK hG⟩ rfl rfl hl.1 rfl (lv_room (Nat.le_of_ble_eq_true rfl)) dX5_findRows_20 ⟨show cv + 0 ≤ 600 from (by omega), show sv + 0 ≤ 300000 from (by omega)⟩) hS (fun z_44 locs hq_43 hS => ?_)
          refine W.eq (g2 := F0 m 23 ls [.ref z_44.toNat]) rfl ?_
          try dsimp only at hq_43
          obtain ⟨j45, hj45, ez45, hje45⟩ := hq_43
          subst ez45
          refine W.eq (g2 := F0 m 23 ls [.ref (Eo j45 0)]) rfl ?_
          refine lv_aload_n hx hb dX5_findRows_23 rfl (lv_at hl 1 rfl) ?_
          refine lv_iload_n hx hb dX5_findRows_24 rfl (lv_at hl 0 rfl) ?_
          have hxG9 : xG N (zL10 12) G Eo := ⟨by omega, by omega, by omega, fun e9 h9 => hN4 e9 (by omega)⟩
          have hP : va_P (dC, dI) kxCl (xU cI cB cE o rL10 nL10 zL10 FL10 G (Eo 0 0) ++ eP cI N Eo ErL10 EnL10 EzL10 EFL10) H := hP
          refine xk_pure (va_runV (As := [.int (iz k)]) (rest := [.ref (Eo j45 0)]) ⟨hx, hb, hml, hown, hts⟩ (y_firstSame l dC dI cI cB cE o rL10 nL10 zL10 FL10 G N Eo ErL10 EnL10 EzL10 EFL10 k H.size hRLL10.1 hxG9 hRLL10.2.2.1 (by omega)) (cwV 1 hts (kx_gV kq_18_xrows_56 kq_18_xrows_57 kq_18_xrows_58 kq_18_xrows_4 kq_18_xrows_59 rfl) rfl rfl rfl (by decide +kernel) ⟨Nat.le_of_ble_eq_true rfl, Nat.le_of_ble_eq_true rfl⟩) ⟨pPre_blind, va_recv hK hP (ci := 5) (q0 := 0) rfl rfl, pPre_give hP hK hG⟩ rfl rfl hl.1 rfl (lv_room (Nat.le_of_ble_eq_true rfl)) dX5_findRows_25 ⟨show cv + 0 ≤ 600 from (by omega), show sv + 0 ≤ 300000 from (by omega)⟩) hS (fun z_47 locs hq_46 hS => ?_)
          refine W.eq (g2 := F0 m 28 ls [.int (iz z_47), .ref (Eo j45 0)]) rfl ?_
          try dsimp only at hq_46
          have hP := eP_foc hj45 hP
          have hD := eD_foc hj45 hD
          refine va_putN (D := (dC, dI)) (ci := 0) (v := .int (iz z_47)) (ty := .int) (C := RX0) (T := TX0) (N := 12) hx hb hts kt_X0 tyX0 tyX0_ok nmX0 hown hK hP hD hS 29 rfl rfl 8 (by decide) (va_Nw.use rfl (kx_nf hG kq_18_xrows_13)) (fun _ h9 => h9) rfl (by decide +kernel) rfl rfl (Nat.le_of_ble_eq_true rfl) dX5_findRows_28 (fun H locs hP hD hS => ?_)
          have hP : va_P (dC, dI) kxCl (((xU cI cB cE o rL10 nL10 zL10 FL10 G (Eo 0 0)) ++ (eU cI (Eo j45) (ErL10 j45) (EnL10 j45) (va_up (EzL10 j45) 10 z_47) (EFL10 j45))) ++ (eR cI N j45 Eo ErL10 EnL10 EzL10 EFL10)) H := hP
          have hD : va_D A (((xU cI cB cE o rL10 nL10 zL10 FL10 G (Eo 0 0)) ++ (eU cI (Eo j45) (ErL10 j45) (EnL10 j45) (va_up (EzL10 j45) 10 z_47) (EFL10 j45))) ++ (eR cI N j45 Eo ErL10 EnL10 EzL10 EFL10)) := hD
          refine lv_iinc (v := iz (k + 1)) (lv' := [(1, .int (iz (k + 1))), (0, .ref (o 15))]) hx hb dX5_findRows_31 hl (k := 0) rfl (iz_add k 1) (by decide) rfl (fun ls hl => ?_)
          refine lv_goto (tgt := 10) hx hb dX5_findRows_34 (by decide) ?_
          have hez_48 : -2147483648 ≤ EzL10 j45 10 ∧ EzL10 j45 10 < 2147483648 := (hRLL10.2.2.1 j45 hj45).2.2 10
          have hP : va_P (dC, dI) kxCl (((xU cI cB cE o rL10 nL10 zL10 FL10 G (Eo 0 0)) ++ (eU cI (Eo j45) (ErL10 j45) (EnL10 j45) (va_up (EzL10 j45) 10 z_47) (EFL10 j45))) ++ (eR cI N j45 Eo ErL10 EnL10 EzL10 EFL10)) H := hP
          have hD : va_D A (((xU cI cB cE o rL10 nL10 zL10 FL10 G (Eo 0 0)) ++ (eU cI (Eo j45) (ErL10 j45) (EnL10 j45) (va_up (EzL10 j45) 10 z_47) (EFL10 j45))) ++ (eR cI N j45 Eo ErL10 EnL10 EzL10 EFL10)) := hD
          have hP := eP_unf hj45 hP
          have hD := eD_unf hj45 hD
          have hPE49 := hRLL10.2.2.1.up j45 ((hRLL10.2.2.1 j45 hj45).sc 10 (by decide) (show -2147483648 ≤ z_47 by omega) (show z_47 < 2147483648 by omega))
          have hef49 := hRLL10.2.2.2.up j45 (z := (va_up (EzL10 j45) 10 z_47)) (n := (EnL10 j45)) (F := (EFL10 j45)) (fun k hk => (vfr hk _ (by decide) rfl)) (fun k hk => ⟨rfl, rfl⟩)
          generalize eEr49 : va_up ErL10 j45 (ErL10 j45) = Er49 at hP hD
          generalize eEn49 : va_up EnL10 j45 (EnL10 j45) = En49 at hP hD hPE49 hef49
          generalize eEz49 : va_up EzL10 j45 (va_up (EzL10 j45) 10 z_47) = Ez49 at hP hD hPE49 hef49
          generalize eEF49 : va_up EFL10 j45 (EFL10 j45) = EF49 at hP hD hPE49 hef49
          exact ih10 (k + 1) rL10 nL10 zL10 FL10 Er49 En49 Ez49 EF49 cv sv ⟨⟨hRLL10.1, hRLL10.2.1, hPE49, hef49⟩, ⟨by omega, by omega⟩, (show zL10 12 = z 12 by omega), by omega⟩ (by omega) _ _ hP hD hS ls (lv_sub hl [0, 1] rfl)
    exact lp10 _ 0 r n z F Er En Ez EF 0 0 ⟨⟨hok, hfr, hPE, hef⟩, ⟨by omega, by omega⟩, (show z 12 = z 12 by omega), by omega⟩ (Nat.lt_succ_self _) _ _ hP hD hS ls (lv_sub hl [0, 1] rfl)
  · skip
    rw [← hQe]
    exact xk_vret (ov := (fun _ : (Nat → Nat) × (Nat → Nat) × (Nat → Int) × (Nat → Int → Int) × (Nat → Nat → Nat) × (Nat → Nat → Nat) × (Nat → Nat → Int) × (Nat → Nat → Int → Int) => none)) (post := (fun (u : (Nat → Nat) × (Nat → Nat) × (Nat → Int) × (Nat → Int → Int) × (Nat → Nat → Nat) × (Nat → Nat → Nat) × (Nat → Nat → Int) × (Nat → Nat → Int → Int)) (dn dm : Nat) => match u with | (r', n', z', F', Er', En', Ez', EF') => xR [0, 1, 15] [0, 1] [10] [] N z F En Ez EF n' z' F' En' Ez' EF' ∧ (dn + xg n' ≤ xg n + 0 ∧ dm + xp n' ≤ xp n + 0) ∧ (True))) (ws := (fun u : (Nat → Nat) × (Nat → Nat) × (Nat → Int) × (Nat → Int → Int) × (Nat → Nat → Nat) × (Nat → Nat → Nat) × (Nat → Nat → Int) × (Nat → Nat → Int → Int) => match u with | (r', n', z', F', Er', En', Ez', EF') => (xU cI cB cE o r' n' z' F' G (Eo 0 0) ++ eP cI N Eo Er' En' Ez' EF'))) (tys := xT cI cB cE) (r, n, z, F, Er, En, Ez, EF) hx hb hr hlocks rfl hP hD hK hS dX5_findRows_7 (fun dn dm hdn hdm => ⟨⟨hok, hfr, hPE, hef⟩, ⟨by omega, by omega⟩, trivial⟩) (by omega) (by omega)
